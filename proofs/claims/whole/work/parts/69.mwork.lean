/-! ===== a WORK's text, as one pure reading: kind, first, second, where it goes on ===== -/
abbrev wE_ : Type := Nat × Option Nat × Option Nat × Option Nat
abbrev pW_ : Type := Except (Nat × Nat) (List wE_ × Nat)
def pagain (S : Option (Nat → Nat → pW_)) (c : Nat → Nat) (e row a : Nat) : pW_ := match S with
  | none => .error (3, a)
  | some s => pb (pnum c e 61 (nt c e a)) fun z => pb (psign c e 91 z.2) fun b => pb (s (row + 1) b) fun w => pb (psign c e 93 w.2) fun b2 => pb (psign c e 59 b2) fun b3 => .ok ((6, some z.1, none, some (row + 1 + w.1.length)) :: w.1, b3)
theorem pa_none {c : Nat → Nat} {e row a : Nat} : pagain none c e row a = .error (3, a) := rfl
theorem pa_some {s : Nat → Nat → pW_} {c : Nat → Nat} {e row a : Nat} : pagain (some s) c e row a = pb (pnum c e 61 (nt c e a)) fun z => pb (psign c e 91 z.2) fun b => pb (s (row + 1) b) fun w => pb (psign c e 93 w.2) fun b2 => pb (psign c e 59 b2) fun b3 => .ok ((6, some z.1, none, some (row + 1 + w.1.length)) :: w.1, b3) := rfl
def ptwo (c : Nat → Nat) (e n k row a : Nat) : pW_ := pb (pnum c e n (nt c e a)) fun z => pb (pnum c e n z.2) fun z2 => pb (psign c e 59 z2.2) fun b => .ok ([(k, some z.1, some z2.1, some (row + 1))], b)
def psgl (c : Nat → Nat) (e n k row a : Nat) : pW_ := pb (pnum c e n (nt c e a)) fun z => pb (psign c e 59 z.2) fun b => .ok ([(k, some z.1, none, some (row + 1))], b)
def pstep (S : Option (Nat → Nat → pW_)) (c : Nat → Nat) (e n row a : Nat) : pW_ :=
  if sk c e a = 0 then ptwo c e n 0 row a else if sk c e a = 1 then ptwo c e n 1 row a
  else if sk c e a = 2 then psgl c e n 2 row a else if sk c e a = 3 then psgl c e n 3 row a else if sk c e a = 4 then psgl c e n 4 row a
  else if sk c e a = 5 then pb (psign c e 59 (nt c e a)) fun b => .ok ([(5, none, none, some (row + 1))], b)
  else if sk c e a = 6 then pagain S c e row a else .error (1, a)
def plw (P : Nat → Nat → pW_) (c : Nat → Nat) (e row : Nat) : Nat → List wE_ → Nat → pW_
  | 0, L, a => .ok (L, a)
  | f + 1, L, a => if kd c e a = 2 then pb (P (row + L.length) a) fun z => plw P c e row f (L ++ z.1) z.2 else .ok (L, a)
theorem plw_0 {P : Nat → Nat → pW_} {c : Nat → Nat} {e row a : Nat} {L : List wE_} (h : ¬ kd c e a = 2) : ∀ f, plw P c e row f L a = .ok (L, a)
  | 0 => rfl
  | f + 1 => by rw [plw, if_neg h]
theorem plw_s {P : Nat → Nat → pW_} {c : Nat → Nat} {e row a f : Nat} {L : List wE_} (h : kd c e a = 2) : plw P c e row (f + 1) L a = pb (P (row + L.length) a) fun z => plw P c e row f (L ++ z.1) z.2 := by rw [plw, if_pos h]
def pstps (c : Nat → Nat) (e n : Nat) : Nat → Nat → Nat → pW_
  | 0 => fun row a => plw (pstep none c e n) c e row e [] a
  | l + 1 => fun row a => plw (pstep (some (pstps c e n l)) c e n) c e row e [] a
theorem sk_cs (c : Nat → Nat) (e a : Nat) : sk c e a = -1 ∨ sk c e a = 0 ∨ sk c e a = 1 ∨ sk c e a = 2 ∨ sk c e a = 3 ∨ sk c e a = 4 ∨ sk c e a = 5 ∨ sk c e a = 6 := by
  unfold sk
  repeat' split
  all_goals decide
theorem wis_len {c : Nat → Nat} {e a : Nat} {L : List Nat} (h : wis c e a L = true) : nx c e a - a = L.length := by
  unfold wis at h
  rw [Bool.and_eq_true, Bool.and_eq_true, decide_eq_true_eq, decide_eq_true_eq] at h
  exact h.2.1
theorem sk_2 {c : Nat → Nat} {e a : Nat} (h : ¬ sk c e a = -1) : kd c e a = 2 ∧ a + 3 ≤ nx c e a := by
  unfold sk at h
  repeat' split at h
  all_goals first
    | exact absurd rfl h
    | (refine ⟨wis_2 (by assumption), ?_⟩
       have h1 := wis_len (L := [116, 105, 101]) (c := c) (e := e) (a := a)
       rename_i q
       have q2 := wis_len q
       simp only [List.length_cons, List.length_nil] at q2
       omega)
theorem sk_k {c : Nat → Nat} {e a : Nat} (h : ¬ kd c e a = 2) : sk c e a = -1 := by
  have key : ∀ L : List Nat, ¬ wis c e a L = true := fun L q => h (wis_2 q)
  unfold sk
  rw [if_neg (key _), if_neg (key _), if_neg (key _), if_neg (key _), if_neg (key _), if_neg (key _), if_neg (key _)]
/-! ===== the reference reads a WORK ===== -/
def pU (x : Nat) : Bool := decide (417 ≤ x) && decide (x < 497)
def fU (i : Nat) : Bool := i == 4 || (i == 5 || (i == 6 || (i == 8 || i == 26)))
theorem fU_no {i : Nat} (p : fU i = false) : ¬ i = 4 ∧ ¬ i = 5 ∧ ¬ i = 6 ∧ ¬ i = 8 ∧ ¬ i = 26 := by simpa [fU] using p
def wrl (z : wE_) (r : Nat → Int32) : Prop := r 0 = nI z.1 ∧ (∀ v, z.2.1 = some v → r 1 = nI v) ∧ (∀ v, z.2.2.1 = some v → r 2 = nI v) ∧ (∀ v, z.2.2.2 = some v → r 3 = nI v)
def wst (c : Nat → Nat) (e n o : Nat) (L : List wE_) (h0 : hp_) (x : Nat) (h : hp_) : Prop := mst c e x h ∧ h 49 8 = nI o ∧ h 49 26 = nI L.length ∧ 3 * L.length ≤ x ∧ h 53 0 = nI n ∧ fr 49 pU fU h0 h ∧ ∀ i z, L[i]? = some z → wrl z (h (417 + i))
def wer (c : Nat → Nat) (e : Nat) (h0 : hp_) (k p : Nat) (h : hp_) : Prop := h 49 5 = nI k ∧ h 49 6 = nI p ∧ (¬ h 49 5 = 0) ∧ fr 49 pU fU h0 h ∧ h 49 2 = nI e ∧ fedok (h 50) c ∧ ∃ y : Nat, y ≤ e ∧ h 49 4 = nI y
theorem wst_R {c : Nat → Nat} {e n o : Nat} {L : List wE_} {h0 : hp_} : rdr c e (wst c e n o L h0) (wer c e h0) := by
  refine ⟨fun x h m => m.1, fun x y h r m hxy hy r4 r5 ro => ?_, fun x h r k p m hk hk2 r5 r6 r4 ro => ?_, fun k p h m => ⟨m.2.2.2.2.1, m.2.2.2.2.2.1, m.2.2.2.2.2.2, m.2.2.1⟩, fun k p y h r m hy r4 ro => ?_⟩
  · obtain ⟨m1, m2, m3, m4, m5, m6, m7⟩ := m
    refine ⟨mst_mv m1 hy r4 r5 (ro 2 (by decide) (by decide) (by decide)), (ro 8 (by decide) (by decide) (by decide)).trans m2, (ro 26 (by decide) (by decide) (by decide)).trans m3, by omega, m5, fr_tr m6 (fr_put (fun i p => ro i (fU_no p).1 (fU_no p).2.1 (fU_no p).2.2.1)), fun i z hi => ?_⟩
    rw [rs_ne (by omega)]
    exact m7 i z hi
  · exact ⟨r5, r6, (fun q => nI_k0 hk hk2 (r5.symm.trans q)), fr_tr m.2.2.2.2.2.1 (fr_put (fun i p => ro i (fU_no p).1 (fU_no p).2.1 (fU_no p).2.2.1)), (ro 2 (by decide) (by decide) (by decide)).trans m.1.1, m.1.2.2.1, r4⟩
  · obtain ⟨m1, m2, m3, m4, m5, m6, m7⟩ := m
    exact ⟨(ro 5 (by decide)).trans m1, (ro 6 (by decide)).trans m2, (fun q => m3 ((ro 5 (by decide)).symm.trans q)), fr_tr m4 (fr_put (fun i p => ro i (fU_no p).1)), (ro 2 (by decide)).trans m5, m6, y, hy, r4⟩
theorem wst_o {c : Nat → Nat} {e n o x : Nat} {L : List wE_} {h0 h : hp_} (m : wst c e n (o + 1) L h0 x h) : wst c e n o L h0 x (jj_rs h [(49, upd (h 49) 8 (nI (o + 1) - 1))]) := by
  obtain ⟨⟨a1, a2, a3, a4, a5⟩, m2, m3, m4, m5, m6, m7⟩ := m
  refine ⟨⟨(jj_une (by decide)).trans a1, (jj_une (by decide)).trans a2, a3, a4, (jj_une (by decide)).trans a5⟩, (jj_ueq rfl).trans nI_lim, (jj_une (by decide)).trans m3, m4, m5, fr_tr m6 (fr_put (fun i p => jj_une (fU_no p).2.2.2.1)), fun i z hi => ?_⟩
  rw [rs_ne (by omega)]
  exact m7 i z hi
theorem wer_49 {c : Nat → Nat} {e k p j : Nat} {h0 h : hp_} {v : Int32} (hj : j = 8 ∨ j = 26) (m : wer c e h0 k p h) : wer c e h0 k p (jj_rs h [(49, upd (h 49) j v)]) := by
  obtain ⟨m1, m2, m3, m4, m5, m6, y, m7, m8⟩ := m
  have n5 : ¬ 5 = j := by omega
  have n6 : ¬ 6 = j := by omega
  have n2 : ¬ 2 = j := by omega
  have n4 : ¬ 4 = j := by omega
  exact ⟨(jj_une n5).trans m1, (jj_une n6).trans m2, (fun q => m3 ((jj_une (f := h 49) (k := j) (v := v) n5).symm.trans q)), fr_tr m4 (fr_put (fun i p => jj_une (by have := fU_no p; omega))), (jj_une n2).trans m5, m6, y, m7, (jj_une n4).trans m8⟩
theorem gs_out {h : hp_} {G : Nat → Nat → Int32} {x : Nat} (hx : pU x = false) : jj_gs h 417 80 G x = h x := by
  unfold pU at hx
  unfold jj_gs
  rw [if_neg (fun q => by simp [q.1] at hx; omega)]
theorem wer_g {c : Nat → Nat} {e k p : Nat} {h0 h : hp_} {G : Nat → Nat → Int32} (m : wer c e h0 k p h) : wer c e h0 k p (jj_gs h 417 80 G) := by
  obtain ⟨m1, m2, m3, m4, m5⟩ := m
  exact ⟨m1, m2, m3, fr_tr m4 ⟨fun x hx _ => gs_out hx, fun i p => rfl⟩, m5⟩
theorem gs_in {h : hp_} {w k i : Nat} {v : Int32} (hi : i < 80) : jj_gs h 417 80 (jj_ug (jj_gd h 417 80) w k v) (417 + i) = if i = w then upd (h (417 + i)) k v else h (417 + i) := by
  have := jj_gs_at (B := h) (G := jj_ug (jj_gd h 417 80) w k v) (b := 417) (len := 80) (L := []) (x := i) rfl hi
  rw [jj_rs_nil] at this
  rw [this]
  unfold jj_ug
  rw [← jj_gd_at hi]
/-- the row of a step is begun -/
theorem wst_new {c : Nat → Nat} {e n o x K : Nat} {L : List wE_} {h0 h : hp_} {V : Int32} (he : e ≤ 150) (m : wst c e n o L h0 x h) (hx : 3 * (L.length + 1) ≤ x) (eV : V = nI K) : wst c e n o (L ++ [(K, none, none, none)]) h0 x (jj_rs (jj_gs h 417 80 (jj_ug (jj_gd h 417 80) (nI L.length).toNatClampNeg 0 V)) [(49, upd (h 49) 26 (nI L.length + 1))]) := by
  obtain ⟨⟨a1, a2, a3, a4, a5⟩, m2, m3, m4, m5, m6, m7⟩ := m
  rw [nI_clamp (by omega)]
  refine ⟨⟨(jj_une (by decide)).trans a1, (jj_une (by decide)).trans a2, a3, a4, (jj_une (by decide)).trans a5⟩, (jj_une (by decide)).trans m2, (jj_ueq rfl).trans (by rw [nI_1, List.length_append]; rfl), by rw [List.length_append, List.length_singleton]; exact hx, m5, fr_tr m6 ⟨fun y hy hy2 => ?_, fun i p => jj_une (fU_no p).2.2.2.2⟩, fun i z hi => ?_⟩
  · rw [rs_ne hy2]; exact gs_out hy
  · by_cases q : i < L.length
    · rw [List.getElem?_append_left q] at hi
      rw [rs_ne (by omega), gs_in (by omega), if_neg (by omega)]
      exact m7 i z hi
    · rw [List.getElem?_append_right (by omega)] at hi
      have hq : i - L.length = 0 := by
        rcases Nat.eq_zero_or_pos (i - L.length) with u | u
        · exact u
        · rw [List.getElem?_eq_none (by rw [List.length_singleton]; omega)] at hi; cases hi
      rw [hq] at hi
      have hz : z = (K, none, none, none) := by simpa using hi.symm
      rw [rs_ne (by omega), gs_in (by omega), if_pos (by omega), hz]
      exact ⟨(jj_ueq rfl).trans eV, fun v q => (by cases q), fun v q => (by cases q), fun v q => by cases q⟩
/-- a field of the row of a step is put -/
theorem wst_set {c : Nat → Nat} {e n o x w k : Nat} {L L2 : List wE_} {z z2 : wE_} {h0 h : hp_} {V : Int32} (he : e ≤ 150) (m : wst c e n o L h0 x h) (hw : L[w]? = some z) (e2 : L.set w z2 = L2) (hz : ∀ r, wrl z r → wrl z2 (upd r k V)) : wst c e n o L2 h0 x (jj_gs h 417 80 (jj_ug (jj_gd h 417 80) (nI w).toNatClampNeg k V)) := by
  subst e2
  obtain ⟨a1, m2, m3, m4, m5, m6, m7⟩ := m
  have hx := a1.2.2.2.1
  have hw2 : w < L.length := (List.getElem?_eq_some_iff.mp hw).1
  rw [nI_clamp (by omega)]
  refine ⟨a1, m2, by rw [List.length_set]; exact m3, by rw [List.length_set]; exact m4, m5, fr_tr m6 ⟨fun y hy _ => gs_out hy, fun i p => rfl⟩, fun i y hi => ?_⟩
  have hi2 : i < L.length := by
    have := (List.getElem?_eq_some_iff.mp hi).1
    rw [List.length_set] at this
    exact this
  rw [gs_in (by omega)]
  by_cases q : i = w
  · subst q
    rw [List.getElem?_set_self hw2] at hi
    cases hi
    rw [if_pos rfl]
    exact hz _ (m7 i z hw)
  · rw [List.getElem?_set_ne (fun u => q u.symm)] at hi
    rw [if_neg q]
    exact m7 i y hi
theorem wrl_1 {K : Nat} {f s t : Option Nat} {v : Nat} {r : Nat → Int32} (h : wrl (K, f, s, t) r) : wrl (K, some v, s, t) (upd r 1 (nI v)) := ⟨(jj_une (by decide)).trans h.1, fun u q => (by cases q; exact jj_ueq rfl), fun u q => (jj_une (by decide)).trans (h.2.2.1 u q), fun u q => (jj_une (by decide)).trans (h.2.2.2 u q)⟩
theorem wrl_2 {K : Nat} {f s t : Option Nat} {v : Nat} {r : Nat → Int32} (h : wrl (K, f, s, t) r) : wrl (K, f, some v, t) (upd r 2 (nI v)) := ⟨(jj_une (by decide)).trans h.1, fun u q => (jj_une (by decide)).trans (h.2.1 u q), fun u q => (by cases q; exact jj_ueq rfl), fun u q => (jj_une (by decide)).trans (h.2.2.2 u q)⟩
theorem wrl_3 {K : Nat} {f s t : Option Nat} {v : Nat} {r : Nat → Int32} (h : wrl (K, f, s, t) r) : wrl (K, f, s, some v) (upd r 3 (nI v)) := ⟨(jj_une (by decide)).trans h.1, fun u q => (jj_une (by decide)).trans (h.2.1 u q), fun u q => (jj_une (by decide)).trans (h.2.2.1 u q), fun u q => by cases q; exact jj_ueq rfl⟩
theorem la_get {L B : List wE_} {z : wE_} : (L ++ z :: B)[L.length]? = some z := by
  rw [List.getElem?_append_right (Nat.le_refl _), Nat.sub_self]
  rfl
theorem la_set {L B : List wE_} {z z2 : wE_} : (L ++ z :: B).set L.length z2 = L ++ z2 :: B := by
  rw [List.set_append_right _ _ (Nat.le_refl _), Nat.sub_self]
  rfl
section LW
variable {c : Nat → Nat} {e n o x D kc ks : Nat} {L : List wE_} {I : Nat → hp_ → Prop} {E : Nat → Nat → hp_ → Prop} {h0 h : hp_} {g : Nat → Nat → Int64} {Q : jj_Rs → jj_St → Prop}
theorem ll_step (R : rdr c e I E) (he : e ≤ 600) (m : I x h) (hb : spn isB c e x = x) (hD : 4 ≤ D) (k : ∀ h9, I x h9 → Q (.inl (some (.int (sk c e x)))) (jj_S, 782, h9, g)) : jj_R mX10_stepHere D kc ks (jj_S, 782, h, g) 0 [(0, .ref 49)] [] Q := by
  obtain ⟨d, rfl⟩ : ∃ d, D = d + 4 := ⟨D - 4, by omega⟩
  obtain ⟨hs, ha, hF, hx, hf⟩ := R.1 x h m
  have mv := R.2.1 x x h (upd (h 49) 4 (nI x)) m (Nat.le_refl x) hx (jj_ueq rfl) ((jj_une (by decide)).trans hf) (fun i i4 _ _ => jj_une i4)
  refine sp_stepHere he hs ha hF hx hf ?_
  rw [hb]
  exact k _ mv
theorem ll_wrong {K : Nat} {v p : Int32} (R : rdr c e I E) (m : I x h) (h1 : 0 < K) (h2 : K < 4) (ev : v = nI K) (ep : p = nI x) (k : ∀ h9, E K x h9 → Q (.inl none) (jj_S, 782, h9, g)) : jj_R mX10_wrong D kc ks (jj_S, 782, h, g) 0 [(0, .ref 49), (1, .int v), (2, .int p)] [] Q := by
  obtain ⟨hs, ha, hF, hx, hf⟩ := R.1 x h m
  refine sp_X10_wrong (d := D) ?_
  rw [wr_0 hf]
  refine k _ (R.2.2.1 x h _ K x m h1 h2 ((jj_une (by decide)).trans ((jj_ueq rfl).trans ev)) ((jj_ueq rfl).trans ep) ⟨x, hx, (jj_une (by decide)).trans ((jj_une (by decide)).trans ha)⟩ (fun i i4 i5 i6 => ?_))
  rw [jj_une i6, jj_une i5]
theorem ll_opw (m : wst c e n o L h0 x h) (ho : o ≤ 6) (hD : 1 ≤ D) (k1 : ¬ o = 6 → ∀ h9, wst c e n (o + 1) L h0 x h9 → Q (.inl (some (.int 1))) (jj_S, 782, h9, g)) (k2 : o = 6 → ∀ h9, wer c e h0 3 x h9 → Q (.inl (some (.int 0))) (jj_S, 782, h9, g)) : jj_R mX10_opensOne D kc ks (jj_S, 782, h, g) 0 [(0, .ref 49)] [] Q := by
  obtain ⟨d, rfl⟩ : ∃ d, D = d + 1 := ⟨D - 1, by omega⟩
  obtain ⟨⟨a1, a2, a3, a4, hf⟩, m2, m3, m4, m5, m6, m7⟩ := m
  refine sp_X10_opensOne ?_
  by_cases q : o = 6
  · have e1 : h 49 8 = 6 := by rw [m2, q]; rfl
    have er : rX10_opensOne_49 (h 49) = upd (upd (h 49) 5 3) 6 (h 49 4) := by unfold rX10_opensOne_49; rw [if_pos hf, if_pos e1, wr_0 hf]
    have ev : vX10_opensOne (h 49) = 0 := by unfold vX10_opensOne; rw [if_pos hf, if_pos e1, wr_0 hf, if_neg (by rw [jj_une (by decide), jj_ueq rfl]; decide)]
    rw [er, ev]
    refine k2 q _ ⟨(jj_une (by decide)).trans (jj_ueq rfl), (jj_ueq rfl).trans a2, (fun z => ?_), fr_tr m6 (fr_put (fun i p => ?_)), (jj_une (by decide)).trans ((jj_une (by decide)).trans a1), a3, x, a4, (jj_une (by decide)).trans ((jj_une (by decide)).trans a2)⟩
    · have : upd (upd (h 49) 5 3) 6 (h 49 4) 5 = 0 := z
      rw [jj_une (by decide), jj_ueq rfl] at this
      exact absurd this (by decide)
    · rw [jj_une (fU_no p).2.2.1, jj_une (fU_no p).2.1]
  · have e1 : ¬ h 49 8 = 6 := by rw [m2]; exact fun z => q ((nI_eq (a := o) (b := 6) (by omega) (by decide)).mp z)
    have er : rX10_opensOne_49 (h 49) = upd (h 49) 8 (nI (o + 1)) := by unfold rX10_opensOne_49; rw [if_pos hf, if_neg e1, m2, nI_1]
    have ev : vX10_opensOne (h 49) = 1 := by unfold vX10_opensOne; rw [if_pos hf, if_neg e1]
    rw [er, ev]
    refine k1 q _ ⟨⟨(jj_une (by decide)).trans a1, (jj_une (by decide)).trans a2, a3, a4, (jj_une (by decide)).trans hf⟩, jj_ueq rfl, (jj_une (by decide)).trans m3, m4, m5, fr_tr m6 (fr_put (fun i p => jj_une (fU_no p).2.2.2.1)), fun i z hi => ?_⟩
    rw [rs_ne (by omega)]
    exact m7 i z hi
end LW
/-- what readsStep owes -/
def wspec (B : Nat) (par : Nat → Nat → pW_) (c : Nat → Nat) (e n o : Nat) : Prop := ∀ ⦃D kc ks x : Nat⦄ ⦃L0 : List wE_⦄ ⦃h0 h : hp_⦄ ⦃g : Nat → Nat → Int64⦄ ⦃Q : jj_Rs → jj_St → Prop⦄, B ≤ D → spn isB c e x = x → wst c e n o L0 h0 x h →
  (∀ L b y h9, par L0.length x = .ok (L, b) → x < y → spn isB c e y = b → wst c e n o (L0 ++ L) h0 y h9 → Q (.inl none) (jj_S, 782, h9, g)) →
  (∀ k p h9, par L0.length x = .error (k, p) → wer c e h0 k p h9 → Q (.inl none) (jj_S, 782, h9, g)) → jj_R mX10_readsStep D kc ks (jj_S, 782, h, g) 0 [(0, .ref 49)] [] Q
