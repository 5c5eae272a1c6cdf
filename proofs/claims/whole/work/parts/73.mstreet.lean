/-! ===== a STREET's text, as one pure reading: persons, string, friends ===== -/
abbrev pP_ : Type := Nat × Nat × Nat × Nat
abbrev sT_ : Type := List pP_ × Nat × (Nat → Int32)
def fu (F : Nat → Int32) (a b : Nat) : Nat → Int32 := upd (upd F a (F a ||| (1 <<< (nI b &&& 31)))) b (upd F a (F a ||| (1 <<< (nI b &&& 31))) b ||| (1 <<< (nI a &&& 31)))
theorem fu_row {F r : Nat → Int32} {a b N : Nat} (h : ∀ i, i < N → r i = F i) (ha : a < N) (hb : b < N) : ∀ i, i < N → upd (upd r a (r a ||| (1 <<< (nI b &&& 31)))) b (upd r a (r a ||| (1 <<< (nI b &&& 31))) b ||| (1 <<< (nI a &&& 31))) i = fu F a b i := by
  intro i hi
  have h1 : ∀ j, j < N → upd r a (r a ||| (1 <<< (nI b &&& 31))) j = upd F a (F a ||| (1 <<< (nI b &&& 31))) j := by
    intro j hj
    by_cases q : j = a
    · rw [jj_ueq q, jj_ueq q, h a ha]
    · rw [jj_une q, jj_une q, h j hj]
  unfold fu
  by_cases q : i = b
  · rw [jj_ueq q, jj_ueq q, h1 b hb]
  · rw [jj_une q, jj_une q, h1 i hi]
def ppers (c : Nat → Nat) (e : Nat) (S : sT_) (a : Nat) : Except (Nat × Nat) (sT_ × Nat) := pb (pnum c e 10 (nt c e a)) fun z1 => pb (pnum c e 10 z1.2) fun z2 => pb (pnum c e 21 z2.2) fun z3 => pb (pnum c e 21 z3.2) fun z4 => pb (psign c e 59 z4.2) fun b => .ok ((S.1 ++ [(z1.1, z2.1, z3.1, z4.1)], S.2.1, S.2.2), b)
def pfrnd (c : Nat → Nat) (e : Nat) (S : sT_) (a : Nat) : Except (Nat × Nat) (sT_ × Nat) := pb (pnum c e S.1.length a) fun z1 => pb (pnum c e S.1.length z1.2) fun z2 => if z2.1 = z1.1 then .error (2, z1.2) else .ok ((S.1, S.2.1, fu S.2.2 z1.1 z2.1), z2.2)
def pclause (c : Nat → Nat) (e j : Nat) (S : sT_) (a : Nat) : Except (Nat × Nat) (sT_ × Nat) :=
  if wis c e a [112, 101, 114, 115, 111, 110] = true then (if j = 60 ∨ S.1.length = 8 then .error (3, a) else ppers c e S a)
  else if wis c e a [102, 114, 105, 101, 110, 100] = true then (if j = 60 then .error (3, a) else pb (pfrnd c e S (nt c e a)) fun z => pb (psign c e 59 z.2) fun b => .ok (z.1, b))
  else if wis c e a [115, 116, 114, 105, 110, 103] = true then (if j = 60 then .error (3, a) else pb (pnum c e 100 (nt c e a)) fun z => pb (psign c e 59 z.2) fun b => .ok ((S.1, z.1, S.2.2), b))
  else .error (1, a)
def pls (c : Nat → Nat) (e : Nat) : Nat → Nat → sT_ → Nat → Except (Nat × Nat) (sT_ × Nat)
  | 0, _, S, a => .ok (S, a)
  | f + 1, j, S, a => if kd c e a = 2 then pb (pclause c e j S a) fun z => pls c e f (j + 1) z.1 z.2 else .ok (S, a)
theorem pls_0 {c : Nat → Nat} {e j a : Nat} {S : sT_} (h : ¬ kd c e a = 2) : ∀ f, pls c e f j S a = .ok (S, a)
  | 0 => rfl
  | f + 1 => by rw [pls, if_neg h]
theorem pls_s {c : Nat → Nat} {e j a f : Nat} {S : sT_} (h : kd c e a = 2) : pls c e (f + 1) j S a = pb (pclause c e j S a) fun z => pls c e f (j + 1) z.1 z.2 := by rw [pls, if_pos h]
/-- which clause -/
def kk (c : Nat → Nat) (e a : Nat) : Int32 := if wis c e a [112, 101, 114, 115, 111, 110] = true then 0 else if wis c e a [102, 114, 105, 101, 110, 100] = true then 1 else if wis c e a [115, 116, 114, 105, 110, 103] = true then 2 else -1
/-! ===== the reference reads a STREET ===== -/
def pT (x : Nat) : Bool := x == 52 || (x == 72 || (decide (55 ≤ x) && decide (x < 63)))
theorem pT_no {x : Nat} (p : pT x = false) : (x == 52) = false ∧ (x == 72) = false ∧ ¬ (55 ≤ x ∧ x < 63) := by
  unfold pT at p
  rw [Bool.or_eq_false_iff, Bool.or_eq_false_iff] at p
  refine ⟨p.1, p.2.1, fun q => ?_⟩
  have := p.2.2
  simp [q.1] at this
  omega
def fT (i : Nat) : Bool := i == 4 || (i == 5 || (i == 6 || i == 7))
theorem fT_no {i : Nat} (p : fT i = false) : ¬ i = 4 ∧ ¬ i = 5 ∧ ¬ i = 6 ∧ ¬ i = 7 := by simpa [fT] using p
def tst (c : Nat → Nat) (e j : Nat) (S : sT_) (Z : List Nat) (h0 : hp_) (x : Nat) (h : hp_) : Prop := mst c e x h ∧ h 49 7 = nI j ∧ j ≤ 60 ∧ h 52 0 = nI S.1.length ∧ S.1.length ≤ 8 ∧ h 52 1 = nI S.2.1 ∧ (∀ i, i < 8 → h 72 i = S.2.2 i) ∧ (∀ i z, S.1[i]? = some z → h (55 + i) 0 = nI z.1 ∧ h (55 + i) 1 = nI z.2.1 ∧ h (55 + i) 2 = nI z.2.2.1 ∧ h (55 + i) 3 = nI z.2.2.2) ∧ (∀ i v, Z[i]? = some v → h (55 + S.1.length) i = nI v) ∧ fr 49 pT fT h0 h
def ter (c : Nat → Nat) (e N : Nat) (h0 : hp_) (k p : Nat) (h : hp_) : Prop := h 49 5 = nI k ∧ h 49 6 = nI p ∧ (¬ h 49 5 = 0) ∧ fr 49 pT fT h0 h ∧ h 49 2 = nI e ∧ fedok (h 50) c ∧ (∃ y : Nat, y ≤ e ∧ h 49 4 = nI y) ∧ h 52 0 = nI N
theorem tst_R {c : Nat → Nat} {e j : Nat} {S : sT_} {Z : List Nat} {h0 : hp_} : rdr c e (tst c e j S Z h0) (ter c e S.1.length h0) := by
  refine ⟨fun x h m => m.1, fun x y h r m hxy hy r4 r5 ro => ?_, fun x h r k p m hk hk2 r5 r6 r4 ro => ?_, fun k p h m => ⟨m.2.2.2.2.1, m.2.2.2.2.2.1, m.2.2.2.2.2.2.1, m.2.2.1⟩, fun k p y h r m hy r4 ro => ?_⟩
  · obtain ⟨m1, m2, m3, m4, m5, m6, m7, m8, m9, m10⟩ := m
    refine ⟨mst_mv m1 hy r4 r5 (ro 2 (by decide) (by decide) (by decide)), (ro 7 (by decide) (by decide) (by decide)).trans m2, m3, m4, m5, m6, m7, fun i z hi => ?_, fun i v hi => ?_, fr_tr m10 (fr_put (fun i p => ro i (fT_no p).1 (fT_no p).2.1 (fT_no p).2.2.1))⟩
    · have := (List.getElem?_eq_some_iff.mp hi).1
      rw [rs_ne (by omega)]
      exact m8 i z hi
    · rw [rs_ne (by omega)]
      exact m9 i v hi
  · exact ⟨r5, r6, (fun q => nI_k0 hk hk2 (r5.symm.trans q)), fr_tr m.2.2.2.2.2.2.2.2.2 (fr_put (fun i p => ro i (fT_no p).1 (fT_no p).2.1 (fT_no p).2.2.1)), (ro 2 (by decide) (by decide) (by decide)).trans m.1.1, m.1.2.2.1, r4, m.2.2.2.1⟩
  · obtain ⟨m1, m2, m3, m4, m5, m6, m7, m8⟩ := m
    exact ⟨(ro 5 (by decide)).trans m1, (ro 6 (by decide)).trans m2, (fun q => m3 ((ro 5 (by decide)).symm.trans q)), fr_tr m4 (fr_put (fun i p => ro i (fT_no p).1)), (ro 2 (by decide)).trans m5, m6, ⟨y, hy, r4⟩, m8⟩
theorem gp_out {h : hp_} {G : Nat → Nat → Int32} {x : Nat} (hx : ¬ (55 ≤ x ∧ x < 63)) : jj_gs h 55 8 G x = h x := by
  unfold jj_gs
  rw [if_neg hx]
theorem gp_in {h : hp_} {w k i : Nat} {v : Int32} (hi : i < 8) : jj_gs h 55 8 (jj_ug (jj_gd h 55 8) w k v) (55 + i) = if i = w then upd (h (55 + i)) k v else h (55 + i) := by
  have := jj_gs_at (B := h) (G := jj_ug (jj_gd h 55 8) w k v) (b := 55) (len := 8) (L := []) (x := i) rfl hi
  rw [jj_rs_nil] at this
  rw [this]
  unfold jj_ug
  rw [← jj_gd_at hi]
theorem ter_g {c : Nat → Nat} {e N k p : Nat} {h0 h : hp_} {G : Nat → Nat → Int32} (m : ter c e N h0 k p h) : ter c e N h0 k p (jj_gs h 55 8 G) := by
  obtain ⟨m1, m2, m3, m4, m5, m6, m7, m8⟩ := m
  exact ⟨m1, m2, m3, fr_tr m4 ⟨fun x hx _ => gp_out (pT_no hx).2.2, fun i p => rfl⟩, m5, m6, m7, m8⟩
theorem ter_52 {c : Nat → Nat} {e N k p : Nat} {h0 h : hp_} {r : Nat → Int32} (m : ter c e N h0 k p h) (hr : r 0 = nI N) : ter c e N h0 k p (jj_rs h [(52, r)]) := by
  obtain ⟨m1, m2, m3, m4, m5, m6, m7, m8⟩ := m
  exact ⟨m1, m2, m3, fr_tr m4 ⟨fun x hx _ => rs_ne (fun q => by have := (pT_no hx).1; rw [q] at this; exact absurd this (by decide)), fun i p => rfl⟩, m5, m6, m7, hr⟩
/-- one more number of the person that is told -/
theorem tst_z {c : Nat → Nat} {e j x i : Nat} {S : sT_} {Z : List Nat} {v : Nat} {h0 h : hp_} (m : tst c e j S Z h0 x h) (hS : S.1.length < 8) (hi : i = Z.length) : tst c e j S (Z ++ [v]) h0 x (jj_gs h 55 8 (jj_ug (jj_gd h 55 8) (nI S.1.length).toNatClampNeg i (nI v))) := by
  obtain ⟨m1, m2, m3, m4, m5, m6, m7, m8, m9, m10⟩ := m
  rw [nI_clamp (by omega)]
  refine ⟨m1, m2, m3, m4, m5, m6, m7, fun k z hk => ?_, fun k w hk => ?_, fr_tr m10 ⟨fun x hx _ => gp_out (pT_no hx).2.2, fun i p => rfl⟩⟩
  · have := (List.getElem?_eq_some_iff.mp hk).1
    rw [gp_in (by omega), if_neg (by omega)]
    exact m8 k z hk
  · rw [gp_in (by omega), if_pos rfl]
    by_cases q : k < Z.length
    · rw [List.getElem?_append_left q] at hk
      rw [jj_une (by omega)]
      exact m9 k w hk
    · rw [List.getElem?_append_right (by omega)] at hk
      have hq : k - Z.length = 0 := by
        rcases Nat.eq_zero_or_pos (k - Z.length) with u | u
        · exact u
        · rw [List.getElem?_eq_none (by rw [List.length_singleton]; omega)] at hk; cases hk
      rw [hq] at hk
      have hz : w = v := by simpa using hk.symm
      rw [jj_ueq (by omega), hz]
theorem tst_add {c : Nat → Nat} {e j x z1 z2 z3 z4 : Nat} {S : sT_} {h0 h : hp_} (m : tst c e j S [z1, z2, z3, z4] h0 x h) (hS : S.1.length < 8) : tst c e j (S.1 ++ [(z1, z2, z3, z4)], S.2.1, S.2.2) [] h0 x (jj_rs h [(52, upd (h 52) 0 (nI S.1.length + 1))]) := by
  obtain ⟨m1, m2, m3, m4, m5, m6, m7, m8, m9, m10⟩ := m
  refine ⟨m1, m2, m3, (jj_ueq rfl).trans (by rw [nI_1]; show nI (S.1.length + 1) = nI (S.1 ++ [(z1, z2, z3, z4)]).length; rw [List.length_append]; rfl), by show (S.1 ++ [(z1, z2, z3, z4)]).length ≤ 8; rw [List.length_append, List.length_singleton]; omega, (jj_une (by decide)).trans m6, m7, fun i z hi => ?_, fun i v hi => (by cases hi), fr_tr m10 ⟨fun x hx _ => rs_ne (fun q => by have := (pT_no hx).1; rw [q] at this; exact absurd this (by decide)), fun i p => rfl⟩⟩
  rw [rs_ne (by
    have := (List.getElem?_eq_some_iff.mp hi).1
    have h2 : (S.1 ++ [(z1, z2, z3, z4)]).length = S.1.length + 1 := by rw [List.length_append]; rfl
    have h3 : i < (S.1 ++ [(z1, z2, z3, z4)]).length := this
    rw [h2] at h3
    omega)]
  have hi2 : (S.1 ++ [(z1, z2, z3, z4)])[i]? = some z := hi
  by_cases q : i < S.1.length
  · rw [List.getElem?_append_left q] at hi2
    exact m8 i z hi2
  · rw [List.getElem?_append_right (by omega)] at hi2
    have hq : i - S.1.length = 0 := by
      rcases Nat.eq_zero_or_pos (i - S.1.length) with u | u
      · exact u
      · rw [List.getElem?_eq_none (by rw [List.length_singleton]; omega)] at hi2; cases hi2
    rw [hq] at hi2
    have hz : z = (z1, z2, z3, z4) := by simpa using hi2.symm
    have hi3 : i = S.1.length := by omega
    subst hz hi3
    exact ⟨m9 0 z1 rfl, m9 1 z2 rfl, m9 2 z3 rfl, m9 3 z4 rfl⟩
theorem tst_7 {c : Nat → Nat} {e j x : Nat} {S : sT_} {h0 h : hp_} (m : tst c e j S [] h0 x h) (hj : j < 60) : tst c e (j + 1) S [] h0 x (jj_rs h [(49, upd (h 49) 7 (nI j + 1))]) := by
  obtain ⟨⟨a1, a2, a3, a4, a5⟩, m2, m3, m4, m5, m6, m7, m8, m9, m10⟩ := m
  refine ⟨⟨(jj_une (by decide)).trans a1, (jj_une (by decide)).trans a2, a3, a4, (jj_une (by decide)).trans a5⟩, (jj_ueq rfl).trans (by rw [nI_1]), by omega, m4, m5, m6, m7, fun i z hi => ?_, fun i v hi => (by cases hi), fr_tr m10 (fr_put (fun i p => jj_une (fT_no p).2.2.2))⟩
  have := (List.getElem?_eq_some_iff.mp hi).1
  rw [rs_ne (by omega)]
  exact m8 i z hi
theorem tst_s {c : Nat → Nat} {e j x v : Nat} {S : sT_} {h0 h : hp_} (m : tst c e j S [] h0 x h) : tst c e j (S.1, v, S.2.2) [] h0 x (jj_rs h [(52, upd (h 52) 1 (nI v))]) := by
  obtain ⟨m1, m2, m3, m4, m5, m6, m7, m8, m9, m10⟩ := m
  refine ⟨m1, m2, m3, (jj_une (by decide)).trans m4, m5, jj_ueq rfl, m7, fun i z hi => ?_, fun i v hi => (by cases hi), fr_tr m10 ⟨fun x hx _ => rs_ne (fun q => by have := (pT_no hx).1; rw [q] at this; exact absurd this (by decide)), fun i p => rfl⟩⟩
  have := (List.getElem?_eq_some_iff.mp hi).1
  have h9 : i < S.1.length := this
  rw [rs_ne (by omega)]
  exact m8 i z hi
theorem tst_f {c : Nat → Nat} {e j x a b : Nat} {S : sT_} {h0 h : hp_} (m : tst c e j S [] h0 x h) (ha : a < S.1.length) (hb : b < S.1.length) : tst c e j (S.1, S.2.1, fu S.2.2 a b) [] h0 x (jj_rs h [(72, upd (upd (h 72) (nI a).toNatClampNeg ((h 72) (nI a).toNatClampNeg ||| (1 <<< (nI b &&& 31)))) (nI b).toNatClampNeg (upd (h 72) (nI a).toNatClampNeg ((h 72) (nI a).toNatClampNeg ||| (1 <<< (nI b &&& 31))) (nI b).toNatClampNeg ||| (1 <<< (nI a &&& 31))))]) := by
  obtain ⟨m1, m2, m3, m4, m5, m6, m7, m8, m9, m10⟩ := m
  rw [nI_clamp (show a < 2 ^ 31 by omega), nI_clamp (show b < 2 ^ 31 by omega)]
  refine ⟨m1, m2, m3, m4, m5, m6, fu_row m7 (by omega) (by omega), fun i z hi => ?_, fun i v hi => (by cases hi), fr_tr m10 ⟨fun x hx _ => rs_ne (fun q => by have := (pT_no hx).2.1; rw [q] at this; exact absurd this (by decide)), fun i p => rfl⟩⟩
  have := (List.getElem?_eq_some_iff.mp hi).1
  have h9 : i < S.1.length := this
  rw [rs_ne (by omega)]
  exact m8 i z hi
theorem ll_kind {c : Nat → Nat} {e x D kc ks : Nat} {I : Nat → hp_ → Prop} {E : Nat → Nat → hp_ → Prop} {h : hp_} {g : Nat → Nat → Int64} {Q : jj_Rs → jj_St → Prop} (R : rdr c e I E) (he : e ≤ 600) (m : I x h) (hb : spn isB c e x = x) (hD : 4 ≤ D) (k : ∀ h9, I x h9 → Q (.inl (some (.int (kk c e x)))) (jj_S, 782, h9, g)) : jj_R mX10_kindHere D kc ks (jj_S, 782, h, g) 0 [(0, .ref 49)] [] Q := by
  obtain ⟨d, rfl⟩ : ∃ d, D = d + 4 := ⟨D - 4, by omega⟩
  obtain ⟨hs, ha, hF, hx, hf⟩ := R.1 x h m
  have mv := R.2.1 x x h (upd (h 49) 4 (nI x)) m (Nat.le_refl x) hx (jj_ueq rfl) ((jj_une (by decide)).trans hf) (fun i i4 _ _ => jj_une i4)
  refine sp_kindHere he hs ha hF hx hf ?_
  rw [hb]
  exact k _ mv
theorem ll_wrongP {c : Nat → Nat} {e x D kc ks K p0 : Nat} {I : Nat → hp_ → Prop} {E : Nat → Nat → hp_ → Prop} {h : hp_} {g : Nat → Nat → Int64} {Q : jj_Rs → jj_St → Prop} {v p : Int32} (R : rdr c e I E) (m : I x h) (h1 : 0 < K) (h2 : K < 4) (ev : v = nI K) (ep : p = nI p0) (k : ∀ h9, E K p0 h9 → Q (.inl none) (jj_S, 782, h9, g)) : jj_R mX10_wrong D kc ks (jj_S, 782, h, g) 0 [(0, .ref 49), (1, .int v), (2, .int p)] [] Q := by
  obtain ⟨hs, ha, hF, hx, hf⟩ := R.1 x h m
  refine sp_X10_wrong (d := D) ?_
  rw [wr_0 hf]
  refine k _ (R.2.2.1 x h _ K p0 m h1 h2 ((jj_une (by decide)).trans ((jj_ueq rfl).trans ev)) ((jj_ueq rfl).trans ep) ⟨x, hx, (jj_une (by decide)).trans ((jj_une (by decide)).trans ha)⟩ (fun i i4 i5 i6 => ?_))
  rw [jj_une i6, jj_une i5]
set_option maxHeartbeats 2000000 in
theorem st_friends {c : Nat → Nat} {e j x a D kc ks : Nat} {S : sT_} {h0 h : hp_} {g : Nat → Nat → Int64} {Q : jj_Rs → jj_St → Prop} (he6 : e ≤ 600) (hD : 3 ≤ D) (hsx : spn isB c e x = a) (m : tst c e j S [] h0 x h) (k1 : ∀ S2 b y h9, pfrnd c e S a = .ok (S2, b) → x < y → spn isB c e y = b → tst c e j S2 [] h0 y h9 → Q (.inl none) (jj_S, 782, h9, g)) (k2 : ∀ k p h9, pfrnd c e S a = .error (k, p) → ter c e S.1.length h0 k p h9 → Q (.inl none) (jj_S, 782, h9, g)) : jj_R mX10_friends D kc ks (jj_S, 782, h, g) 0 [(0, .ref 49)] [] Q := by
  obtain ⟨d, rfl⟩ : ∃ d, D = d + 3 := ⟨D - 3, by omega⟩
  have hS8 := m.2.2.2.2.1
  have hax : x ≤ a := by rw [← hsx]; exact spn_ge
  unfold pfrnd at k1 k2
  refine rr_aload_n 0 rfl rfl dX10_friends_0 ?_
  refine rr_iconst 0 rfl dX10_friends_1 ?_
  refine rr_aload_n 0 rfl rfl dX10_friends_2 ?_
  refine rr_getR dX10_friends_3 fX10_20 lo_49 sh_49 rfl ?_
  refine rr_iconst 0 rfl dX10_friends_6 ?_
  refine rr_iaload dX10_friends_7 lo_52 sh_52 (jj_inL rfl) ?_
  rw [show (h 52) (0 : Int32).toNatClampNeg = (nI (S.1.length)) from m.2.2.2.1]
  refine rr_iconst 1 rfl dX10_friends_8 ?_
  refine rr_isub dX10_friends_9 ?_
  refine rr_callV (As := [.int 0, .int ((nI (S.1.length)) - 1)]) (rest := []) (kc2 := 0) (ks2 := 0) dX10_friends_10 okX10_number lX10_157 lo_49 sh_49 rfl rfl (Nat.le_of_ble_eq_true rfl) (Nat.le_of_ble_eq_true rfl) rfl (by omega) (by simp [jj_rk]) (by simp [jj_rk]) ?_
  refine ll_num (lim := S.1.length) tst_R he6 m (by omega) rfl (by omega) (fun v1 b1 y1 h e1 hv1 hy1 sy1 m => ?_) (fun k p h e1 m => ?_)
  · skip
    rw [hsx] at e1
    rw [pb_ok e1] at k1 k2
    show jj_R _ _ kc ks (jj_S, 782, h, g) 13 [(0, .ref 49)] [.int (nI v1)] Q
    refine rr_istore_n [(0, .ref 49), (1, .int (nI v1))] dX10_friends_13 rfl (by decide) rfl ?_
    refine rr_aload_n 0 rfl rfl dX10_friends_14 ?_
    refine rr_callV (As := []) (rest := []) (kc2 := 0) (ks2 := 0) dX10_friends_15 okX10_blanks lX10_117 lo_49 sh_49 rfl rfl (Nat.le_of_ble_eq_true rfl) (Nat.le_of_ble_eq_true rfl) rfl (by omega) (by simp [jj_rk]) (by simp [jj_rk]) ?_
    refine ll_blanks tst_R he6 m (by omega) (fun h m => ?_)
    rw [sy1] at m
    have sb1 : spn isB c e b1 = b1 := by rw [← sy1, spn_idem]
    have sl1 := spn_ge (P := isB) (c := c) (e := e) (x := y1)
    show jj_R _ _ kc ks (jj_S, 782, h, g) 18 [(0, .ref 49), (1, .int (nI v1))] [] Q
    refine rr_aload_n 0 rfl rfl dX10_friends_18 ?_
    refine rr_getI dX10_friends_19 fX10_104 lo_49 sh_49 rfl ?_
    rw [show (h 49) 4 = (nI b1) from m.1.2.1]
    refine rr_istore_n [(0, .ref 49), (1, .int (nI v1)), (2, .int (nI b1))] dX10_friends_22 rfl (by decide) rfl ?_
    refine rr_aload_n 0 rfl rfl dX10_friends_23 ?_
    refine rr_iconst 0 rfl dX10_friends_24 ?_
    refine rr_aload_n 0 rfl rfl dX10_friends_25 ?_
    refine rr_getR dX10_friends_26 fX10_20 lo_49 sh_49 rfl ?_
    refine rr_iconst 0 rfl dX10_friends_29 ?_
    refine rr_iaload dX10_friends_30 lo_52 sh_52 (jj_inL rfl) ?_
    rw [show (h 52) (0 : Int32).toNatClampNeg = (nI (S.1.length)) from m.2.2.2.1]
    refine rr_iconst 1 rfl dX10_friends_31 ?_
    refine rr_isub dX10_friends_32 ?_
    refine rr_callV (As := [.int 0, .int ((nI (S.1.length)) - 1)]) (rest := []) (kc2 := 0) (ks2 := 0) dX10_friends_33 okX10_number lX10_157 lo_49 sh_49 rfl rfl (Nat.le_of_ble_eq_true rfl) (Nat.le_of_ble_eq_true rfl) rfl (by omega) (by simp [jj_rk]) (by simp [jj_rk]) ?_
    refine ll_num (lim := S.1.length) tst_R he6 m (by omega) rfl (by omega) (fun v2 b2 y2 h e1 hv2 hy2 sy2 m => ?_) (fun k p h e1 m => ?_)
    · skip
      rw [sb1] at e1
      rw [pb_ok e1] at k1 k2
      show jj_R _ _ kc ks (jj_S, 782, h, g) 36 [(0, .ref 49), (1, .int (nI v1)), (2, .int (nI b1))] [.int (nI v2)] Q
      refine rr_istore_n [(0, .ref 49), (1, .int (nI v1)), (2, .int (nI b1)), (3, .int (nI v2))] dX10_friends_36 rfl (by decide) rfl ?_
      refine rr_aload_n 0 rfl rfl dX10_friends_37 ?_
      refine rr_getI dX10_friends_38 fX10_111 lo_49 sh_49 rfl ?_
      rw [show (h 49) 5 = 0 from m.1.2.2.2.2]
      refine rr_if_ne dX10_friends_41 (fun c => absurd c (by decide)) (fun _ => ?_)
      refine rr_iload_n 1 rfl rfl dX10_friends_44 ?_
      refine rr_iload_n 3 rfl rfl dX10_friends_45 ?_
      refine rr_icmp_ne dX10_friends_46 (fun c1 => ?_) (fun c1 => ?_)
      · skip
        have ev : ¬ v2 = v1 := fun q => by
          rw [q] at c1
          exact c1 rfl
        dsimp only at k1
        rw [if_neg ev] at k1
        refine rr_aload_n 0 rfl rfl dX10_friends_55 ?_
        refine rr_getI dX10_friends_56 fX10_111 lo_49 sh_49 rfl ?_
        rw [show (h 49) 5 = 0 from m.1.2.2.2.2]
        refine rr_if_eq dX10_friends_59 (fun _ => ?_) (fun c => absurd (by decide) c)
        refine rr_aload_n 0 rfl rfl dX10_friends_63 ?_
        refine rr_getR dX10_friends_64 fX10_34 lo_49 sh_49 rfl ?_
        refine rr_iload_n 1 rfl rfl dX10_friends_67 ?_
        refine rr_dup2 rfl rfl dX10_friends_68 ?_
        refine rr_iaload dX10_friends_69 lo_72 sh_72 (vp_in_nI (by omega) (by decide)) ?_
        refine rr_iconst 1 rfl dX10_friends_70 ?_
        refine rr_iload_n 3 rfl rfl dX10_friends_71 ?_
        refine rr_ishl dX10_friends_72 ?_
        refine rr_ior dX10_friends_73 ?_
        refine rr_iastore dX10_friends_74 lo_72 sh_72 (vp_in_nI (by omega) (by decide)) ?_
        rw [jj_rs_set0 (B := h) (o := 72) (r := (h 72)) rfl]
        refine rr_aload_n 0 rfl rfl dX10_friends_75 ?_
        refine rr_getR dX10_friends_76 fX10_34 lo_49 sh_49 rfl ?_
        refine rr_iload_n 3 rfl rfl dX10_friends_79 ?_
        refine rr_dup2 rfl rfl dX10_friends_80 ?_
        refine rr_iaload dX10_friends_81 lo_72 sh_72 (vp_in_nI (by omega) (by decide)) ?_
        rw [show (jj_rs h [(72, (upd (h 72) (((nI v1) : Int32).toNatClampNeg) (((h 72) ((nI v1) : Int32).toNatClampNeg) ||| (1 <<< ((nI v2) &&& 31)))))]) 72 = (upd (h 72) (((nI v1) : Int32).toNatClampNeg) (((h 72) ((nI v1) : Int32).toNatClampNeg) ||| (1 <<< ((nI v2) &&& 31)))) from rfl]
        refine rr_iconst 1 rfl dX10_friends_82 ?_
        refine rr_iload_n 1 rfl rfl dX10_friends_83 ?_
        refine rr_ishl dX10_friends_84 ?_
        refine rr_ior dX10_friends_85 ?_
        refine rr_iastore dX10_friends_86 lo_72 sh_72 (vp_in_nI (by omega) (by decide)) ?_
        rw [jj_rs_set (B := h) (L := [(72, (upd (h 72) (((nI v1) : Int32).toNatClampNeg) (((h 72) ((nI v1) : Int32).toNatClampNeg) ||| (1 <<< ((nI v2) &&& 31)))))]) (L2 := [(72, (upd (upd (h 72) (((nI v1) : Int32).toNatClampNeg) (((h 72) ((nI v1) : Int32).toNatClampNeg) ||| (1 <<< ((nI v2) &&& 31)))) (((nI v2) : Int32).toNatClampNeg) (((upd (h 72) (((nI v1) : Int32).toNatClampNeg) (((h 72) ((nI v1) : Int32).toNatClampNeg) ||| (1 <<< ((nI v2) &&& 31)))) ((nI v2) : Int32).toNatClampNeg) ||| (1 <<< ((nI v1) &&& 31)))))]) (r := (upd (h 72) (((nI v1) : Int32).toNatClampNeg) (((h 72) ((nI v1) : Int32).toNatClampNeg) ||| (1 <<< ((nI v2) &&& 31))))) rfl rfl]
        refine rr_return dX10_friends_87 rfl ?_
        exact k1 _ b2 y2 _ rfl (by omega) sy2 (tst_f m hv1 hv2)
      · skip
        have ev : v2 = v1 := ((nI_eq (by omega) (by omega)).mp c1).symm
        dsimp only at k2
        rw [if_pos ev] at k2
        refine rr_aload_n 0 rfl rfl dX10_friends_49 ?_
        refine rr_iconst 2 rfl dX10_friends_50 ?_
        refine rr_iload_n 2 rfl rfl dX10_friends_51 ?_
        refine rr_callV (As := [.int 2, .int (nI b1)]) (rest := []) (kc2 := 0) (ks2 := 0) dX10_friends_52 okX10_wrong lX10_124 lo_49 sh_49 rfl rfl (Nat.le_of_ble_eq_true rfl) (Nat.le_of_ble_eq_true rfl) rfl (by omega) (by simp [jj_rk]) (by simp [jj_rk]) ?_
        refine ll_wrongP (p0 := b1) (K := 2) tst_R m (by decide) (by decide) rfl rfl (fun h m => ?_)
        show jj_R _ _ kc ks (jj_S, 782, h, g) 55 [(0, .ref 49), (1, .int (nI v1)), (2, .int (nI b1)), (3, .int (nI v2))] [] Q
        refine rr_aload_n 0 rfl rfl dX10_friends_55 ?_
        refine rr_getI dX10_friends_56 fX10_111 lo_49 sh_49 rfl ?_
        refine rr_if_eq dX10_friends_59 (fun c => absurd c m.2.2.1) (fun _ => ?_)
        refine rr_return dX10_friends_62 rfl ?_
        exact k2 2 b1 _ rfl m
    · skip
      rw [sb1] at e1
      rw [pb_er e1] at k2
      show jj_R _ _ kc ks (jj_S, 782, h, g) 36 [(0, .ref 49), (1, .int (nI v1)), (2, .int (nI b1))] [.int 0] Q
      refine rr_istore_n [(0, .ref 49), (1, .int (nI v1)), (2, .int (nI b1)), (3, .int 0)] dX10_friends_36 rfl (by decide) rfl ?_
      refine rr_aload_n 0 rfl rfl dX10_friends_37 ?_
      refine rr_getI dX10_friends_38 fX10_111 lo_49 sh_49 rfl ?_
      refine rr_if_ne dX10_friends_41 (fun _ => ?_) (fun c => absurd c m.2.2.1)
      refine rr_aload_n 0 rfl rfl dX10_friends_55 ?_
      refine rr_getI dX10_friends_56 fX10_111 lo_49 sh_49 rfl ?_
      refine rr_if_eq dX10_friends_59 (fun c => absurd c m.2.2.1) (fun _ => ?_)
      refine rr_return dX10_friends_62 rfl ?_
      exact k2 k p _ rfl m
  · skip
    rw [hsx] at e1
    rw [pb_er e1] at k2
    show jj_R _ _ kc ks (jj_S, 782, h, g) 13 [(0, .ref 49)] [.int 0] Q
    refine rr_istore_n [(0, .ref 49), (1, .int 0)] dX10_friends_13 rfl (by decide) rfl ?_
    refine rr_aload_n 0 rfl rfl dX10_friends_14 ?_
    refine rr_callV (As := []) (rest := []) (kc2 := 0) (ks2 := 0) dX10_friends_15 okX10_blanks lX10_117 lo_49 sh_49 rfl rfl (Nat.le_of_ble_eq_true rfl) (Nat.le_of_ble_eq_true rfl) rfl (by omega) (by simp [jj_rk]) (by simp [jj_rk]) ?_
    refine ll_blanksE (tst_R (j := j) (S := S) (Z := [])) he6 m (by omega) (fun h m => ?_)
    show jj_R _ _ kc ks (jj_S, 782, h, g) 18 [(0, .ref 49), (1, .int 0)] [] Q
    refine rr_aload_n 0 rfl rfl dX10_friends_18 ?_
    refine rr_getI dX10_friends_19 fX10_104 lo_49 sh_49 rfl ?_
    refine rr_istore_n [(0, .ref 49), (1, .int 0), (2, .int ((h 49) 4))] dX10_friends_22 rfl (by decide) rfl ?_
    refine rr_aload_n 0 rfl rfl dX10_friends_23 ?_
    refine rr_iconst 0 rfl dX10_friends_24 ?_
    refine rr_aload_n 0 rfl rfl dX10_friends_25 ?_
    refine rr_getR dX10_friends_26 fX10_20 lo_49 sh_49 rfl ?_
    refine rr_iconst 0 rfl dX10_friends_29 ?_
    refine rr_iaload dX10_friends_30 lo_52 sh_52 (jj_inL rfl) ?_
    rw [show (h 52) (0 : Int32).toNatClampNeg = (h 52) 0 from rfl]
    refine rr_iconst 1 rfl dX10_friends_31 ?_
    refine rr_isub dX10_friends_32 ?_
    refine rr_callV (As := [.int 0, .int (((h 52) 0) - 1)]) (rest := []) (kc2 := 0) (ks2 := 0) dX10_friends_33 okX10_number lX10_157 lo_49 sh_49 rfl rfl (Nat.le_of_ble_eq_true rfl) (Nat.le_of_ble_eq_true rfl) rfl (by omega) (by simp [jj_rk]) (by simp [jj_rk]) ?_
    refine nf_number (by omega) m.2.2.1 ?_
    show jj_R _ _ kc ks (jj_S, 782, h, g) 36 [(0, .ref 49), (1, .int 0), (2, .int ((h 49) 4))] [.int 0] Q
    refine rr_istore_n [(0, .ref 49), (1, .int 0), (2, .int ((h 49) 4)), (3, .int 0)] dX10_friends_36 rfl (by decide) rfl ?_
    refine rr_aload_n 0 rfl rfl dX10_friends_37 ?_
    refine rr_getI dX10_friends_38 fX10_111 lo_49 sh_49 rfl ?_
    refine rr_if_ne dX10_friends_41 (fun _ => ?_) (fun c => absurd c m.2.2.1)
    refine rr_aload_n 0 rfl rfl dX10_friends_55 ?_
    refine rr_getI dX10_friends_56 fX10_111 lo_49 sh_49 rfl ?_
    refine rr_if_eq dX10_friends_59 (fun c => absurd c m.2.2.1) (fun _ => ?_)
    refine rr_return dX10_friends_62 rfl ?_
    exact k2 k p _ rfl m
set_option maxHeartbeats 4000000 in
theorem st_clause {c : Nat → Nat} {e j x D kc ks : Nat} {S : sT_} {h0 h : hp_} {g : Nat → Nat → Int64} {Q : jj_Rs → jj_St → Prop} (he6 : e ≤ 600) (hD : 5 ≤ D) (hb : spn isB c e x = x) (m : tst c e j S [] h0 x h) (k1 : ∀ S2 b y h9, pclause c e j S x = .ok (S2, b) → x < y → spn isB c e y = b → tst c e (j + 1) S2 [] h0 y h9 → Q (.inl none) (jj_S, 782, h9, g)) (k2 : ∀ k p h9 N, pclause c e j S x = .error (k, p) → ter c e N h0 k p h9 → Q (.inl none) (jj_S, 782, h9, g)) : jj_R mX10_clause D kc ks (jj_S, 782, h, g) 0 [(0, .ref 49)] [] Q := by
  obtain ⟨d, rfl⟩ : ∃ d, D = d + 5 := ⟨D - 5, by omega⟩
  have hj := m.2.2.1
  have hSl := m.2.2.2.2.1
  refine rr_aload_n 0 rfl rfl dX10_clause_0 ?_
  refine rr_callV (As := []) (rest := []) (kc2 := 0) (ks2 := 0) dX10_clause_1 okX10_kindHere lX10_161 lo_49 sh_49 rfl rfl (Nat.le_of_ble_eq_true rfl) (Nat.le_of_ble_eq_true rfl) rfl (by omega) (by simp [jj_rk]) (by simp [jj_rk]) ?_
  refine ll_kind tst_R he6 m hb (by omega) (fun h m => ?_)
  by_cases w0 : wis c e x [112, 101, 114, 115, 111, 110] = true
  · skip
    have q : kk c e x = 0 := by unfold kk; rw [if_pos w0]
    rw [q]
    have hk := wis_2 w0
    unfold pclause at k1 k2
    rw [if_pos w0] at k1 k2
    show jj_R _ _ kc ks (jj_S, 782, h, g) 4 [(0, .ref 49)] [.int 0] Q
    refine rr_istore_n [(0, .ref 49), (1, .int 0)] dX10_clause_4 rfl (by decide) rfl ?_
    refine rr_iload_n 1 rfl rfl dX10_clause_5 ?_
    refine rr_iconst (-1) rfl dX10_clause_6 ?_
    refine rr_icmp_ne dX10_clause_7 (fun _ => ?_) (fun c => absurd c (by decide))
    refine rr_aload_n 0 rfl rfl dX10_clause_22 ?_
    refine rr_getI dX10_clause_23 fX10_151 lo_49 sh_49 rfl ?_
    rw [show (h 49) 7 = (nI j) from m.2.1]
    refine rr_bipush 60 rfl dX10_clause_26 ?_
    refine rr_icmp_eq dX10_clause_28 (fun c1 => ?_) (fun c1 => ?_)
    · skip
      have hz : j = 60 := (nI_eq (by omega) (by decide)).mp c1
      rw [if_pos (Or.inl hz)] at k2
      refine rr_aload_n 0 rfl rfl dX10_clause_46 ?_
      refine rr_iconst 3 rfl dX10_clause_47 ?_
      refine rr_aload_n 0 rfl rfl dX10_clause_48 ?_
      refine rr_getI dX10_clause_49 fX10_104 lo_49 sh_49 rfl ?_
      rw [show (h 49) 4 = (nI x) from m.1.2.1]
      refine rr_callV (As := [.int 3, .int (nI x)]) (rest := []) (kc2 := 0) (ks2 := 0) dX10_clause_52 okX10_wrong lX10_124 lo_49 sh_49 rfl rfl (Nat.le_of_ble_eq_true rfl) (Nat.le_of_ble_eq_true rfl) rfl (by omega) (by simp [jj_rk]) (by simp [jj_rk]) ?_
      refine ll_wrong (K := 3) tst_R m (by decide) (by decide) rfl rfl (fun h m => ?_)
      show jj_R _ _ kc ks (jj_S, 782, h, g) 55 [(0, .ref 49), (1, .int 0)] [] Q
      refine rr_aload_n 0 rfl rfl dX10_clause_55 ?_
      refine rr_getI dX10_clause_56 fX10_111 lo_49 sh_49 rfl ?_
      refine rr_if_eq dX10_clause_59 (fun c => absurd c m.2.2.1) (fun _ => ?_)
      refine rr_return dX10_clause_62 rfl ?_
      exact k2 3 x _ S.1.length rfl m
    · skip
      refine rr_iload_n 1 rfl rfl dX10_clause_31 ?_
      refine rr_if_ne dX10_clause_32 (fun c => absurd c (by decide)) (fun _ => ?_)
      refine rr_aload_n 0 rfl rfl dX10_clause_35 ?_
      refine rr_getR dX10_clause_36 fX10_20 lo_49 sh_49 rfl ?_
      refine rr_iconst 0 rfl dX10_clause_39 ?_
      refine rr_iaload dX10_clause_40 lo_52 sh_52 (jj_inL rfl) ?_
      rw [show (h 52) (0 : Int32).toNatClampNeg = (nI (S.1.length)) from m.2.2.2.1]
      refine rr_bipush 8 rfl dX10_clause_41 ?_
      refine rr_icmp_ne dX10_clause_43 (fun c2 => ?_) (fun c2 => ?_)
      · skip
        have hj60 : j < 60 := by
          rcases Nat.lt_or_ge j 60 with z | z
          · exact z
          · exfalso
            have z2 : j = 60 := by omega
            rw [z2] at c1
            exact c1 rfl
        have hS8 : S.1.length < 8 := by
          rcases Nat.lt_or_ge S.1.length 8 with z | z
          · exact z
          · exfalso
            have z2 : S.1.length = 8 := by omega
            rw [z2] at c2
            exact c2 rfl
        rw [if_neg (by omega)] at k1 k2
        refine rr_aload_n 0 rfl rfl dX10_clause_55 ?_
        refine rr_getI dX10_clause_56 fX10_111 lo_49 sh_49 rfl ?_
        rw [show (h 49) 5 = 0 from m.1.2.2.2.2]
        refine rr_if_eq dX10_clause_59 (fun _ => ?_) (fun c => absurd (by decide) c)
        refine rr_aload_n 0 rfl rfl dX10_clause_63 ?_
        refine rr_callV (As := []) (rest := []) (kc2 := 0) (ks2 := 0) dX10_clause_64 okX10_skipWord lX10_144 lo_49 sh_49 rfl rfl (Nat.le_of_ble_eq_true rfl) (Nat.le_of_ble_eq_true rfl) rfl (by omega) (by simp [jj_rk]) (by simp [jj_rk]) ?_
        refine ll_skip tst_R he6 m hk (by omega) (fun y0 h hy0 hye sy0 m => ?_)
        show jj_R _ _ kc ks (jj_S, 782, h, g) 67 [(0, .ref 49), (1, .int 0)] [] Q
        refine rr_aload_n 0 rfl rfl dX10_clause_67 ?_
        refine rr_dup rfl dX10_clause_68 ?_
        refine rr_getI dX10_clause_69 fX10_151 lo_49 sh_49 rfl ?_
        rw [show (h 49) 7 = (nI j) from m.2.1]
        refine rr_iconst 1 rfl dX10_clause_72 ?_
        refine rr_iadd dX10_clause_73 ?_
        refine rr_putI dX10_clause_74 fX10_151 ni10_7 lo_49 sh_49 rfl ?_
        rw [jj_rs_set0 (B := h) (o := 49) (r := (h 49)) rfl]
        refine jj_fl (fun h9 eh => ?_)
        have m9 : tst c e (j + 1) S [] h0 y0 h9 := by
          rw [eh]
          exact tst_7 m hj60
        clear eh
        revert h9
        intro h m
        unfold ppers at k1 k2
        show jj_R _ _ kc ks (jj_S, 782, h, g) 77 [(0, .ref 49), (1, .int 0)] [] Q
        refine rr_iconst 0 rfl dX10_clause_77 ?_
        refine rr_istore_n [(0, .ref 49), (1, .int 0), (2, .int 0)] dX10_clause_78 rfl (by decide) rfl ?_
        refine rr_iload_n 2 rfl rfl dX10_clause_79 ?_
        refine rr_iconst 4 rfl dX10_clause_80 ?_
        refine rr_icmp_ge dX10_clause_81 (fun c => absurd c (by decide)) (fun _ => ?_)
        refine rr_iload_n 1 rfl rfl dX10_clause_84 ?_
        refine rr_if_ne dX10_clause_85 (fun c => absurd c (by decide)) (fun _ => ?_)
        refine rr_aload_n 0 rfl rfl dX10_clause_88 ?_
        refine rr_getR dX10_clause_89 fX10_28 lo_49 sh_49 rfl ?_
        refine rr_aload_n 0 rfl rfl dX10_clause_92 ?_
        refine rr_getR dX10_clause_93 fX10_20 lo_49 sh_49 rfl ?_
        refine rr_iconst 0 rfl dX10_clause_96 ?_
        refine rr_iaload dX10_clause_97 lo_52 sh_52 (jj_inL rfl) ?_
        rw [show (h 52) (0 : Int32).toNatClampNeg = (nI (S.1.length)) from m.2.2.2.1]
        refine rr_aaload dX10_clause_98 lo_54 sh_54 (vp_in_nI (by omega) (by decide)) ?_
        refine rr_iload_n 2 rfl rfl dX10_clause_99 ?_
        refine rr_aload_n 0 rfl rfl dX10_clause_100 ?_
        refine rr_iconst 0 rfl dX10_clause_101 ?_
        refine rr_iload_n 2 rfl rfl dX10_clause_102 ?_
        refine rr_iconst 2 rfl dX10_clause_103 ?_
        refine rr_icmp_ge dX10_clause_104 (fun c => absurd c (by decide)) (fun _ => ?_)
        refine rr_bipush 9 rfl dX10_clause_107 ?_
        refine rr_goto dX10_clause_109 ?_
        refine rr_callV (As := [.int 0, .int 9]) (rest := [.int 0, .ref (55 + ((nI (S.1.length)) : Int32).toNatClampNeg)]) (kc2 := 0) (ks2 := 0) dX10_clause_114 okX10_number lX10_157 lo_49 sh_49 rfl rfl (Nat.le_of_ble_eq_true rfl) (Nat.le_of_ble_eq_true rfl) rfl (by omega) (by simp [jj_rk] <;> first | exact Or.inl (lr_54 (jj_ink (i := (nI (S.1.length))) (vp_in_nI (by omega) (by decide))))) (by simp [jj_rk] <;> first | exact Or.inl (lr_54 (jj_ink (i := (nI (S.1.length))) (vp_in_nI (by omega) (by decide))))) ?_
        refine ll_num (lim := 10) tst_R he6 m (by omega) (by decide) (by omega) (fun v1 b1 y1 h e1 hv1 hy1 sy1 m => ?_) (fun k p h e1 m => ?_)
        · skip
          rw [sy0] at e1
          rw [pb_ok e1] at k1 k2
          show jj_R _ _ kc ks (jj_S, 782, h, g) 117 [(0, .ref 49), (1, .int 0), (2, .int 0)] [.int (nI v1), .int 0, .ref (55 + ((nI (S.1.length)) : Int32).toNatClampNeg)] Q
          refine rr_iastore dX10_clause_117 (lr_54 (jj_ink (i := (nI (S.1.length))) (vp_in_nI (by omega) (by decide)))) (sr_54 (jj_ink (i := (nI (S.1.length))) (vp_in_nI (by omega) (by decide)))) (jj_inL rfl) ?_
          rw [show (0 : Int32).toNatClampNeg = 0 from rfl]
          refine jj_Rh (jj_gs_set0 (B := h) (L := []) (b := 55) (len := 8) (x := ((nI (S.1.length)) : Int32).toNatClampNeg) rfl (jj_ink (i := (nI (S.1.length))) (vp_in_nI (by omega) (by decide)))) ?_
          rw [jj_rs_nil]
          refine jj_fl (fun h9 eh => ?_)
          have m9 : tst c e (j + 1) S [v1] h0 y1 h9 := by
            rw [eh]
            exact tst_z (Z := []) m hS8 rfl
          clear eh
          revert h9
          intro h m
          show jj_R _ _ kc ks (jj_S, 782, h, g) 118 [(0, .ref 49), (1, .int 0), (2, .int 0)] [] Q
          refine rr_iinc 2 1 [(0, .ref 49), (1, .int 0), (2, .int 1)] dX10_clause_118 rfl rfl (by decide) rfl ?_
          refine rr_goto dX10_clause_121 ?_
          refine rr_iload_n 2 rfl rfl dX10_clause_79 ?_
          refine rr_iconst 4 rfl dX10_clause_80 ?_
          refine rr_icmp_ge dX10_clause_81 (fun c => absurd c (by decide)) (fun _ => ?_)
          refine rr_iload_n 1 rfl rfl dX10_clause_84 ?_
          refine rr_if_ne dX10_clause_85 (fun c => absurd c (by decide)) (fun _ => ?_)
          refine rr_aload_n 0 rfl rfl dX10_clause_88 ?_
          refine rr_getR dX10_clause_89 fX10_28 lo_49 sh_49 rfl ?_
          refine rr_aload_n 0 rfl rfl dX10_clause_92 ?_
          refine rr_getR dX10_clause_93 fX10_20 lo_49 sh_49 rfl ?_
          refine rr_iconst 0 rfl dX10_clause_96 ?_
          refine rr_iaload dX10_clause_97 lo_52 sh_52 (jj_inL rfl) ?_
          rw [show (h 52) (0 : Int32).toNatClampNeg = (nI (S.1.length)) from m.2.2.2.1]
          refine rr_aaload dX10_clause_98 lo_54 sh_54 (vp_in_nI (by omega) (by decide)) ?_
          refine rr_iload_n 2 rfl rfl dX10_clause_99 ?_
          refine rr_aload_n 0 rfl rfl dX10_clause_100 ?_
          refine rr_iconst 0 rfl dX10_clause_101 ?_
          refine rr_iload_n 2 rfl rfl dX10_clause_102 ?_
          refine rr_iconst 2 rfl dX10_clause_103 ?_
          refine rr_icmp_ge dX10_clause_104 (fun c => absurd c (by decide)) (fun _ => ?_)
          refine rr_bipush 9 rfl dX10_clause_107 ?_
          refine rr_goto dX10_clause_109 ?_
          refine rr_callV (As := [.int 0, .int 9]) (rest := [.int 1, .ref (55 + ((nI (S.1.length)) : Int32).toNatClampNeg)]) (kc2 := 0) (ks2 := 0) dX10_clause_114 okX10_number lX10_157 lo_49 sh_49 rfl rfl (Nat.le_of_ble_eq_true rfl) (Nat.le_of_ble_eq_true rfl) rfl (by omega) (by simp [jj_rk] <;> first | exact Or.inl (lr_54 (jj_ink (i := (nI (S.1.length))) (vp_in_nI (by omega) (by decide))))) (by simp [jj_rk] <;> first | exact Or.inl (lr_54 (jj_ink (i := (nI (S.1.length))) (vp_in_nI (by omega) (by decide))))) ?_
          refine ll_num (lim := 10) tst_R he6 m (by omega) (by decide) (by omega) (fun v2 b2 y2 h e1 hv2 hy2 sy2 m => ?_) (fun k p h e1 m => ?_)
          · skip
            rw [sy1] at e1
            rw [pb_ok e1] at k1 k2
            show jj_R _ _ kc ks (jj_S, 782, h, g) 117 [(0, .ref 49), (1, .int 0), (2, .int 1)] [.int (nI v2), .int 1, .ref (55 + ((nI (S.1.length)) : Int32).toNatClampNeg)] Q
            refine rr_iastore dX10_clause_117 (lr_54 (jj_ink (i := (nI (S.1.length))) (vp_in_nI (by omega) (by decide)))) (sr_54 (jj_ink (i := (nI (S.1.length))) (vp_in_nI (by omega) (by decide)))) (jj_inL rfl) ?_
            rw [show (1 : Int32).toNatClampNeg = 1 from rfl]
            refine jj_Rh (jj_gs_set0 (B := h) (L := []) (b := 55) (len := 8) (x := ((nI (S.1.length)) : Int32).toNatClampNeg) rfl (jj_ink (i := (nI (S.1.length))) (vp_in_nI (by omega) (by decide)))) ?_
            rw [jj_rs_nil]
            refine jj_fl (fun h9 eh => ?_)
            have m9 : tst c e (j + 1) S [v1, v2] h0 y2 h9 := by
              rw [eh]
              exact tst_z (Z := [v1]) m hS8 rfl
            clear eh
            revert h9
            intro h m
            show jj_R _ _ kc ks (jj_S, 782, h, g) 118 [(0, .ref 49), (1, .int 0), (2, .int 1)] [] Q
            refine rr_iinc 2 1 [(0, .ref 49), (1, .int 0), (2, .int 2)] dX10_clause_118 rfl rfl (by decide) rfl ?_
            refine rr_goto dX10_clause_121 ?_
            refine rr_iload_n 2 rfl rfl dX10_clause_79 ?_
            refine rr_iconst 4 rfl dX10_clause_80 ?_
            refine rr_icmp_ge dX10_clause_81 (fun c => absurd c (by decide)) (fun _ => ?_)
            refine rr_iload_n 1 rfl rfl dX10_clause_84 ?_
            refine rr_if_ne dX10_clause_85 (fun c => absurd c (by decide)) (fun _ => ?_)
            refine rr_aload_n 0 rfl rfl dX10_clause_88 ?_
            refine rr_getR dX10_clause_89 fX10_28 lo_49 sh_49 rfl ?_
            refine rr_aload_n 0 rfl rfl dX10_clause_92 ?_
            refine rr_getR dX10_clause_93 fX10_20 lo_49 sh_49 rfl ?_
            refine rr_iconst 0 rfl dX10_clause_96 ?_
            refine rr_iaload dX10_clause_97 lo_52 sh_52 (jj_inL rfl) ?_
            rw [show (h 52) (0 : Int32).toNatClampNeg = (nI (S.1.length)) from m.2.2.2.1]
            refine rr_aaload dX10_clause_98 lo_54 sh_54 (vp_in_nI (by omega) (by decide)) ?_
            refine rr_iload_n 2 rfl rfl dX10_clause_99 ?_
            refine rr_aload_n 0 rfl rfl dX10_clause_100 ?_
            refine rr_iconst 0 rfl dX10_clause_101 ?_
            refine rr_iload_n 2 rfl rfl dX10_clause_102 ?_
            refine rr_iconst 2 rfl dX10_clause_103 ?_
            refine rr_icmp_ge dX10_clause_104 (fun _ => ?_) (fun c => absurd (by decide) c)
            refine rr_bipush 20 rfl dX10_clause_112 ?_
            refine rr_callV (As := [.int 0, .int 20]) (rest := [.int 2, .ref (55 + ((nI (S.1.length)) : Int32).toNatClampNeg)]) (kc2 := 0) (ks2 := 0) dX10_clause_114 okX10_number lX10_157 lo_49 sh_49 rfl rfl (Nat.le_of_ble_eq_true rfl) (Nat.le_of_ble_eq_true rfl) rfl (by omega) (by simp [jj_rk] <;> first | exact Or.inl (lr_54 (jj_ink (i := (nI (S.1.length))) (vp_in_nI (by omega) (by decide))))) (by simp [jj_rk] <;> first | exact Or.inl (lr_54 (jj_ink (i := (nI (S.1.length))) (vp_in_nI (by omega) (by decide))))) ?_
            refine ll_num (lim := 21) tst_R he6 m (by omega) (by decide) (by omega) (fun v3 b3 y3 h e1 hv3 hy3 sy3 m => ?_) (fun k p h e1 m => ?_)
            · skip
              rw [sy2] at e1
              rw [pb_ok e1] at k1 k2
              show jj_R _ _ kc ks (jj_S, 782, h, g) 117 [(0, .ref 49), (1, .int 0), (2, .int 2)] [.int (nI v3), .int 2, .ref (55 + ((nI (S.1.length)) : Int32).toNatClampNeg)] Q
              refine rr_iastore dX10_clause_117 (lr_54 (jj_ink (i := (nI (S.1.length))) (vp_in_nI (by omega) (by decide)))) (sr_54 (jj_ink (i := (nI (S.1.length))) (vp_in_nI (by omega) (by decide)))) (jj_inL rfl) ?_
              rw [show (2 : Int32).toNatClampNeg = 2 from rfl]
              refine jj_Rh (jj_gs_set0 (B := h) (L := []) (b := 55) (len := 8) (x := ((nI (S.1.length)) : Int32).toNatClampNeg) rfl (jj_ink (i := (nI (S.1.length))) (vp_in_nI (by omega) (by decide)))) ?_
              rw [jj_rs_nil]
              refine jj_fl (fun h9 eh => ?_)
              have m9 : tst c e (j + 1) S [v1, v2, v3] h0 y3 h9 := by
                rw [eh]
                exact tst_z (Z := [v1, v2]) m hS8 rfl
              clear eh
              revert h9
              intro h m
              show jj_R _ _ kc ks (jj_S, 782, h, g) 118 [(0, .ref 49), (1, .int 0), (2, .int 2)] [] Q
              refine rr_iinc 2 1 [(0, .ref 49), (1, .int 0), (2, .int 3)] dX10_clause_118 rfl rfl (by decide) rfl ?_
              refine rr_goto dX10_clause_121 ?_
              refine rr_iload_n 2 rfl rfl dX10_clause_79 ?_
              refine rr_iconst 4 rfl dX10_clause_80 ?_
              refine rr_icmp_ge dX10_clause_81 (fun c => absurd c (by decide)) (fun _ => ?_)
              refine rr_iload_n 1 rfl rfl dX10_clause_84 ?_
              refine rr_if_ne dX10_clause_85 (fun c => absurd c (by decide)) (fun _ => ?_)
              refine rr_aload_n 0 rfl rfl dX10_clause_88 ?_
              refine rr_getR dX10_clause_89 fX10_28 lo_49 sh_49 rfl ?_
              refine rr_aload_n 0 rfl rfl dX10_clause_92 ?_
              refine rr_getR dX10_clause_93 fX10_20 lo_49 sh_49 rfl ?_
              refine rr_iconst 0 rfl dX10_clause_96 ?_
              refine rr_iaload dX10_clause_97 lo_52 sh_52 (jj_inL rfl) ?_
              rw [show (h 52) (0 : Int32).toNatClampNeg = (nI (S.1.length)) from m.2.2.2.1]
              refine rr_aaload dX10_clause_98 lo_54 sh_54 (vp_in_nI (by omega) (by decide)) ?_
              refine rr_iload_n 2 rfl rfl dX10_clause_99 ?_
              refine rr_aload_n 0 rfl rfl dX10_clause_100 ?_
              refine rr_iconst 0 rfl dX10_clause_101 ?_
              refine rr_iload_n 2 rfl rfl dX10_clause_102 ?_
              refine rr_iconst 2 rfl dX10_clause_103 ?_
              refine rr_icmp_ge dX10_clause_104 (fun _ => ?_) (fun c => absurd (by decide) c)
              refine rr_bipush 20 rfl dX10_clause_112 ?_
              refine rr_callV (As := [.int 0, .int 20]) (rest := [.int 3, .ref (55 + ((nI (S.1.length)) : Int32).toNatClampNeg)]) (kc2 := 0) (ks2 := 0) dX10_clause_114 okX10_number lX10_157 lo_49 sh_49 rfl rfl (Nat.le_of_ble_eq_true rfl) (Nat.le_of_ble_eq_true rfl) rfl (by omega) (by simp [jj_rk] <;> first | exact Or.inl (lr_54 (jj_ink (i := (nI (S.1.length))) (vp_in_nI (by omega) (by decide))))) (by simp [jj_rk] <;> first | exact Or.inl (lr_54 (jj_ink (i := (nI (S.1.length))) (vp_in_nI (by omega) (by decide))))) ?_
              refine ll_num (lim := 21) tst_R he6 m (by omega) (by decide) (by omega) (fun v4 b4 y4 h e1 hv4 hy4 sy4 m => ?_) (fun k p h e1 m => ?_)
              · skip
                rw [sy3] at e1
                rw [pb_ok e1] at k1 k2
                show jj_R _ _ kc ks (jj_S, 782, h, g) 117 [(0, .ref 49), (1, .int 0), (2, .int 3)] [.int (nI v4), .int 3, .ref (55 + ((nI (S.1.length)) : Int32).toNatClampNeg)] Q
                refine rr_iastore dX10_clause_117 (lr_54 (jj_ink (i := (nI (S.1.length))) (vp_in_nI (by omega) (by decide)))) (sr_54 (jj_ink (i := (nI (S.1.length))) (vp_in_nI (by omega) (by decide)))) (jj_inL rfl) ?_
                rw [show (3 : Int32).toNatClampNeg = 3 from rfl]
                refine jj_Rh (jj_gs_set0 (B := h) (L := []) (b := 55) (len := 8) (x := ((nI (S.1.length)) : Int32).toNatClampNeg) rfl (jj_ink (i := (nI (S.1.length))) (vp_in_nI (by omega) (by decide)))) ?_
                rw [jj_rs_nil]
                refine jj_fl (fun h9 eh => ?_)
                have m9 : tst c e (j + 1) S [v1, v2, v3, v4] h0 y4 h9 := by
                  rw [eh]
                  exact tst_z (Z := [v1, v2, v3]) m hS8 rfl
                clear eh
                revert h9
                intro h m
                show jj_R _ _ kc ks (jj_S, 782, h, g) 118 [(0, .ref 49), (1, .int 0), (2, .int 3)] [] Q
                refine rr_iinc 2 1 [(0, .ref 49), (1, .int 0), (2, .int 4)] dX10_clause_118 rfl rfl (by decide) rfl ?_
                refine rr_goto dX10_clause_121 ?_
                refine rr_iload_n 2 rfl rfl dX10_clause_79 ?_
                refine rr_iconst 4 rfl dX10_clause_80 ?_
                refine rr_icmp_ge dX10_clause_81 (fun _ => ?_) (fun c => absurd (by decide) c)
                refine rr_iload_n 1 rfl rfl dX10_clause_124 ?_
                refine rr_iconst 1 rfl dX10_clause_125 ?_
                refine rr_icmp_ne dX10_clause_126 (fun _ => ?_) (fun c => absurd c (by decide))
                refine rr_iload_n 1 rfl rfl dX10_clause_133 ?_
                refine rr_iconst 2 rfl dX10_clause_134 ?_
                refine rr_icmp_ne dX10_clause_135 (fun _ => ?_) (fun c => absurd c (by decide))
                refine rr_aload_n 0 rfl rfl dX10_clause_151 ?_
                refine rr_bipush 59 rfl dX10_clause_152 ?_
                refine rr_callV (As := [.int 59]) (rest := []) (kc2 := 0) (ks2 := 0) dX10_clause_154 okX10_sign lX10_167 lo_49 sh_49 rfl rfl (Nat.le_of_ble_eq_true rfl) (Nat.le_of_ble_eq_true rfl) rfl (by omega) (by simp [jj_rk]) (by simp [jj_rk]) ?_
                refine ll_sign (X := 59) tst_R he6 sg_59 m (by omega) (fun b9 y9 h e1 hy9 sy9 m => ?_) (fun k p h e1 m => ?_)
                · skip
                  rw [sy4] at e1
                  rw [pb_ok e1] at k1 k2
                  show jj_R _ _ kc ks (jj_S, 782, h, g) 157 [(0, .ref 49), (1, .int 0), (2, .int 4)] [] Q
                  refine rr_iload_n 1 rfl rfl dX10_clause_157 ?_
                  refine rr_if_ne dX10_clause_158 (fun c => absurd c (by decide)) (fun _ => ?_)
                  refine rr_aload_n 0 rfl rfl dX10_clause_161 ?_
                  refine rr_getR dX10_clause_162 fX10_20 lo_49 sh_49 rfl ?_
                  refine rr_iconst 0 rfl dX10_clause_165 ?_
                  refine rr_dup2 rfl rfl dX10_clause_166 ?_
                  refine rr_iaload dX10_clause_167 lo_52 sh_52 (jj_inL rfl) ?_
                  rw [show (h 52) (0 : Int32).toNatClampNeg = (nI (S.1.length)) from m.2.2.2.1]
                  refine rr_aload_n 0 rfl rfl dX10_clause_168 ?_
                  refine rr_getI dX10_clause_169 fX10_111 lo_49 sh_49 rfl ?_
                  rw [show (h 49) 5 = 0 from m.1.2.2.2.2]
                  refine rr_if_ne dX10_clause_172 (fun c => absurd c (by decide)) (fun _ => ?_)
                  refine rr_iconst 1 rfl dX10_clause_175 ?_
                  refine rr_goto dX10_clause_176 ?_
                  refine rr_iadd dX10_clause_180 ?_
                  refine rr_iastore dX10_clause_181 lo_52 sh_52 (jj_inL rfl) ?_
                  rw [show (0 : Int32).toNatClampNeg = 0 from rfl]
                  rw [jj_rs_set0 (B := h) (o := 52) (r := (h 52)) rfl]
                  refine rr_return dX10_clause_182 rfl ?_
                  exact k1 _ b9 y9 _ rfl (by omega) sy9 (tst_add m hS8)
                · skip
                  rw [sy4] at e1
                  rw [pb_er e1] at k2
                  show jj_R _ _ kc ks (jj_S, 782, h, g) 157 [(0, .ref 49), (1, .int 0), (2, .int 4)] [] Q
                  refine rr_iload_n 1 rfl rfl dX10_clause_157 ?_
                  refine rr_if_ne dX10_clause_158 (fun c => absurd c (by decide)) (fun _ => ?_)
                  refine rr_aload_n 0 rfl rfl dX10_clause_161 ?_
                  refine rr_getR dX10_clause_162 fX10_20 lo_49 sh_49 rfl ?_
                  refine rr_iconst 0 rfl dX10_clause_165 ?_
                  refine rr_dup2 rfl rfl dX10_clause_166 ?_
                  refine rr_iaload dX10_clause_167 lo_52 sh_52 (jj_inL rfl) ?_
                  rw [show (h 52) (0 : Int32).toNatClampNeg = (nI (S.1.length)) from m.2.2.2.2.2.2.2]
                  refine rr_aload_n 0 rfl rfl dX10_clause_168 ?_
                  refine rr_getI dX10_clause_169 fX10_111 lo_49 sh_49 rfl ?_
                  refine rr_if_ne dX10_clause_172 (fun _ => ?_) (fun c => absurd c m.2.2.1)
                  refine rr_iconst 0 rfl dX10_clause_179 ?_
                  refine rr_iadd dX10_clause_180 ?_
                  refine rr_iastore dX10_clause_181 lo_52 sh_52 (jj_inL rfl) ?_
                  rw [show (0 : Int32).toNatClampNeg = 0 from rfl]
                  rw [jj_rs_set0 (B := h) (o := 52) (r := (h 52)) rfl]
                  refine jj_fl (fun h9 eh => ?_)
                  have m9 : ter c e S.1.length h0 k p h9 := by
                    rw [eh]
                    exact ter_52 m (by simp [upd, m.2.2.2.2.2.2.2])
                  clear eh
                  revert h9
                  intro h m
                  show jj_R _ _ kc ks (jj_S, 782, h, g) 182 [(0, .ref 49), (1, .int 0), (2, .int 4)] [] Q
                  refine rr_return dX10_clause_182 rfl ?_
                  exact k2 k p _ S.1.length rfl m
              · skip
                rw [sy3] at e1
                rw [pb_er e1] at k2
                show jj_R _ _ kc ks (jj_S, 782, h, g) 117 [(0, .ref 49), (1, .int 0), (2, .int 3)] [.int 0, .int 3, .ref (55 + ((nI (S.1.length)) : Int32).toNatClampNeg)] Q
                refine rr_iastore dX10_clause_117 (lr_54 (jj_ink (i := (nI (S.1.length))) (vp_in_nI (by omega) (by decide)))) (sr_54 (jj_ink (i := (nI (S.1.length))) (vp_in_nI (by omega) (by decide)))) (jj_inL rfl) ?_
                rw [show (3 : Int32).toNatClampNeg = 3 from rfl]
                refine jj_Rh (jj_gs_set0 (B := h) (L := []) (b := 55) (len := 8) (x := ((nI (S.1.length)) : Int32).toNatClampNeg) rfl (jj_ink (i := (nI (S.1.length))) (vp_in_nI (by omega) (by decide)))) ?_
                rw [jj_rs_nil]
                refine jj_fl (fun h9 eh => ?_)
                have m9 : ter c e S.1.length h0 k p h9 := by
                  rw [eh]
                  exact ter_g m
                clear eh
                revert h9
                intro h m
                show jj_R _ _ kc ks (jj_S, 782, h, g) 118 [(0, .ref 49), (1, .int 0), (2, .int 3)] [] Q
                refine rr_iinc 2 1 [(0, .ref 49), (1, .int 0), (2, .int 4)] dX10_clause_118 rfl rfl (by decide) rfl ?_
                refine rr_goto dX10_clause_121 ?_
                refine rr_iload_n 2 rfl rfl dX10_clause_79 ?_
                refine rr_iconst 4 rfl dX10_clause_80 ?_
                refine rr_icmp_ge dX10_clause_81 (fun _ => ?_) (fun c => absurd (by decide) c)
                refine rr_iload_n 1 rfl rfl dX10_clause_124 ?_
                refine rr_iconst 1 rfl dX10_clause_125 ?_
                refine rr_icmp_ne dX10_clause_126 (fun _ => ?_) (fun c => absurd c (by decide))
                refine rr_iload_n 1 rfl rfl dX10_clause_133 ?_
                refine rr_iconst 2 rfl dX10_clause_134 ?_
                refine rr_icmp_ne dX10_clause_135 (fun _ => ?_) (fun c => absurd c (by decide))
                refine rr_aload_n 0 rfl rfl dX10_clause_151 ?_
                refine rr_bipush 59 rfl dX10_clause_152 ?_
                refine rr_callV (As := [.int 59]) (rest := []) (kc2 := 0) (ks2 := 0) dX10_clause_154 okX10_sign lX10_167 lo_49 sh_49 rfl rfl (Nat.le_of_ble_eq_true rfl) (Nat.le_of_ble_eq_true rfl) rfl (by omega) (by simp [jj_rk]) (by simp [jj_rk]) ?_
                refine nf_sign (by omega) m.2.2.1 ?_
                show jj_R _ _ kc ks (jj_S, 782, h, g) 157 [(0, .ref 49), (1, .int 0), (2, .int 4)] [] Q
                refine rr_iload_n 1 rfl rfl dX10_clause_157 ?_
                refine rr_if_ne dX10_clause_158 (fun c => absurd c (by decide)) (fun _ => ?_)
                refine rr_aload_n 0 rfl rfl dX10_clause_161 ?_
                refine rr_getR dX10_clause_162 fX10_20 lo_49 sh_49 rfl ?_
                refine rr_iconst 0 rfl dX10_clause_165 ?_
                refine rr_dup2 rfl rfl dX10_clause_166 ?_
                refine rr_iaload dX10_clause_167 lo_52 sh_52 (jj_inL rfl) ?_
                rw [show (h 52) (0 : Int32).toNatClampNeg = (nI (S.1.length)) from m.2.2.2.2.2.2.2]
                refine rr_aload_n 0 rfl rfl dX10_clause_168 ?_
                refine rr_getI dX10_clause_169 fX10_111 lo_49 sh_49 rfl ?_
                refine rr_if_ne dX10_clause_172 (fun _ => ?_) (fun c => absurd c m.2.2.1)
                refine rr_iconst 0 rfl dX10_clause_179 ?_
                refine rr_iadd dX10_clause_180 ?_
                refine rr_iastore dX10_clause_181 lo_52 sh_52 (jj_inL rfl) ?_
                rw [show (0 : Int32).toNatClampNeg = 0 from rfl]
                rw [jj_rs_set0 (B := h) (o := 52) (r := (h 52)) rfl]
                refine jj_fl (fun h9 eh => ?_)
                have m9 : ter c e S.1.length h0 k p h9 := by
                  rw [eh]
                  exact ter_52 m (by simp [upd, m.2.2.2.2.2.2.2])
                clear eh
                revert h9
                intro h m
                show jj_R _ _ kc ks (jj_S, 782, h, g) 182 [(0, .ref 49), (1, .int 0), (2, .int 4)] [] Q
                refine rr_return dX10_clause_182 rfl ?_
                exact k2 k p _ S.1.length rfl m
            · skip
              rw [sy2] at e1
              rw [pb_er e1] at k2
              show jj_R _ _ kc ks (jj_S, 782, h, g) 117 [(0, .ref 49), (1, .int 0), (2, .int 2)] [.int 0, .int 2, .ref (55 + ((nI (S.1.length)) : Int32).toNatClampNeg)] Q
              refine rr_iastore dX10_clause_117 (lr_54 (jj_ink (i := (nI (S.1.length))) (vp_in_nI (by omega) (by decide)))) (sr_54 (jj_ink (i := (nI (S.1.length))) (vp_in_nI (by omega) (by decide)))) (jj_inL rfl) ?_
              rw [show (2 : Int32).toNatClampNeg = 2 from rfl]
              refine jj_Rh (jj_gs_set0 (B := h) (L := []) (b := 55) (len := 8) (x := ((nI (S.1.length)) : Int32).toNatClampNeg) rfl (jj_ink (i := (nI (S.1.length))) (vp_in_nI (by omega) (by decide)))) ?_
              rw [jj_rs_nil]
              refine jj_fl (fun h9 eh => ?_)
              have m9 : ter c e S.1.length h0 k p h9 := by
                rw [eh]
                exact ter_g m
              clear eh
              revert h9
              intro h m
              show jj_R _ _ kc ks (jj_S, 782, h, g) 118 [(0, .ref 49), (1, .int 0), (2, .int 2)] [] Q
              refine rr_iinc 2 1 [(0, .ref 49), (1, .int 0), (2, .int 3)] dX10_clause_118 rfl rfl (by decide) rfl ?_
              refine rr_goto dX10_clause_121 ?_
              refine rr_iload_n 2 rfl rfl dX10_clause_79 ?_
              refine rr_iconst 4 rfl dX10_clause_80 ?_
              refine rr_icmp_ge dX10_clause_81 (fun c => absurd c (by decide)) (fun _ => ?_)
              refine rr_iload_n 1 rfl rfl dX10_clause_84 ?_
              refine rr_if_ne dX10_clause_85 (fun c => absurd c (by decide)) (fun _ => ?_)
              refine rr_aload_n 0 rfl rfl dX10_clause_88 ?_
              refine rr_getR dX10_clause_89 fX10_28 lo_49 sh_49 rfl ?_
              refine rr_aload_n 0 rfl rfl dX10_clause_92 ?_
              refine rr_getR dX10_clause_93 fX10_20 lo_49 sh_49 rfl ?_
              refine rr_iconst 0 rfl dX10_clause_96 ?_
              refine rr_iaload dX10_clause_97 lo_52 sh_52 (jj_inL rfl) ?_
              rw [show (h 52) (0 : Int32).toNatClampNeg = (nI (S.1.length)) from m.2.2.2.2.2.2.2]
              refine rr_aaload dX10_clause_98 lo_54 sh_54 (vp_in_nI (by omega) (by decide)) ?_
              refine rr_iload_n 2 rfl rfl dX10_clause_99 ?_
              refine rr_aload_n 0 rfl rfl dX10_clause_100 ?_
              refine rr_iconst 0 rfl dX10_clause_101 ?_
              refine rr_iload_n 2 rfl rfl dX10_clause_102 ?_
              refine rr_iconst 2 rfl dX10_clause_103 ?_
              refine rr_icmp_ge dX10_clause_104 (fun _ => ?_) (fun c => absurd (by decide) c)
              refine rr_bipush 20 rfl dX10_clause_112 ?_
              refine rr_callV (As := [.int 0, .int 20]) (rest := [.int 3, .ref (55 + ((nI (S.1.length)) : Int32).toNatClampNeg)]) (kc2 := 0) (ks2 := 0) dX10_clause_114 okX10_number lX10_157 lo_49 sh_49 rfl rfl (Nat.le_of_ble_eq_true rfl) (Nat.le_of_ble_eq_true rfl) rfl (by omega) (by simp [jj_rk] <;> first | exact Or.inl (lr_54 (jj_ink (i := (nI (S.1.length))) (vp_in_nI (by omega) (by decide))))) (by simp [jj_rk] <;> first | exact Or.inl (lr_54 (jj_ink (i := (nI (S.1.length))) (vp_in_nI (by omega) (by decide))))) ?_
              refine nf_number (by omega) m.2.2.1 ?_
              show jj_R _ _ kc ks (jj_S, 782, h, g) 117 [(0, .ref 49), (1, .int 0), (2, .int 3)] [.int 0, .int 3, .ref (55 + ((nI (S.1.length)) : Int32).toNatClampNeg)] Q
              refine rr_iastore dX10_clause_117 (lr_54 (jj_ink (i := (nI (S.1.length))) (vp_in_nI (by omega) (by decide)))) (sr_54 (jj_ink (i := (nI (S.1.length))) (vp_in_nI (by omega) (by decide)))) (jj_inL rfl) ?_
              rw [show (3 : Int32).toNatClampNeg = 3 from rfl]
              refine jj_Rh (jj_gs_set0 (B := h) (L := []) (b := 55) (len := 8) (x := ((nI (S.1.length)) : Int32).toNatClampNeg) rfl (jj_ink (i := (nI (S.1.length))) (vp_in_nI (by omega) (by decide)))) ?_
              rw [jj_rs_nil]
              refine jj_fl (fun h9 eh => ?_)
              have m9 : ter c e S.1.length h0 k p h9 := by
                rw [eh]
                exact ter_g m
              clear eh
              revert h9
              intro h m
              show jj_R _ _ kc ks (jj_S, 782, h, g) 118 [(0, .ref 49), (1, .int 0), (2, .int 3)] [] Q
              refine rr_iinc 2 1 [(0, .ref 49), (1, .int 0), (2, .int 4)] dX10_clause_118 rfl rfl (by decide) rfl ?_
              refine rr_goto dX10_clause_121 ?_
              refine rr_iload_n 2 rfl rfl dX10_clause_79 ?_
              refine rr_iconst 4 rfl dX10_clause_80 ?_
              refine rr_icmp_ge dX10_clause_81 (fun _ => ?_) (fun c => absurd (by decide) c)
              refine rr_iload_n 1 rfl rfl dX10_clause_124 ?_
              refine rr_iconst 1 rfl dX10_clause_125 ?_
              refine rr_icmp_ne dX10_clause_126 (fun _ => ?_) (fun c => absurd c (by decide))
              refine rr_iload_n 1 rfl rfl dX10_clause_133 ?_
              refine rr_iconst 2 rfl dX10_clause_134 ?_
              refine rr_icmp_ne dX10_clause_135 (fun _ => ?_) (fun c => absurd c (by decide))
              refine rr_aload_n 0 rfl rfl dX10_clause_151 ?_
              refine rr_bipush 59 rfl dX10_clause_152 ?_
              refine rr_callV (As := [.int 59]) (rest := []) (kc2 := 0) (ks2 := 0) dX10_clause_154 okX10_sign lX10_167 lo_49 sh_49 rfl rfl (Nat.le_of_ble_eq_true rfl) (Nat.le_of_ble_eq_true rfl) rfl (by omega) (by simp [jj_rk]) (by simp [jj_rk]) ?_
              refine nf_sign (by omega) m.2.2.1 ?_
              show jj_R _ _ kc ks (jj_S, 782, h, g) 157 [(0, .ref 49), (1, .int 0), (2, .int 4)] [] Q
              refine rr_iload_n 1 rfl rfl dX10_clause_157 ?_
              refine rr_if_ne dX10_clause_158 (fun c => absurd c (by decide)) (fun _ => ?_)
              refine rr_aload_n 0 rfl rfl dX10_clause_161 ?_
              refine rr_getR dX10_clause_162 fX10_20 lo_49 sh_49 rfl ?_
              refine rr_iconst 0 rfl dX10_clause_165 ?_
              refine rr_dup2 rfl rfl dX10_clause_166 ?_
              refine rr_iaload dX10_clause_167 lo_52 sh_52 (jj_inL rfl) ?_
              rw [show (h 52) (0 : Int32).toNatClampNeg = (nI (S.1.length)) from m.2.2.2.2.2.2.2]
              refine rr_aload_n 0 rfl rfl dX10_clause_168 ?_
              refine rr_getI dX10_clause_169 fX10_111 lo_49 sh_49 rfl ?_
              refine rr_if_ne dX10_clause_172 (fun _ => ?_) (fun c => absurd c m.2.2.1)
              refine rr_iconst 0 rfl dX10_clause_179 ?_
              refine rr_iadd dX10_clause_180 ?_
              refine rr_iastore dX10_clause_181 lo_52 sh_52 (jj_inL rfl) ?_
              rw [show (0 : Int32).toNatClampNeg = 0 from rfl]
              rw [jj_rs_set0 (B := h) (o := 52) (r := (h 52)) rfl]
              refine jj_fl (fun h9 eh => ?_)
              have m9 : ter c e S.1.length h0 k p h9 := by
                rw [eh]
                exact ter_52 m (by simp [upd, m.2.2.2.2.2.2.2])
              clear eh
              revert h9
              intro h m
              show jj_R _ _ kc ks (jj_S, 782, h, g) 182 [(0, .ref 49), (1, .int 0), (2, .int 4)] [] Q
              refine rr_return dX10_clause_182 rfl ?_
              exact k2 k p _ S.1.length rfl m
          · skip
            rw [sy1] at e1
            rw [pb_er e1] at k2
            show jj_R _ _ kc ks (jj_S, 782, h, g) 117 [(0, .ref 49), (1, .int 0), (2, .int 1)] [.int 0, .int 1, .ref (55 + ((nI (S.1.length)) : Int32).toNatClampNeg)] Q
            refine rr_iastore dX10_clause_117 (lr_54 (jj_ink (i := (nI (S.1.length))) (vp_in_nI (by omega) (by decide)))) (sr_54 (jj_ink (i := (nI (S.1.length))) (vp_in_nI (by omega) (by decide)))) (jj_inL rfl) ?_
            rw [show (1 : Int32).toNatClampNeg = 1 from rfl]
            refine jj_Rh (jj_gs_set0 (B := h) (L := []) (b := 55) (len := 8) (x := ((nI (S.1.length)) : Int32).toNatClampNeg) rfl (jj_ink (i := (nI (S.1.length))) (vp_in_nI (by omega) (by decide)))) ?_
            rw [jj_rs_nil]
            refine jj_fl (fun h9 eh => ?_)
            have m9 : ter c e S.1.length h0 k p h9 := by
              rw [eh]
              exact ter_g m
            clear eh
            revert h9
            intro h m
            show jj_R _ _ kc ks (jj_S, 782, h, g) 118 [(0, .ref 49), (1, .int 0), (2, .int 1)] [] Q
            refine rr_iinc 2 1 [(0, .ref 49), (1, .int 0), (2, .int 2)] dX10_clause_118 rfl rfl (by decide) rfl ?_
            refine rr_goto dX10_clause_121 ?_
            refine rr_iload_n 2 rfl rfl dX10_clause_79 ?_
            refine rr_iconst 4 rfl dX10_clause_80 ?_
            refine rr_icmp_ge dX10_clause_81 (fun c => absurd c (by decide)) (fun _ => ?_)
            refine rr_iload_n 1 rfl rfl dX10_clause_84 ?_
            refine rr_if_ne dX10_clause_85 (fun c => absurd c (by decide)) (fun _ => ?_)
            refine rr_aload_n 0 rfl rfl dX10_clause_88 ?_
            refine rr_getR dX10_clause_89 fX10_28 lo_49 sh_49 rfl ?_
            refine rr_aload_n 0 rfl rfl dX10_clause_92 ?_
            refine rr_getR dX10_clause_93 fX10_20 lo_49 sh_49 rfl ?_
            refine rr_iconst 0 rfl dX10_clause_96 ?_
            refine rr_iaload dX10_clause_97 lo_52 sh_52 (jj_inL rfl) ?_
            rw [show (h 52) (0 : Int32).toNatClampNeg = (nI (S.1.length)) from m.2.2.2.2.2.2.2]
            refine rr_aaload dX10_clause_98 lo_54 sh_54 (vp_in_nI (by omega) (by decide)) ?_
            refine rr_iload_n 2 rfl rfl dX10_clause_99 ?_
            refine rr_aload_n 0 rfl rfl dX10_clause_100 ?_
            refine rr_iconst 0 rfl dX10_clause_101 ?_
            refine rr_iload_n 2 rfl rfl dX10_clause_102 ?_
            refine rr_iconst 2 rfl dX10_clause_103 ?_
            refine rr_icmp_ge dX10_clause_104 (fun _ => ?_) (fun c => absurd (by decide) c)
            refine rr_bipush 20 rfl dX10_clause_112 ?_
            refine rr_callV (As := [.int 0, .int 20]) (rest := [.int 2, .ref (55 + ((nI (S.1.length)) : Int32).toNatClampNeg)]) (kc2 := 0) (ks2 := 0) dX10_clause_114 okX10_number lX10_157 lo_49 sh_49 rfl rfl (Nat.le_of_ble_eq_true rfl) (Nat.le_of_ble_eq_true rfl) rfl (by omega) (by simp [jj_rk] <;> first | exact Or.inl (lr_54 (jj_ink (i := (nI (S.1.length))) (vp_in_nI (by omega) (by decide))))) (by simp [jj_rk] <;> first | exact Or.inl (lr_54 (jj_ink (i := (nI (S.1.length))) (vp_in_nI (by omega) (by decide))))) ?_
            refine nf_number (by omega) m.2.2.1 ?_
            show jj_R _ _ kc ks (jj_S, 782, h, g) 117 [(0, .ref 49), (1, .int 0), (2, .int 2)] [.int 0, .int 2, .ref (55 + ((nI (S.1.length)) : Int32).toNatClampNeg)] Q
            refine rr_iastore dX10_clause_117 (lr_54 (jj_ink (i := (nI (S.1.length))) (vp_in_nI (by omega) (by decide)))) (sr_54 (jj_ink (i := (nI (S.1.length))) (vp_in_nI (by omega) (by decide)))) (jj_inL rfl) ?_
            rw [show (2 : Int32).toNatClampNeg = 2 from rfl]
            refine jj_Rh (jj_gs_set0 (B := h) (L := []) (b := 55) (len := 8) (x := ((nI (S.1.length)) : Int32).toNatClampNeg) rfl (jj_ink (i := (nI (S.1.length))) (vp_in_nI (by omega) (by decide)))) ?_
            rw [jj_rs_nil]
            refine jj_fl (fun h9 eh => ?_)
            have m9 : ter c e S.1.length h0 k p h9 := by
              rw [eh]
              exact ter_g m
            clear eh
            revert h9
            intro h m
            show jj_R _ _ kc ks (jj_S, 782, h, g) 118 [(0, .ref 49), (1, .int 0), (2, .int 2)] [] Q
            refine rr_iinc 2 1 [(0, .ref 49), (1, .int 0), (2, .int 3)] dX10_clause_118 rfl rfl (by decide) rfl ?_
            refine rr_goto dX10_clause_121 ?_
            refine rr_iload_n 2 rfl rfl dX10_clause_79 ?_
            refine rr_iconst 4 rfl dX10_clause_80 ?_
            refine rr_icmp_ge dX10_clause_81 (fun c => absurd c (by decide)) (fun _ => ?_)
            refine rr_iload_n 1 rfl rfl dX10_clause_84 ?_
            refine rr_if_ne dX10_clause_85 (fun c => absurd c (by decide)) (fun _ => ?_)
            refine rr_aload_n 0 rfl rfl dX10_clause_88 ?_
            refine rr_getR dX10_clause_89 fX10_28 lo_49 sh_49 rfl ?_
            refine rr_aload_n 0 rfl rfl dX10_clause_92 ?_
            refine rr_getR dX10_clause_93 fX10_20 lo_49 sh_49 rfl ?_
            refine rr_iconst 0 rfl dX10_clause_96 ?_
            refine rr_iaload dX10_clause_97 lo_52 sh_52 (jj_inL rfl) ?_
            rw [show (h 52) (0 : Int32).toNatClampNeg = (nI (S.1.length)) from m.2.2.2.2.2.2.2]
            refine rr_aaload dX10_clause_98 lo_54 sh_54 (vp_in_nI (by omega) (by decide)) ?_
            refine rr_iload_n 2 rfl rfl dX10_clause_99 ?_
            refine rr_aload_n 0 rfl rfl dX10_clause_100 ?_
            refine rr_iconst 0 rfl dX10_clause_101 ?_
            refine rr_iload_n 2 rfl rfl dX10_clause_102 ?_
            refine rr_iconst 2 rfl dX10_clause_103 ?_
            refine rr_icmp_ge dX10_clause_104 (fun _ => ?_) (fun c => absurd (by decide) c)
            refine rr_bipush 20 rfl dX10_clause_112 ?_
            refine rr_callV (As := [.int 0, .int 20]) (rest := [.int 3, .ref (55 + ((nI (S.1.length)) : Int32).toNatClampNeg)]) (kc2 := 0) (ks2 := 0) dX10_clause_114 okX10_number lX10_157 lo_49 sh_49 rfl rfl (Nat.le_of_ble_eq_true rfl) (Nat.le_of_ble_eq_true rfl) rfl (by omega) (by simp [jj_rk] <;> first | exact Or.inl (lr_54 (jj_ink (i := (nI (S.1.length))) (vp_in_nI (by omega) (by decide))))) (by simp [jj_rk] <;> first | exact Or.inl (lr_54 (jj_ink (i := (nI (S.1.length))) (vp_in_nI (by omega) (by decide))))) ?_
            refine nf_number (by omega) m.2.2.1 ?_
            show jj_R _ _ kc ks (jj_S, 782, h, g) 117 [(0, .ref 49), (1, .int 0), (2, .int 3)] [.int 0, .int 3, .ref (55 + ((nI (S.1.length)) : Int32).toNatClampNeg)] Q
            refine rr_iastore dX10_clause_117 (lr_54 (jj_ink (i := (nI (S.1.length))) (vp_in_nI (by omega) (by decide)))) (sr_54 (jj_ink (i := (nI (S.1.length))) (vp_in_nI (by omega) (by decide)))) (jj_inL rfl) ?_
            rw [show (3 : Int32).toNatClampNeg = 3 from rfl]
            refine jj_Rh (jj_gs_set0 (B := h) (L := []) (b := 55) (len := 8) (x := ((nI (S.1.length)) : Int32).toNatClampNeg) rfl (jj_ink (i := (nI (S.1.length))) (vp_in_nI (by omega) (by decide)))) ?_
            rw [jj_rs_nil]
            refine jj_fl (fun h9 eh => ?_)
            have m9 : ter c e S.1.length h0 k p h9 := by
              rw [eh]
              exact ter_g m
            clear eh
            revert h9
            intro h m
            show jj_R _ _ kc ks (jj_S, 782, h, g) 118 [(0, .ref 49), (1, .int 0), (2, .int 3)] [] Q
            refine rr_iinc 2 1 [(0, .ref 49), (1, .int 0), (2, .int 4)] dX10_clause_118 rfl rfl (by decide) rfl ?_
            refine rr_goto dX10_clause_121 ?_
            refine rr_iload_n 2 rfl rfl dX10_clause_79 ?_
            refine rr_iconst 4 rfl dX10_clause_80 ?_
            refine rr_icmp_ge dX10_clause_81 (fun _ => ?_) (fun c => absurd (by decide) c)
            refine rr_iload_n 1 rfl rfl dX10_clause_124 ?_
            refine rr_iconst 1 rfl dX10_clause_125 ?_
            refine rr_icmp_ne dX10_clause_126 (fun _ => ?_) (fun c => absurd c (by decide))
            refine rr_iload_n 1 rfl rfl dX10_clause_133 ?_
            refine rr_iconst 2 rfl dX10_clause_134 ?_
            refine rr_icmp_ne dX10_clause_135 (fun _ => ?_) (fun c => absurd c (by decide))
            refine rr_aload_n 0 rfl rfl dX10_clause_151 ?_
            refine rr_bipush 59 rfl dX10_clause_152 ?_
            refine rr_callV (As := [.int 59]) (rest := []) (kc2 := 0) (ks2 := 0) dX10_clause_154 okX10_sign lX10_167 lo_49 sh_49 rfl rfl (Nat.le_of_ble_eq_true rfl) (Nat.le_of_ble_eq_true rfl) rfl (by omega) (by simp [jj_rk]) (by simp [jj_rk]) ?_
            refine nf_sign (by omega) m.2.2.1 ?_
            show jj_R _ _ kc ks (jj_S, 782, h, g) 157 [(0, .ref 49), (1, .int 0), (2, .int 4)] [] Q
            refine rr_iload_n 1 rfl rfl dX10_clause_157 ?_
            refine rr_if_ne dX10_clause_158 (fun c => absurd c (by decide)) (fun _ => ?_)
            refine rr_aload_n 0 rfl rfl dX10_clause_161 ?_
            refine rr_getR dX10_clause_162 fX10_20 lo_49 sh_49 rfl ?_
            refine rr_iconst 0 rfl dX10_clause_165 ?_
            refine rr_dup2 rfl rfl dX10_clause_166 ?_
            refine rr_iaload dX10_clause_167 lo_52 sh_52 (jj_inL rfl) ?_
            rw [show (h 52) (0 : Int32).toNatClampNeg = (nI (S.1.length)) from m.2.2.2.2.2.2.2]
            refine rr_aload_n 0 rfl rfl dX10_clause_168 ?_
            refine rr_getI dX10_clause_169 fX10_111 lo_49 sh_49 rfl ?_
            refine rr_if_ne dX10_clause_172 (fun _ => ?_) (fun c => absurd c m.2.2.1)
            refine rr_iconst 0 rfl dX10_clause_179 ?_
            refine rr_iadd dX10_clause_180 ?_
            refine rr_iastore dX10_clause_181 lo_52 sh_52 (jj_inL rfl) ?_
            rw [show (0 : Int32).toNatClampNeg = 0 from rfl]
            rw [jj_rs_set0 (B := h) (o := 52) (r := (h 52)) rfl]
            refine jj_fl (fun h9 eh => ?_)
            have m9 : ter c e S.1.length h0 k p h9 := by
              rw [eh]
              exact ter_52 m (by simp [upd, m.2.2.2.2.2.2.2])
            clear eh
            revert h9
            intro h m
            show jj_R _ _ kc ks (jj_S, 782, h, g) 182 [(0, .ref 49), (1, .int 0), (2, .int 4)] [] Q
            refine rr_return dX10_clause_182 rfl ?_
            exact k2 k p _ S.1.length rfl m
        · skip
          rw [sy0] at e1
          rw [pb_er e1] at k2
          show jj_R _ _ kc ks (jj_S, 782, h, g) 117 [(0, .ref 49), (1, .int 0), (2, .int 0)] [.int 0, .int 0, .ref (55 + ((nI (S.1.length)) : Int32).toNatClampNeg)] Q
          refine rr_iastore dX10_clause_117 (lr_54 (jj_ink (i := (nI (S.1.length))) (vp_in_nI (by omega) (by decide)))) (sr_54 (jj_ink (i := (nI (S.1.length))) (vp_in_nI (by omega) (by decide)))) (jj_inL rfl) ?_
          rw [show (0 : Int32).toNatClampNeg = 0 from rfl]
          refine jj_Rh (jj_gs_set0 (B := h) (L := []) (b := 55) (len := 8) (x := ((nI (S.1.length)) : Int32).toNatClampNeg) rfl (jj_ink (i := (nI (S.1.length))) (vp_in_nI (by omega) (by decide)))) ?_
          rw [jj_rs_nil]
          refine jj_fl (fun h9 eh => ?_)
          have m9 : ter c e S.1.length h0 k p h9 := by
            rw [eh]
            exact ter_g m
          clear eh
          revert h9
          intro h m
          show jj_R _ _ kc ks (jj_S, 782, h, g) 118 [(0, .ref 49), (1, .int 0), (2, .int 0)] [] Q
          refine rr_iinc 2 1 [(0, .ref 49), (1, .int 0), (2, .int 1)] dX10_clause_118 rfl rfl (by decide) rfl ?_
          refine rr_goto dX10_clause_121 ?_
          refine rr_iload_n 2 rfl rfl dX10_clause_79 ?_
          refine rr_iconst 4 rfl dX10_clause_80 ?_
          refine rr_icmp_ge dX10_clause_81 (fun c => absurd c (by decide)) (fun _ => ?_)
          refine rr_iload_n 1 rfl rfl dX10_clause_84 ?_
          refine rr_if_ne dX10_clause_85 (fun c => absurd c (by decide)) (fun _ => ?_)
          refine rr_aload_n 0 rfl rfl dX10_clause_88 ?_
          refine rr_getR dX10_clause_89 fX10_28 lo_49 sh_49 rfl ?_
          refine rr_aload_n 0 rfl rfl dX10_clause_92 ?_
          refine rr_getR dX10_clause_93 fX10_20 lo_49 sh_49 rfl ?_
          refine rr_iconst 0 rfl dX10_clause_96 ?_
          refine rr_iaload dX10_clause_97 lo_52 sh_52 (jj_inL rfl) ?_
          rw [show (h 52) (0 : Int32).toNatClampNeg = (nI (S.1.length)) from m.2.2.2.2.2.2.2]
          refine rr_aaload dX10_clause_98 lo_54 sh_54 (vp_in_nI (by omega) (by decide)) ?_
          refine rr_iload_n 2 rfl rfl dX10_clause_99 ?_
          refine rr_aload_n 0 rfl rfl dX10_clause_100 ?_
          refine rr_iconst 0 rfl dX10_clause_101 ?_
          refine rr_iload_n 2 rfl rfl dX10_clause_102 ?_
          refine rr_iconst 2 rfl dX10_clause_103 ?_
          refine rr_icmp_ge dX10_clause_104 (fun c => absurd c (by decide)) (fun _ => ?_)
          refine rr_bipush 9 rfl dX10_clause_107 ?_
          refine rr_goto dX10_clause_109 ?_
          refine rr_callV (As := [.int 0, .int 9]) (rest := [.int 1, .ref (55 + ((nI (S.1.length)) : Int32).toNatClampNeg)]) (kc2 := 0) (ks2 := 0) dX10_clause_114 okX10_number lX10_157 lo_49 sh_49 rfl rfl (Nat.le_of_ble_eq_true rfl) (Nat.le_of_ble_eq_true rfl) rfl (by omega) (by simp [jj_rk] <;> first | exact Or.inl (lr_54 (jj_ink (i := (nI (S.1.length))) (vp_in_nI (by omega) (by decide))))) (by simp [jj_rk] <;> first | exact Or.inl (lr_54 (jj_ink (i := (nI (S.1.length))) (vp_in_nI (by omega) (by decide))))) ?_
          refine nf_number (by omega) m.2.2.1 ?_
          show jj_R _ _ kc ks (jj_S, 782, h, g) 117 [(0, .ref 49), (1, .int 0), (2, .int 1)] [.int 0, .int 1, .ref (55 + ((nI (S.1.length)) : Int32).toNatClampNeg)] Q
          refine rr_iastore dX10_clause_117 (lr_54 (jj_ink (i := (nI (S.1.length))) (vp_in_nI (by omega) (by decide)))) (sr_54 (jj_ink (i := (nI (S.1.length))) (vp_in_nI (by omega) (by decide)))) (jj_inL rfl) ?_
          rw [show (1 : Int32).toNatClampNeg = 1 from rfl]
          refine jj_Rh (jj_gs_set0 (B := h) (L := []) (b := 55) (len := 8) (x := ((nI (S.1.length)) : Int32).toNatClampNeg) rfl (jj_ink (i := (nI (S.1.length))) (vp_in_nI (by omega) (by decide)))) ?_
          rw [jj_rs_nil]
          refine jj_fl (fun h9 eh => ?_)
          have m9 : ter c e S.1.length h0 k p h9 := by
            rw [eh]
            exact ter_g m
          clear eh
          revert h9
          intro h m
          show jj_R _ _ kc ks (jj_S, 782, h, g) 118 [(0, .ref 49), (1, .int 0), (2, .int 1)] [] Q
          refine rr_iinc 2 1 [(0, .ref 49), (1, .int 0), (2, .int 2)] dX10_clause_118 rfl rfl (by decide) rfl ?_
          refine rr_goto dX10_clause_121 ?_
          refine rr_iload_n 2 rfl rfl dX10_clause_79 ?_
          refine rr_iconst 4 rfl dX10_clause_80 ?_
          refine rr_icmp_ge dX10_clause_81 (fun c => absurd c (by decide)) (fun _ => ?_)
          refine rr_iload_n 1 rfl rfl dX10_clause_84 ?_
          refine rr_if_ne dX10_clause_85 (fun c => absurd c (by decide)) (fun _ => ?_)
          refine rr_aload_n 0 rfl rfl dX10_clause_88 ?_
          refine rr_getR dX10_clause_89 fX10_28 lo_49 sh_49 rfl ?_
          refine rr_aload_n 0 rfl rfl dX10_clause_92 ?_
          refine rr_getR dX10_clause_93 fX10_20 lo_49 sh_49 rfl ?_
          refine rr_iconst 0 rfl dX10_clause_96 ?_
          refine rr_iaload dX10_clause_97 lo_52 sh_52 (jj_inL rfl) ?_
          rw [show (h 52) (0 : Int32).toNatClampNeg = (nI (S.1.length)) from m.2.2.2.2.2.2.2]
          refine rr_aaload dX10_clause_98 lo_54 sh_54 (vp_in_nI (by omega) (by decide)) ?_
          refine rr_iload_n 2 rfl rfl dX10_clause_99 ?_
          refine rr_aload_n 0 rfl rfl dX10_clause_100 ?_
          refine rr_iconst 0 rfl dX10_clause_101 ?_
          refine rr_iload_n 2 rfl rfl dX10_clause_102 ?_
          refine rr_iconst 2 rfl dX10_clause_103 ?_
          refine rr_icmp_ge dX10_clause_104 (fun _ => ?_) (fun c => absurd (by decide) c)
          refine rr_bipush 20 rfl dX10_clause_112 ?_
          refine rr_callV (As := [.int 0, .int 20]) (rest := [.int 2, .ref (55 + ((nI (S.1.length)) : Int32).toNatClampNeg)]) (kc2 := 0) (ks2 := 0) dX10_clause_114 okX10_number lX10_157 lo_49 sh_49 rfl rfl (Nat.le_of_ble_eq_true rfl) (Nat.le_of_ble_eq_true rfl) rfl (by omega) (by simp [jj_rk] <;> first | exact Or.inl (lr_54 (jj_ink (i := (nI (S.1.length))) (vp_in_nI (by omega) (by decide))))) (by simp [jj_rk] <;> first | exact Or.inl (lr_54 (jj_ink (i := (nI (S.1.length))) (vp_in_nI (by omega) (by decide))))) ?_
          refine nf_number (by omega) m.2.2.1 ?_
          show jj_R _ _ kc ks (jj_S, 782, h, g) 117 [(0, .ref 49), (1, .int 0), (2, .int 2)] [.int 0, .int 2, .ref (55 + ((nI (S.1.length)) : Int32).toNatClampNeg)] Q
          refine rr_iastore dX10_clause_117 (lr_54 (jj_ink (i := (nI (S.1.length))) (vp_in_nI (by omega) (by decide)))) (sr_54 (jj_ink (i := (nI (S.1.length))) (vp_in_nI (by omega) (by decide)))) (jj_inL rfl) ?_
          rw [show (2 : Int32).toNatClampNeg = 2 from rfl]
          refine jj_Rh (jj_gs_set0 (B := h) (L := []) (b := 55) (len := 8) (x := ((nI (S.1.length)) : Int32).toNatClampNeg) rfl (jj_ink (i := (nI (S.1.length))) (vp_in_nI (by omega) (by decide)))) ?_
          rw [jj_rs_nil]
          refine jj_fl (fun h9 eh => ?_)
          have m9 : ter c e S.1.length h0 k p h9 := by
            rw [eh]
            exact ter_g m
          clear eh
          revert h9
          intro h m
          show jj_R _ _ kc ks (jj_S, 782, h, g) 118 [(0, .ref 49), (1, .int 0), (2, .int 2)] [] Q
          refine rr_iinc 2 1 [(0, .ref 49), (1, .int 0), (2, .int 3)] dX10_clause_118 rfl rfl (by decide) rfl ?_
          refine rr_goto dX10_clause_121 ?_
          refine rr_iload_n 2 rfl rfl dX10_clause_79 ?_
          refine rr_iconst 4 rfl dX10_clause_80 ?_
          refine rr_icmp_ge dX10_clause_81 (fun c => absurd c (by decide)) (fun _ => ?_)
          refine rr_iload_n 1 rfl rfl dX10_clause_84 ?_
          refine rr_if_ne dX10_clause_85 (fun c => absurd c (by decide)) (fun _ => ?_)
          refine rr_aload_n 0 rfl rfl dX10_clause_88 ?_
          refine rr_getR dX10_clause_89 fX10_28 lo_49 sh_49 rfl ?_
          refine rr_aload_n 0 rfl rfl dX10_clause_92 ?_
          refine rr_getR dX10_clause_93 fX10_20 lo_49 sh_49 rfl ?_
          refine rr_iconst 0 rfl dX10_clause_96 ?_
          refine rr_iaload dX10_clause_97 lo_52 sh_52 (jj_inL rfl) ?_
          rw [show (h 52) (0 : Int32).toNatClampNeg = (nI (S.1.length)) from m.2.2.2.2.2.2.2]
          refine rr_aaload dX10_clause_98 lo_54 sh_54 (vp_in_nI (by omega) (by decide)) ?_
          refine rr_iload_n 2 rfl rfl dX10_clause_99 ?_
          refine rr_aload_n 0 rfl rfl dX10_clause_100 ?_
          refine rr_iconst 0 rfl dX10_clause_101 ?_
          refine rr_iload_n 2 rfl rfl dX10_clause_102 ?_
          refine rr_iconst 2 rfl dX10_clause_103 ?_
          refine rr_icmp_ge dX10_clause_104 (fun _ => ?_) (fun c => absurd (by decide) c)
          refine rr_bipush 20 rfl dX10_clause_112 ?_
          refine rr_callV (As := [.int 0, .int 20]) (rest := [.int 3, .ref (55 + ((nI (S.1.length)) : Int32).toNatClampNeg)]) (kc2 := 0) (ks2 := 0) dX10_clause_114 okX10_number lX10_157 lo_49 sh_49 rfl rfl (Nat.le_of_ble_eq_true rfl) (Nat.le_of_ble_eq_true rfl) rfl (by omega) (by simp [jj_rk] <;> first | exact Or.inl (lr_54 (jj_ink (i := (nI (S.1.length))) (vp_in_nI (by omega) (by decide))))) (by simp [jj_rk] <;> first | exact Or.inl (lr_54 (jj_ink (i := (nI (S.1.length))) (vp_in_nI (by omega) (by decide))))) ?_
          refine nf_number (by omega) m.2.2.1 ?_
          show jj_R _ _ kc ks (jj_S, 782, h, g) 117 [(0, .ref 49), (1, .int 0), (2, .int 3)] [.int 0, .int 3, .ref (55 + ((nI (S.1.length)) : Int32).toNatClampNeg)] Q
          refine rr_iastore dX10_clause_117 (lr_54 (jj_ink (i := (nI (S.1.length))) (vp_in_nI (by omega) (by decide)))) (sr_54 (jj_ink (i := (nI (S.1.length))) (vp_in_nI (by omega) (by decide)))) (jj_inL rfl) ?_
          rw [show (3 : Int32).toNatClampNeg = 3 from rfl]
          refine jj_Rh (jj_gs_set0 (B := h) (L := []) (b := 55) (len := 8) (x := ((nI (S.1.length)) : Int32).toNatClampNeg) rfl (jj_ink (i := (nI (S.1.length))) (vp_in_nI (by omega) (by decide)))) ?_
          rw [jj_rs_nil]
          refine jj_fl (fun h9 eh => ?_)
          have m9 : ter c e S.1.length h0 k p h9 := by
            rw [eh]
            exact ter_g m
          clear eh
          revert h9
          intro h m
          show jj_R _ _ kc ks (jj_S, 782, h, g) 118 [(0, .ref 49), (1, .int 0), (2, .int 3)] [] Q
          refine rr_iinc 2 1 [(0, .ref 49), (1, .int 0), (2, .int 4)] dX10_clause_118 rfl rfl (by decide) rfl ?_
          refine rr_goto dX10_clause_121 ?_
          refine rr_iload_n 2 rfl rfl dX10_clause_79 ?_
          refine rr_iconst 4 rfl dX10_clause_80 ?_
          refine rr_icmp_ge dX10_clause_81 (fun _ => ?_) (fun c => absurd (by decide) c)
          refine rr_iload_n 1 rfl rfl dX10_clause_124 ?_
          refine rr_iconst 1 rfl dX10_clause_125 ?_
          refine rr_icmp_ne dX10_clause_126 (fun _ => ?_) (fun c => absurd c (by decide))
          refine rr_iload_n 1 rfl rfl dX10_clause_133 ?_
          refine rr_iconst 2 rfl dX10_clause_134 ?_
          refine rr_icmp_ne dX10_clause_135 (fun _ => ?_) (fun c => absurd c (by decide))
          refine rr_aload_n 0 rfl rfl dX10_clause_151 ?_
          refine rr_bipush 59 rfl dX10_clause_152 ?_
          refine rr_callV (As := [.int 59]) (rest := []) (kc2 := 0) (ks2 := 0) dX10_clause_154 okX10_sign lX10_167 lo_49 sh_49 rfl rfl (Nat.le_of_ble_eq_true rfl) (Nat.le_of_ble_eq_true rfl) rfl (by omega) (by simp [jj_rk]) (by simp [jj_rk]) ?_
          refine nf_sign (by omega) m.2.2.1 ?_
          show jj_R _ _ kc ks (jj_S, 782, h, g) 157 [(0, .ref 49), (1, .int 0), (2, .int 4)] [] Q
          refine rr_iload_n 1 rfl rfl dX10_clause_157 ?_
          refine rr_if_ne dX10_clause_158 (fun c => absurd c (by decide)) (fun _ => ?_)
          refine rr_aload_n 0 rfl rfl dX10_clause_161 ?_
          refine rr_getR dX10_clause_162 fX10_20 lo_49 sh_49 rfl ?_
          refine rr_iconst 0 rfl dX10_clause_165 ?_
          refine rr_dup2 rfl rfl dX10_clause_166 ?_
          refine rr_iaload dX10_clause_167 lo_52 sh_52 (jj_inL rfl) ?_
          rw [show (h 52) (0 : Int32).toNatClampNeg = (nI (S.1.length)) from m.2.2.2.2.2.2.2]
          refine rr_aload_n 0 rfl rfl dX10_clause_168 ?_
          refine rr_getI dX10_clause_169 fX10_111 lo_49 sh_49 rfl ?_
          refine rr_if_ne dX10_clause_172 (fun _ => ?_) (fun c => absurd c m.2.2.1)
          refine rr_iconst 0 rfl dX10_clause_179 ?_
          refine rr_iadd dX10_clause_180 ?_
          refine rr_iastore dX10_clause_181 lo_52 sh_52 (jj_inL rfl) ?_
          rw [show (0 : Int32).toNatClampNeg = 0 from rfl]
          rw [jj_rs_set0 (B := h) (o := 52) (r := (h 52)) rfl]
          refine jj_fl (fun h9 eh => ?_)
          have m9 : ter c e S.1.length h0 k p h9 := by
            rw [eh]
            exact ter_52 m (by simp [upd, m.2.2.2.2.2.2.2])
          clear eh
          revert h9
          intro h m
          show jj_R _ _ kc ks (jj_S, 782, h, g) 182 [(0, .ref 49), (1, .int 0), (2, .int 4)] [] Q
          refine rr_return dX10_clause_182 rfl ?_
          exact k2 k p _ S.1.length rfl m
      · skip
        have hz : S.1.length = 8 := (nI_eq (by omega) (by decide)).mp c2
        rw [if_pos (Or.inr hz)] at k2
        refine rr_aload_n 0 rfl rfl dX10_clause_46 ?_
        refine rr_iconst 3 rfl dX10_clause_47 ?_
        refine rr_aload_n 0 rfl rfl dX10_clause_48 ?_
        refine rr_getI dX10_clause_49 fX10_104 lo_49 sh_49 rfl ?_
        rw [show (h 49) 4 = (nI x) from m.1.2.1]
        refine rr_callV (As := [.int 3, .int (nI x)]) (rest := []) (kc2 := 0) (ks2 := 0) dX10_clause_52 okX10_wrong lX10_124 lo_49 sh_49 rfl rfl (Nat.le_of_ble_eq_true rfl) (Nat.le_of_ble_eq_true rfl) rfl (by omega) (by simp [jj_rk]) (by simp [jj_rk]) ?_
        refine ll_wrong (K := 3) tst_R m (by decide) (by decide) rfl rfl (fun h m => ?_)
        show jj_R _ _ kc ks (jj_S, 782, h, g) 55 [(0, .ref 49), (1, .int 0)] [] Q
        refine rr_aload_n 0 rfl rfl dX10_clause_55 ?_
        refine rr_getI dX10_clause_56 fX10_111 lo_49 sh_49 rfl ?_
        refine rr_if_eq dX10_clause_59 (fun c => absurd c m.2.2.1) (fun _ => ?_)
        refine rr_return dX10_clause_62 rfl ?_
        exact k2 3 x _ S.1.length rfl m
  · skip
    by_cases w1 : wis c e x [102, 114, 105, 101, 110, 100] = true
    · skip
      have q : kk c e x = 1 := by unfold kk; rw [if_neg w0, if_pos w1]
      rw [q]
      have hk := wis_2 w1
      unfold pclause at k1 k2
      rw [if_neg w0, if_pos w1] at k1 k2
      show jj_R _ _ kc ks (jj_S, 782, h, g) 4 [(0, .ref 49)] [.int 1] Q
      refine rr_istore_n [(0, .ref 49), (1, .int 1)] dX10_clause_4 rfl (by decide) rfl ?_
      refine rr_iload_n 1 rfl rfl dX10_clause_5 ?_
      refine rr_iconst (-1) rfl dX10_clause_6 ?_
      refine rr_icmp_ne dX10_clause_7 (fun _ => ?_) (fun c => absurd c (by decide))
      refine rr_aload_n 0 rfl rfl dX10_clause_22 ?_
      refine rr_getI dX10_clause_23 fX10_151 lo_49 sh_49 rfl ?_
      rw [show (h 49) 7 = (nI j) from m.2.1]
      refine rr_bipush 60 rfl dX10_clause_26 ?_
      refine rr_icmp_eq dX10_clause_28 (fun c3 => ?_) (fun c3 => ?_)
      · skip
        have hz : j = 60 := (nI_eq (by omega) (by decide)).mp c3
        rw [if_pos hz] at k2
        refine rr_aload_n 0 rfl rfl dX10_clause_46 ?_
        refine rr_iconst 3 rfl dX10_clause_47 ?_
        refine rr_aload_n 0 rfl rfl dX10_clause_48 ?_
        refine rr_getI dX10_clause_49 fX10_104 lo_49 sh_49 rfl ?_
        rw [show (h 49) 4 = (nI x) from m.1.2.1]
        refine rr_callV (As := [.int 3, .int (nI x)]) (rest := []) (kc2 := 0) (ks2 := 0) dX10_clause_52 okX10_wrong lX10_124 lo_49 sh_49 rfl rfl (Nat.le_of_ble_eq_true rfl) (Nat.le_of_ble_eq_true rfl) rfl (by omega) (by simp [jj_rk]) (by simp [jj_rk]) ?_
        refine ll_wrong (K := 3) tst_R m (by decide) (by decide) rfl rfl (fun h m => ?_)
        show jj_R _ _ kc ks (jj_S, 782, h, g) 55 [(0, .ref 49), (1, .int 1)] [] Q
        refine rr_aload_n 0 rfl rfl dX10_clause_55 ?_
        refine rr_getI dX10_clause_56 fX10_111 lo_49 sh_49 rfl ?_
        refine rr_if_eq dX10_clause_59 (fun c => absurd c m.2.2.1) (fun _ => ?_)
        refine rr_return dX10_clause_62 rfl ?_
        exact k2 3 x _ S.1.length rfl m
      · skip
        refine rr_iload_n 1 rfl rfl dX10_clause_31 ?_
        refine rr_if_ne dX10_clause_32 (fun _ => ?_) (fun c => absurd c (by decide))
        have hj60 : j < 60 := by
          rcases Nat.lt_or_ge j 60 with z | z
          · exact z
          · exfalso
            have z2 : j = 60 := by omega
            rw [z2] at c3
            exact c3 rfl
        rw [if_neg (by omega)] at k1 k2
        refine rr_aload_n 0 rfl rfl dX10_clause_55 ?_
        refine rr_getI dX10_clause_56 fX10_111 lo_49 sh_49 rfl ?_
        rw [show (h 49) 5 = 0 from m.1.2.2.2.2]
        refine rr_if_eq dX10_clause_59 (fun _ => ?_) (fun c => absurd (by decide) c)
        refine rr_aload_n 0 rfl rfl dX10_clause_63 ?_
        refine rr_callV (As := []) (rest := []) (kc2 := 0) (ks2 := 0) dX10_clause_64 okX10_skipWord lX10_144 lo_49 sh_49 rfl rfl (Nat.le_of_ble_eq_true rfl) (Nat.le_of_ble_eq_true rfl) rfl (by omega) (by simp [jj_rk]) (by simp [jj_rk]) ?_
        refine ll_skip tst_R he6 m hk (by omega) (fun y0 h hy0 hye sy0 m => ?_)
        show jj_R _ _ kc ks (jj_S, 782, h, g) 67 [(0, .ref 49), (1, .int 1)] [] Q
        refine rr_aload_n 0 rfl rfl dX10_clause_67 ?_
        refine rr_dup rfl dX10_clause_68 ?_
        refine rr_getI dX10_clause_69 fX10_151 lo_49 sh_49 rfl ?_
        rw [show (h 49) 7 = (nI j) from m.2.1]
        refine rr_iconst 1 rfl dX10_clause_72 ?_
        refine rr_iadd dX10_clause_73 ?_
        refine rr_putI dX10_clause_74 fX10_151 ni10_7 lo_49 sh_49 rfl ?_
        rw [jj_rs_set0 (B := h) (o := 49) (r := (h 49)) rfl]
        refine jj_fl (fun h9 eh => ?_)
        have m9 : tst c e (j + 1) S [] h0 y0 h9 := by
          rw [eh]
          exact tst_7 m hj60
        clear eh
        revert h9
        intro h m
        show jj_R _ _ kc ks (jj_S, 782, h, g) 77 [(0, .ref 49), (1, .int 1)] [] Q
        refine rr_iconst 0 rfl dX10_clause_77 ?_
        refine rr_istore_n [(0, .ref 49), (1, .int 1), (2, .int 0)] dX10_clause_78 rfl (by decide) rfl ?_
        refine rr_iload_n 2 rfl rfl dX10_clause_79 ?_
        refine rr_iconst 4 rfl dX10_clause_80 ?_
        refine rr_icmp_ge dX10_clause_81 (fun c => absurd c (by decide)) (fun _ => ?_)
        refine rr_iload_n 1 rfl rfl dX10_clause_84 ?_
        refine rr_if_ne dX10_clause_85 (fun _ => ?_) (fun c => absurd c (by decide))
        refine rr_iload_n 1 rfl rfl dX10_clause_124 ?_
        refine rr_iconst 1 rfl dX10_clause_125 ?_
        refine rr_icmp_ne dX10_clause_126 (fun c => absurd c (by decide)) (fun _ => ?_)
        refine rr_aload_n 0 rfl rfl dX10_clause_129 ?_
        refine rr_callV (As := []) (rest := []) (kc2 := 0) (ks2 := 0) dX10_clause_130 okX10_friends lX10_164 lo_49 sh_49 rfl rfl (Nat.le_of_ble_eq_true rfl) (Nat.le_of_ble_eq_true rfl) rfl (by omega) (by simp [jj_rk]) (by simp [jj_rk]) ?_
        refine st_friends he6 (by omega) sy0 m (fun S2 b2 y2 h e1 hy2 sy2 m => ?_) (fun k p h e1 m => ?_)
        · skip
          rw [pb_ok e1] at k1 k2
          show jj_R _ _ kc ks (jj_S, 782, h, g) 133 [(0, .ref 49), (1, .int 1), (2, .int 0)] [] Q
          refine rr_iload_n 1 rfl rfl dX10_clause_133 ?_
          refine rr_iconst 2 rfl dX10_clause_134 ?_
          refine rr_icmp_ne dX10_clause_135 (fun _ => ?_) (fun c => absurd c (by decide))
          refine rr_aload_n 0 rfl rfl dX10_clause_151 ?_
          refine rr_bipush 59 rfl dX10_clause_152 ?_
          refine rr_callV (As := [.int 59]) (rest := []) (kc2 := 0) (ks2 := 0) dX10_clause_154 okX10_sign lX10_167 lo_49 sh_49 rfl rfl (Nat.le_of_ble_eq_true rfl) (Nat.le_of_ble_eq_true rfl) rfl (by omega) (by simp [jj_rk]) (by simp [jj_rk]) ?_
          refine ll_sign (X := 59) tst_R he6 sg_59 m (by omega) (fun b9 y9 h e1 hy9 sy9 m => ?_) (fun k p h e1 m => ?_)
          · skip
            rw [sy2] at e1
            rw [pb_ok e1] at k1 k2
            show jj_R _ _ kc ks (jj_S, 782, h, g) 157 [(0, .ref 49), (1, .int 1), (2, .int 0)] [] Q
            refine rr_iload_n 1 rfl rfl dX10_clause_157 ?_
            refine rr_if_ne dX10_clause_158 (fun _ => ?_) (fun c => absurd c (by decide))
            refine rr_return dX10_clause_182 rfl ?_
            exact k1 _ b9 y9 _ rfl (by omega) sy9 m
          · skip
            rw [sy2] at e1
            rw [pb_er e1] at k2
            show jj_R _ _ kc ks (jj_S, 782, h, g) 157 [(0, .ref 49), (1, .int 1), (2, .int 0)] [] Q
            refine rr_iload_n 1 rfl rfl dX10_clause_157 ?_
            refine rr_if_ne dX10_clause_158 (fun _ => ?_) (fun c => absurd c (by decide))
            refine rr_return dX10_clause_182 rfl ?_
            exact k2 k p _ _ rfl m
        · skip
          rw [pb_er e1] at k2
          show jj_R _ _ kc ks (jj_S, 782, h, g) 133 [(0, .ref 49), (1, .int 1), (2, .int 0)] [] Q
          refine rr_iload_n 1 rfl rfl dX10_clause_133 ?_
          refine rr_iconst 2 rfl dX10_clause_134 ?_
          refine rr_icmp_ne dX10_clause_135 (fun _ => ?_) (fun c => absurd c (by decide))
          refine rr_aload_n 0 rfl rfl dX10_clause_151 ?_
          refine rr_bipush 59 rfl dX10_clause_152 ?_
          refine rr_callV (As := [.int 59]) (rest := []) (kc2 := 0) (ks2 := 0) dX10_clause_154 okX10_sign lX10_167 lo_49 sh_49 rfl rfl (Nat.le_of_ble_eq_true rfl) (Nat.le_of_ble_eq_true rfl) rfl (by omega) (by simp [jj_rk]) (by simp [jj_rk]) ?_
          refine nf_sign (by omega) m.2.2.1 ?_
          show jj_R _ _ kc ks (jj_S, 782, h, g) 157 [(0, .ref 49), (1, .int 1), (2, .int 0)] [] Q
          refine rr_iload_n 1 rfl rfl dX10_clause_157 ?_
          refine rr_if_ne dX10_clause_158 (fun _ => ?_) (fun c => absurd c (by decide))
          refine rr_return dX10_clause_182 rfl ?_
          exact k2 k p _ S.1.length rfl m
    · skip
      by_cases w2 : wis c e x [115, 116, 114, 105, 110, 103] = true
      · skip
        have q : kk c e x = 2 := by unfold kk; rw [if_neg w0, if_neg w1, if_pos w2]
        rw [q]
        have hk := wis_2 w2
        unfold pclause at k1 k2
        rw [if_neg w0, if_neg w1, if_pos w2] at k1 k2
        show jj_R _ _ kc ks (jj_S, 782, h, g) 4 [(0, .ref 49)] [.int 2] Q
        refine rr_istore_n [(0, .ref 49), (1, .int 2)] dX10_clause_4 rfl (by decide) rfl ?_
        refine rr_iload_n 1 rfl rfl dX10_clause_5 ?_
        refine rr_iconst (-1) rfl dX10_clause_6 ?_
        refine rr_icmp_ne dX10_clause_7 (fun _ => ?_) (fun c => absurd c (by decide))
        refine rr_aload_n 0 rfl rfl dX10_clause_22 ?_
        refine rr_getI dX10_clause_23 fX10_151 lo_49 sh_49 rfl ?_
        rw [show (h 49) 7 = (nI j) from m.2.1]
        refine rr_bipush 60 rfl dX10_clause_26 ?_
        refine rr_icmp_eq dX10_clause_28 (fun c4 => ?_) (fun c4 => ?_)
        · skip
          have hz : j = 60 := (nI_eq (by omega) (by decide)).mp c4
          rw [if_pos hz] at k2
          refine rr_aload_n 0 rfl rfl dX10_clause_46 ?_
          refine rr_iconst 3 rfl dX10_clause_47 ?_
          refine rr_aload_n 0 rfl rfl dX10_clause_48 ?_
          refine rr_getI dX10_clause_49 fX10_104 lo_49 sh_49 rfl ?_
          rw [show (h 49) 4 = (nI x) from m.1.2.1]
          refine rr_callV (As := [.int 3, .int (nI x)]) (rest := []) (kc2 := 0) (ks2 := 0) dX10_clause_52 okX10_wrong lX10_124 lo_49 sh_49 rfl rfl (Nat.le_of_ble_eq_true rfl) (Nat.le_of_ble_eq_true rfl) rfl (by omega) (by simp [jj_rk]) (by simp [jj_rk]) ?_
          refine ll_wrong (K := 3) tst_R m (by decide) (by decide) rfl rfl (fun h m => ?_)
          show jj_R _ _ kc ks (jj_S, 782, h, g) 55 [(0, .ref 49), (1, .int 2)] [] Q
          refine rr_aload_n 0 rfl rfl dX10_clause_55 ?_
          refine rr_getI dX10_clause_56 fX10_111 lo_49 sh_49 rfl ?_
          refine rr_if_eq dX10_clause_59 (fun c => absurd c m.2.2.1) (fun _ => ?_)
          refine rr_return dX10_clause_62 rfl ?_
          exact k2 3 x _ S.1.length rfl m
        · skip
          refine rr_iload_n 1 rfl rfl dX10_clause_31 ?_
          refine rr_if_ne dX10_clause_32 (fun _ => ?_) (fun c => absurd c (by decide))
          have hj60 : j < 60 := by
            rcases Nat.lt_or_ge j 60 with z | z
            · exact z
            · exfalso
              have z2 : j = 60 := by omega
              rw [z2] at c4
              exact c4 rfl
          rw [if_neg (by omega)] at k1 k2
          refine rr_aload_n 0 rfl rfl dX10_clause_55 ?_
          refine rr_getI dX10_clause_56 fX10_111 lo_49 sh_49 rfl ?_
          rw [show (h 49) 5 = 0 from m.1.2.2.2.2]
          refine rr_if_eq dX10_clause_59 (fun _ => ?_) (fun c => absurd (by decide) c)
          refine rr_aload_n 0 rfl rfl dX10_clause_63 ?_
          refine rr_callV (As := []) (rest := []) (kc2 := 0) (ks2 := 0) dX10_clause_64 okX10_skipWord lX10_144 lo_49 sh_49 rfl rfl (Nat.le_of_ble_eq_true rfl) (Nat.le_of_ble_eq_true rfl) rfl (by omega) (by simp [jj_rk]) (by simp [jj_rk]) ?_
          refine ll_skip tst_R he6 m hk (by omega) (fun y0 h hy0 hye sy0 m => ?_)
          show jj_R _ _ kc ks (jj_S, 782, h, g) 67 [(0, .ref 49), (1, .int 2)] [] Q
          refine rr_aload_n 0 rfl rfl dX10_clause_67 ?_
          refine rr_dup rfl dX10_clause_68 ?_
          refine rr_getI dX10_clause_69 fX10_151 lo_49 sh_49 rfl ?_
          rw [show (h 49) 7 = (nI j) from m.2.1]
          refine rr_iconst 1 rfl dX10_clause_72 ?_
          refine rr_iadd dX10_clause_73 ?_
          refine rr_putI dX10_clause_74 fX10_151 ni10_7 lo_49 sh_49 rfl ?_
          rw [jj_rs_set0 (B := h) (o := 49) (r := (h 49)) rfl]
          refine jj_fl (fun h9 eh => ?_)
          have m9 : tst c e (j + 1) S [] h0 y0 h9 := by
            rw [eh]
            exact tst_7 m hj60
          clear eh
          revert h9
          intro h m
          show jj_R _ _ kc ks (jj_S, 782, h, g) 77 [(0, .ref 49), (1, .int 2)] [] Q
          refine rr_iconst 0 rfl dX10_clause_77 ?_
          refine rr_istore_n [(0, .ref 49), (1, .int 2), (2, .int 0)] dX10_clause_78 rfl (by decide) rfl ?_
          refine rr_iload_n 2 rfl rfl dX10_clause_79 ?_
          refine rr_iconst 4 rfl dX10_clause_80 ?_
          refine rr_icmp_ge dX10_clause_81 (fun c => absurd c (by decide)) (fun _ => ?_)
          refine rr_iload_n 1 rfl rfl dX10_clause_84 ?_
          refine rr_if_ne dX10_clause_85 (fun _ => ?_) (fun c => absurd c (by decide))
          refine rr_iload_n 1 rfl rfl dX10_clause_124 ?_
          refine rr_iconst 1 rfl dX10_clause_125 ?_
          refine rr_icmp_ne dX10_clause_126 (fun _ => ?_) (fun c => absurd c (by decide))
          refine rr_iload_n 1 rfl rfl dX10_clause_133 ?_
          refine rr_iconst 2 rfl dX10_clause_134 ?_
          refine rr_icmp_ne dX10_clause_135 (fun c => absurd c (by decide)) (fun _ => ?_)
          refine rr_aload_n 0 rfl rfl dX10_clause_138 ?_
          refine rr_getR dX10_clause_139 fX10_20 lo_49 sh_49 rfl ?_
          refine rr_iconst 1 rfl dX10_clause_142 ?_
          refine rr_aload_n 0 rfl rfl dX10_clause_143 ?_
          refine rr_iconst 0 rfl dX10_clause_144 ?_
          refine rr_bipush 99 rfl dX10_clause_145 ?_
          refine rr_callV (As := [.int 0, .int 99]) (rest := [.int 1, .ref 52]) (kc2 := 0) (ks2 := 0) dX10_clause_147 okX10_number lX10_157 lo_49 sh_49 rfl rfl (Nat.le_of_ble_eq_true rfl) (Nat.le_of_ble_eq_true rfl) rfl (by omega) (by simp [jj_rk]) (by simp [jj_rk]) ?_
          refine ll_num (lim := 100) tst_R he6 m (by omega) (by decide) (by omega) (fun v1 b1 y1 h e1 hv1 hy1 sy1 m => ?_) (fun k p h e1 m => ?_)
          · skip
            rw [sy0] at e1
            rw [pb_ok e1] at k1 k2
            show jj_R _ _ kc ks (jj_S, 782, h, g) 150 [(0, .ref 49), (1, .int 2), (2, .int 0)] [.int (nI v1), .int 1, .ref 52] Q
            refine rr_iastore dX10_clause_150 lo_52 sh_52 (jj_inL rfl) ?_
            rw [show (1 : Int32).toNatClampNeg = 1 from rfl]
            rw [jj_rs_set0 (B := h) (o := 52) (r := (h 52)) rfl]
            refine jj_fl (fun h9 eh => ?_)
            have m9 : tst c e (j + 1) (S.1, v1, S.2.2) [] h0 y1 h9 := by
              rw [eh]
              exact tst_s m
            clear eh
            revert h9
            intro h m
            show jj_R _ _ kc ks (jj_S, 782, h, g) 151 [(0, .ref 49), (1, .int 2), (2, .int 0)] [] Q
            refine rr_aload_n 0 rfl rfl dX10_clause_151 ?_
            refine rr_bipush 59 rfl dX10_clause_152 ?_
            refine rr_callV (As := [.int 59]) (rest := []) (kc2 := 0) (ks2 := 0) dX10_clause_154 okX10_sign lX10_167 lo_49 sh_49 rfl rfl (Nat.le_of_ble_eq_true rfl) (Nat.le_of_ble_eq_true rfl) rfl (by omega) (by simp [jj_rk]) (by simp [jj_rk]) ?_
            refine ll_sign (X := 59) tst_R he6 sg_59 m (by omega) (fun b9 y9 h e1 hy9 sy9 m => ?_) (fun k p h e1 m => ?_)
            · skip
              rw [sy1] at e1
              rw [pb_ok e1] at k1 k2
              show jj_R _ _ kc ks (jj_S, 782, h, g) 157 [(0, .ref 49), (1, .int 2), (2, .int 0)] [] Q
              refine rr_iload_n 1 rfl rfl dX10_clause_157 ?_
              refine rr_if_ne dX10_clause_158 (fun _ => ?_) (fun c => absurd c (by decide))
              refine rr_return dX10_clause_182 rfl ?_
              exact k1 _ b9 y9 _ rfl (by omega) sy9 m
            · skip
              rw [sy1] at e1
              rw [pb_er e1] at k2
              show jj_R _ _ kc ks (jj_S, 782, h, g) 157 [(0, .ref 49), (1, .int 2), (2, .int 0)] [] Q
              refine rr_iload_n 1 rfl rfl dX10_clause_157 ?_
              refine rr_if_ne dX10_clause_158 (fun _ => ?_) (fun c => absurd c (by decide))
              refine rr_return dX10_clause_182 rfl ?_
              exact k2 k p _ S.1.length rfl m
          · skip
            rw [sy0] at e1
            rw [pb_er e1] at k2
            show jj_R _ _ kc ks (jj_S, 782, h, g) 150 [(0, .ref 49), (1, .int 2), (2, .int 0)] [.int 0, .int 1, .ref 52] Q
            refine rr_iastore dX10_clause_150 lo_52 sh_52 (jj_inL rfl) ?_
            rw [show (1 : Int32).toNatClampNeg = 1 from rfl]
            rw [jj_rs_set0 (B := h) (o := 52) (r := (h 52)) rfl]
            refine jj_fl (fun h9 eh => ?_)
            have m9 : ter c e S.1.length h0 k p h9 := by
              rw [eh]
              exact ter_52 m (by simp [upd, m.2.2.2.2.2.2.2])
            clear eh
            revert h9
            intro h m
            show jj_R _ _ kc ks (jj_S, 782, h, g) 151 [(0, .ref 49), (1, .int 2), (2, .int 0)] [] Q
            refine rr_aload_n 0 rfl rfl dX10_clause_151 ?_
            refine rr_bipush 59 rfl dX10_clause_152 ?_
            refine rr_callV (As := [.int 59]) (rest := []) (kc2 := 0) (ks2 := 0) dX10_clause_154 okX10_sign lX10_167 lo_49 sh_49 rfl rfl (Nat.le_of_ble_eq_true rfl) (Nat.le_of_ble_eq_true rfl) rfl (by omega) (by simp [jj_rk]) (by simp [jj_rk]) ?_
            refine nf_sign (by omega) m.2.2.1 ?_
            show jj_R _ _ kc ks (jj_S, 782, h, g) 157 [(0, .ref 49), (1, .int 2), (2, .int 0)] [] Q
            refine rr_iload_n 1 rfl rfl dX10_clause_157 ?_
            refine rr_if_ne dX10_clause_158 (fun _ => ?_) (fun c => absurd c (by decide))
            refine rr_return dX10_clause_182 rfl ?_
            exact k2 k p _ S.1.length rfl m
      · skip
        have q : kk c e x = -1 := by unfold kk; rw [if_neg w0, if_neg w1, if_neg w2]
        rw [q]
        unfold pclause at k1 k2
        rw [if_neg w0, if_neg w1, if_neg w2] at k1 k2
        show jj_R _ _ kc ks (jj_S, 782, h, g) 4 [(0, .ref 49)] [.int (-1)] Q
        refine rr_istore_n [(0, .ref 49), (1, .int (-1))] dX10_clause_4 rfl (by decide) rfl ?_
        refine rr_iload_n 1 rfl rfl dX10_clause_5 ?_
        refine rr_iconst (-1) rfl dX10_clause_6 ?_
        refine rr_icmp_ne dX10_clause_7 (fun c => absurd c (by decide)) (fun _ => ?_)
        refine rr_aload_n 0 rfl rfl dX10_clause_10 ?_
        refine rr_iconst 1 rfl dX10_clause_11 ?_
        refine rr_aload_n 0 rfl rfl dX10_clause_12 ?_
        refine rr_getI dX10_clause_13 fX10_104 lo_49 sh_49 rfl ?_
        rw [show (h 49) 4 = (nI x) from m.1.2.1]
        refine rr_callV (As := [.int 1, .int (nI x)]) (rest := []) (kc2 := 0) (ks2 := 0) dX10_clause_16 okX10_wrong lX10_124 lo_49 sh_49 rfl rfl (Nat.le_of_ble_eq_true rfl) (Nat.le_of_ble_eq_true rfl) rfl (by omega) (by simp [jj_rk]) (by simp [jj_rk]) ?_
        refine ll_wrong (K := 1) tst_R m (by decide) (by decide) rfl rfl (fun h m => ?_)
        show jj_R _ _ kc ks (jj_S, 782, h, g) 19 [(0, .ref 49), (1, .int (-1))] [] Q
        refine rr_goto dX10_clause_19 ?_
        refine rr_aload_n 0 rfl rfl dX10_clause_55 ?_
        refine rr_getI dX10_clause_56 fX10_111 lo_49 sh_49 rfl ?_
        refine rr_if_eq dX10_clause_59 (fun c => absurd c m.2.2.1) (fun _ => ?_)
        refine rr_return dX10_clause_62 rfl ?_
        exact k2 1 x _ S.1.length rfl m
