/-! ===== the LAW's text, as one pure reading ===== -/
def pb {α β : Type} (m : Except (Nat × Nat) α) (f : α → Except (Nat × Nat) β) : Except (Nat × Nat) β := match m with
  | .error z => .error z
  | .ok a => f a
theorem pb_ok {α β : Type} {m : Except (Nat × Nat) α} {f : α → Except (Nat × Nat) β} {a : α} (h : m = .ok a) : pb m f = f a := by rw [h]; rfl
theorem pb_er {α β : Type} {m : Except (Nat × Nat) α} {f : α → Except (Nat × Nat) β} {z : Nat × Nat} (h : m = .error z) : pb m f = .error z := by rw [h]; rfl
abbrev pC_ : Type := Except (Nat × Nat) (List (Nat × Nat) × Nat)
def ppair (S : Option (Nat → pC_)) (c : Nat → Nat) (e how a : Nat) : pC_ := match S with
  | none => .error (3, a)
  | some s => pb (psign c e 91 (nt c e a)) fun b1 => pb (s b1) fun z1 => pb (psign c e 44 z1.2) fun b3 => pb (s b3) fun z2 => pb (psign c e 93 z2.2) fun b5 => .ok (z1.1 ++ z2.1 ++ [(how, 0)], b5)
theorem pp_none {c : Nat → Nat} {e how a : Nat} : ppair none c e how a = .error (3, a) := rfl
theorem pp_some {s : Nat → pC_} {c : Nat → Nat} {e how a : Nat} : ppair (some s) c e how a = pb (psign c e 91 (nt c e a)) fun b1 => pb (s b1) fun z1 => pb (psign c e 44 z1.2) fun b3 => pb (s b3) fun z2 => pb (psign c e 93 z2.2) fun b5 => .ok (z1.1 ++ z2.1 ++ [(how, 0)], b5) := rfl
def ppar (S : Option (Nat → pC_)) (c : Nat → Nat) (e a : Nat) : pC_ := match S with
  | none => .error (3, a)
  | some s => pb (s (nt c e a)) fun z => pb (psign c e 41 z.2) fun b => .ok (z.1, b)
theorem pr_none {c : Nat → Nat} {e a : Nat} : ppar none c e a = .error (3, a) := rfl
theorem pr_some {s : Nat → pC_} {c : Nat → Nat} {e a : Nat} : ppar (some s) c e a = pb (s (nt c e a)) fun z => pb (psign c e 41 z.2) fun b => .ok (z.1, b) := rfl
def pone (S : Option (Nat → pC_)) (c : Nat → Nat) (e a : Nat) : pC_ :=
  if wis c e a [108, 101, 97, 115, 116] = true then ppair S c e 7 a
  else if wis c e a [109, 111, 115, 116] = true then ppair S c e 8 a
  else if kd c e a = 3 ∧ c a = 40 then ppar S c e a
  else if kv c e a = -1 then pb (pnum c e 1000 a) fun z => .ok ([(0, z.1)], z.2)
  else .ok ([(1, (kv c e a).toNatClampNeg)], nt c e a)
def plp (P : Nat → pC_) (op : Nat → Nat) (c : Nat → Nat) (e : Nat) : Nat → List (Nat × Nat) → Nat → pC_
  | 0, L, a => .ok (L, a)
  | f + 1, L, a => if op a = 0 then .ok (L, a) else pb (P (nt c e a)) fun z => plp P op c e f (L ++ z.1 ++ [(op a, 0)]) z.2
theorem plp_0 {P : Nat → pC_} {op : Nat → Nat} {c : Nat → Nat} {e a : Nat} {L : List (Nat × Nat)} (h : op a = 0) : ∀ f, plp P op c e f L a = .ok (L, a)
  | 0 => rfl
  | f + 1 => by rw [plp, if_pos h]
theorem plp_s {P : Nat → pC_} {op : Nat → Nat} {c : Nat → Nat} {e a j f : Nat} {L : List (Nat × Nat)} (h : op a = j) (hj : ¬ j = 0) : plp P op c e (f + 1) L a = pb (P (nt c e a)) fun z => plp P op c e f (L ++ z.1 ++ [(j, 0)]) z.2 := by
  subst h
  rw [plp, if_neg hj]
def osum (c : Nat → Nat) (e a : Nat) : Nat := if kd c e a = 3 ∧ c a = 43 then 2 else if kd c e a = 3 ∧ c a = 45 then 3 else 0
def oprod (c : Nat → Nat) (e a : Nat) : Nat := if kd c e a = 3 ∧ c a = 42 then 4 else if kd c e a = 3 ∧ c a = 47 then 5 else if kd c e a = 3 ∧ c a = 37 then 6 else 0
def pprod (S : Option (Nat → pC_)) (c : Nat → Nat) (e a : Nat) : pC_ := pb (pone S c e a) fun z => plp (pone S c e) (oprod c e) c e e z.1 z.2
def psm (S : Option (Nat → pC_)) (c : Nat → Nat) (e a : Nat) : pC_ := pb (pprod S c e a) fun z => plp (pprod S c e) (osum c e) c e e z.1 z.2
def psum (c : Nat → Nat) (e : Nat) : Nat → Nat → pC_
  | 0 => psm none c e
  | l + 1 => psm (some (psum c e l)) c e
/-! ===== the reference reads the LAW: what it keeps ===== -/
def pL (x : Nat) : Bool := decide (236 ≤ x) && decide (x < 396)
def fE (i : Nat) : Bool := i == 4 || (i == 5 || (i == 6 || (i == 8 || i == 18)))
theorem fE_no {i : Nat} (p : fE i = false) : ¬ i = 4 ∧ ¬ i = 5 ∧ ¬ i = 6 ∧ ¬ i = 8 ∧ ¬ i = 18 := by simpa [fE] using p
def lst (c : Nat → Nat) (e o t : Nat) (L : List (Nat × Nat)) (h0 : hp_) (x : Nat) (h : hp_) : Prop := mst c e x h ∧ h 49 8 = nI o ∧ h 49 18 = nI L.length ∧ t + L.length ≤ x ∧ fr 49 pL fE h0 h ∧ ∀ i z, L[i]? = some z → h (236 + i) 0 = nI z.1 ∧ h (236 + i) 1 = nI z.2
def ler (c : Nat → Nat) (e : Nat) (h0 : hp_) (k p : Nat) (h : hp_) : Prop := h 49 5 = nI k ∧ h 49 6 = nI p ∧ (¬ h 49 5 = 0) ∧ fr 49 pL fE h0 h ∧ h 49 2 = nI e ∧ fedok (h 50) c ∧ ∃ y : Nat, y ≤ e ∧ h 49 4 = nI y
theorem mst_mv {c : Nat → Nat} {e x y : Nat} {h : hp_} {r : Nat → Int32} (m : mst c e x h) (hy : y ≤ e) (r4 : r 4 = nI y) (r5 : r 5 = 0) (r2 : r 2 = h 49 2) : mst c e y (jj_rs h [(49, r)]) := ⟨r2.trans m.1, r4, m.2.2.1, hy, r5⟩
theorem nI_k0 {k : Nat} (h1 : 0 < k) (h2 : k < 4) : ¬ nI k = 0 := by
  have : k = 1 ∨ k = 2 ∨ k = 3 := by omega
  rcases this with rfl | rfl | rfl <;> decide
theorem lst_R {c : Nat → Nat} {e o t : Nat} {L : List (Nat × Nat)} {h0 : hp_} : rdr c e (lst c e o t L h0) (ler c e h0) := by
  refine ⟨fun x h m => m.1, fun x y h r m hxy hy r4 r5 ro => ?_, fun x h r k p m hk hk2 r5 r6 r4 ro => ?_, fun k p h m => ⟨m.2.2.2.2.1, m.2.2.2.2.2.1, m.2.2.2.2.2.2, m.2.2.1⟩, fun k p y h r m hy r4 ro => ?_⟩
  · obtain ⟨m1, m2, m3, m4, m5, m6⟩ := m
    refine ⟨mst_mv m1 hy r4 r5 (ro 2 (by decide) (by decide) (by decide)), (ro 8 (by decide) (by decide) (by decide)).trans m2, (ro 18 (by decide) (by decide) (by decide)).trans m3, by omega, fr_tr m5 (fr_put (fun i p => ro i (fE_no p).1 (fE_no p).2.1 (fE_no p).2.2.1)), fun i z hi => ?_⟩
    rw [rs_ne (by omega)]
    exact m6 i z hi
  · exact ⟨r5, r6, (fun q => nI_k0 hk hk2 (r5.symm.trans q)), fr_tr m.2.2.2.2.1 (fr_put (fun i p => ro i (fE_no p).1 (fE_no p).2.1 (fE_no p).2.2.1)), (ro 2 (by decide) (by decide) (by decide)).trans m.1.1, m.1.2.2.1, r4⟩
  · obtain ⟨m1, m2, m3, m4, m5, m6, m7⟩ := m
    exact ⟨(ro 5 (by decide)).trans m1, (ro 6 (by decide)).trans m2, (fun q => m3 ((ro 5 (by decide)).symm.trans q)), fr_tr m4 (fr_put (fun i p => ro i (fE_no p).1)), (ro 2 (by decide)).trans m5, m6, y, hy, r4⟩
theorem lst_t {c : Nat → Nat} {e o t t2 x : Nat} {L : List (Nat × Nat)} {h0 h : hp_} (m : lst c e o t L h0 x h) (hx : t2 + L.length ≤ x) : lst c e o t2 L h0 x h := ⟨m.1, m.2.1, m.2.2.1, hx, m.2.2.2.2.1, m.2.2.2.2.2⟩
theorem lst_o {c : Nat → Nat} {e o t x : Nat} {L : List (Nat × Nat)} {h0 h : hp_} (m : lst c e (o + 1) t L h0 x h) : lst c e o t L h0 x (jj_rs h [(49, upd (h 49) 8 (nI (o + 1) - 1))]) := by
  obtain ⟨⟨a1, a2, a3, a4, a5⟩, m2, m3, m4, m5, m6⟩ := m
  refine ⟨⟨(jj_une (by decide)).trans a1, (jj_une (by decide)).trans a2, a3, a4, (jj_une (by decide)).trans a5⟩, (jj_ueq rfl).trans nI_lim, (jj_une (by decide)).trans m3, m4, fr_tr m5 (fr_put (fun i p => jj_une (fE_no p).2.2.2.1)), fun i z hi => ?_⟩
  rw [rs_ne (by omega)]
  exact m6 i z hi
theorem ler_o {c : Nat → Nat} {e k p : Nat} {h0 h : hp_} {v : Int32} (m : ler c e h0 k p h) : ler c e h0 k p (jj_rs h [(49, upd (h 49) 8 v)]) := by
  obtain ⟨m1, m2, m3, m4, m5, m6, y, m7, m8⟩ := m
  exact ⟨(jj_une (by decide)).trans m1, (jj_une (by decide)).trans m2, (fun q => m3 ((jj_une (f := h 49) (k := 8) (v := v) (by decide)).symm.trans q)), fr_tr m4 (fr_put (fun i p => jj_une (fE_no p).2.2.2.1)), (jj_une (by decide)).trans m5, m6, y, m7, (jj_une (by decide)).trans m8⟩
section LN
variable {c : Nat → Nat} {e o t x D kc ks : Nat} {L : List (Nat × Nat)} {h0 h : hp_} {g : Nat → Nat → Int64} {Q : jj_Rs → jj_St → Prop}
theorem ll_opens (m : lst c e o t L h0 x h) (ho : o ≤ 6) (hD : 1 ≤ D) (k1 : ¬ o = 6 → ∀ h9, lst c e (o + 1) t L h0 x h9 → Q (.inl (some (.int 1))) (jj_S, 782, h9, g)) (k2 : o = 6 → ∀ h9, ler c e h0 3 x h9 → Q (.inl (some (.int 0))) (jj_S, 782, h9, g)) : jj_R mX10_opensOne D kc ks (jj_S, 782, h, g) 0 [(0, .ref 49)] [] Q := by
  obtain ⟨d, rfl⟩ : ∃ d, D = d + 1 := ⟨D - 1, by omega⟩
  obtain ⟨⟨a1, a2, a3, a4, hf⟩, m2, m3, m4, m5, m6⟩ := m
  refine sp_X10_opensOne ?_
  by_cases q : o = 6
  · have e1 : h 49 8 = 6 := by rw [m2, q]; rfl
    have er : rX10_opensOne_49 (h 49) = upd (upd (h 49) 5 3) 6 (h 49 4) := by unfold rX10_opensOne_49; rw [if_pos hf, if_pos e1, wr_0 hf]
    have ev : vX10_opensOne (h 49) = 0 := by unfold vX10_opensOne; rw [if_pos hf, if_pos e1, wr_0 hf, if_neg (by rw [jj_une (by decide), jj_ueq rfl]; decide)]
    rw [er, ev]
    refine k2 q _ ⟨(jj_une (by decide)).trans (jj_ueq rfl), (jj_ueq rfl).trans a2, (fun z => ?_), fr_tr m5 (fr_put (fun i p => ?_)), (jj_une (by decide)).trans ((jj_une (by decide)).trans a1), a3, x, a4, (jj_une (by decide)).trans ((jj_une (by decide)).trans a2)⟩
    · have : upd (upd (h 49) 5 3) 6 (h 49 4) 5 = 0 := z
      rw [jj_une (by decide), jj_ueq rfl] at this
      exact absurd this (by decide)
    · rw [jj_une (fE_no p).2.2.1, jj_une (fE_no p).2.1]
  · have e1 : ¬ h 49 8 = 6 := by rw [m2]; exact fun z => q ((nI_eq (a := o) (b := 6) (by omega) (by decide)).mp z)
    have er : rX10_opensOne_49 (h 49) = upd (h 49) 8 (nI (o + 1)) := by unfold rX10_opensOne_49; rw [if_pos hf, if_neg e1, m2, nI_1]
    have ev : vX10_opensOne (h 49) = 1 := by unfold vX10_opensOne; rw [if_pos hf, if_neg e1]
    rw [er, ev]
    refine k1 q _ ⟨⟨(jj_une (by decide)).trans a1, (jj_une (by decide)).trans a2, a3, a4, (jj_une (by decide)).trans hf⟩, jj_ueq rfl, (jj_une (by decide)).trans m3, m4, fr_tr m5 (fr_put (fun i p => jj_une (fE_no p).2.2.2.1)), fun i z hi => ?_⟩
    rw [rs_ne (by omega)]
    exact m6 i z hi
theorem ll_notes {a1 a2 : Nat} {v w : Int32} (he : e ≤ 150) (m : lst c e o (t + 1) L h0 x h) (ev : v = nI a1) (ew : w = nI a2) (k : ∀ h9, lst c e o t (L ++ [(a1, a2)]) h0 x h9 → Q (.inl none) (jj_S, 782, h9, g)) : jj_R mX10_notes D kc ks (jj_S, 782, h, g) 0 [(0, .ref 49), (1, .int v), (2, .int w)] [] Q := by
  obtain ⟨⟨b1, b2, b3, b4, hf⟩, m2, m3, m4, m5, m6⟩ := m
  refine sp_X10_notes (d := D) (q := L.length) m3 (by omega) ?_
  have e1 : rX10_notes_49 (h 49) (jj_gd h 236 160) L.length v w = upd (h 49) 18 (nI (L.length + 1)) := by unfold rX10_notes_49; rw [if_pos hf, nI_1]
  have e2 : qX10_notes_236 (h 49) (jj_gd h 236 160) L.length v w = jj_ug (jj_ug (jj_gd h 236 160) L.length 0 v) L.length 1 w := by unfold qX10_notes_236; rw [if_pos hf, nI_clamp (by omega)]
  rw [e1, e2]
  have ra : ∀ i, i < 160 → jj_rs (jj_gs h 236 160 (jj_ug (jj_ug (jj_gd h 236 160) L.length 0 v) L.length 1 w)) [(49, upd (h 49) 18 (nI (L.length + 1)))] (236 + i) = jj_ug (jj_ug (jj_gd h 236 160) L.length 0 v) L.length 1 w i := fun i hi => jj_gs_at rfl hi
  refine k _ ⟨⟨(jj_une (by decide)).trans b1, (jj_une (by decide)).trans b2, b3, b4, (jj_une (by decide)).trans hf⟩, (jj_une (by decide)).trans m2, (jj_ueq rfl).trans (by rw [List.length_append]; rfl), by rw [List.length_append, List.length_singleton]; omega, fr_tr m5 ⟨fun y hy hy2 => ?_, fun i p => jj_une (fE_no p).2.2.2.2⟩, fun i z hi => ?_⟩
  · rw [rs_ne hy2]
    unfold pL at hy
    unfold jj_gs
    rw [if_neg (fun q => by simp [q.1] at hy; omega)]
  · by_cases q : i < L.length
    · rw [List.getElem?_append_left q] at hi
      rw [ra i (by omega)]
      unfold jj_ug
      rw [if_neg (by omega), if_neg (by omega), ← jj_gd_at (by omega)]
      exact m6 i z hi
    · rw [List.getElem?_append_right (by omega)] at hi
      have hq : i - L.length = 0 := by
        rcases Nat.eq_zero_or_pos (i - L.length) with u | u
        · exact u
        · rw [List.getElem?_eq_none (by rw [List.length_singleton]; omega)] at hi; cases hi
      rw [hq] at hi
      have hz : z = (a1, a2) := by simpa using hi.symm
      have hi2 : i = L.length := by omega
      rw [hi2, ra _ (by omega), hz]
      unfold jj_ug
      rw [if_pos rfl, if_pos rfl]
      exact ⟨(jj_une (by decide)).trans ((jj_ueq rfl).trans ev), (jj_ueq rfl).trans ew⟩
end LN
theorem sg_91 : sgn 91 := ⟨by decide, by decide, by decide⟩
theorem sg_93 : sgn 93 := ⟨by decide, by decide, by decide⟩
theorem sg_44 : sgn 44 := ⟨by decide, by decide, by decide⟩
theorem sg_40 : sgn 40 := ⟨by decide, by decide, by decide⟩
theorem sg_41 : sgn 41 := ⟨by decide, by decide, by decide⟩
theorem sg_43 : sgn 43 := ⟨by decide, by decide, by decide⟩
theorem sg_45 : sgn 45 := ⟨by decide, by decide, by decide⟩
theorem sg_42 : sgn 42 := ⟨by decide, by decide, by decide⟩
theorem sg_47 : sgn 47 := ⟨by decide, by decide, by decide⟩
theorem sg_37 : sgn 37 := ⟨by decide, by decide, by decide⟩
theorem sg_59 : sgn 59 := ⟨by decide, by decide, by decide⟩
theorem kv_n {c : Nat → Nat} {e a : Nat} (h : ¬ kv c e a = -1) : kv c e a = nI (kv c e a).toNatClampNeg ∧ (kv c e a).toNatClampNeg < 8 := by
  unfold kv at h ⊢
  repeat' split
  all_goals first | exact ⟨rfl, by decide⟩ | (exfalso; simp_all)
theorem jj_fl {M : jj_Mt} {d kc ks pc : Nat} {h1 : hp_} {g : Nat → Nat → Int64} {ls : List (Nat × Value)} {st : List Value} {Q : jj_Rs → jj_St → Prop} (k : ∀ h2, h2 = h1 → jj_R M d kc ks (jj_S, 782, h2, g) pc ls st Q) : jj_R M d kc ks (jj_S, 782, h1, g) pc ls st Q := k _ rfl
/-- what a reading method of the reference owes -/
def rspec (M : jj_Mt) (B : Nat) (par : Nat → pC_) (c : Nat → Nat) (e o : Nat) : Prop := ∀ ⦃D kc ks x t : Nat⦄ ⦃L0 : List (Nat × Nat)⦄ ⦃h0 h : hp_⦄ ⦃g : Nat → Nat → Int64⦄ ⦃Q : jj_Rs → jj_St → Prop⦄, B ≤ D → lst c e o t L0 h0 x h →
  (∀ L b y h9, par (spn isB c e x) = .ok (L, b) → x < y → spn isB c e y = b → lst c e o t (L0 ++ L) h0 y h9 → Q (.inl none) (jj_S, 782, h9, g)) →
  (∀ k p h9, par (spn isB c e x) = .error (k, p) → ler c e h0 k p h9 → Q (.inl none) (jj_S, 782, h9, g)) → jj_R M D kc ks (jj_S, 782, h, g) 0 [(0, .ref 49)] [] Q
set_option maxHeartbeats 2000000 in
theorem rs_one {c : Nat → Nat} {e o B : Nat} {S : Option (Nat → pC_)} (he : e ≤ 150) (ho : o ≤ 6) (hN : S = none ↔ o = 6) (hB : 5 ≤ B) (hS : ∀ s, S = some s → rspec mX10_sum B s c e (o + 1)) : rspec mX10_one (B + 1) (pone S c e) c e o := by
  intro D kc ks x t L0 h0 h g Q hD m k1 k2
  obtain ⟨d, rfl⟩ : ∃ d, D = d + 6 := ⟨D - 6, by omega⟩
  have he6 : e ≤ 600 := by omega
  have hl0 := m.2.2.2.1
  refine rr_aload_n 0 rfl rfl dX10_one_0 ?_
  refine rr_getI dX10_one_1 fX10_111 lo_49 sh_49 rfl ?_
  rw [show (h 49) 5 = 0 from m.1.2.2.2.2]
  refine rr_if_eq dX10_one_4 (fun _ => ?_) (fun c => absurd (by decide) c)
  refine rr_aload_n 0 rfl rfl dX10_one_8 ?_
  refine rr_callV (As := []) (rest := []) (kc2 := 0) (ks2 := 0) dX10_one_9 okX10_blanks lX10_117 lo_49 sh_49 rfl rfl (Nat.le_of_ble_eq_true rfl) (Nat.le_of_ble_eq_true rfl) rfl (by omega) (by simp [jj_rk]) (by simp [jj_rk]) ?_
  refine ll_blanks lst_R he6 m (by omega) (fun h m => ?_)
  obtain ⟨a, ea⟩ : ∃ a, a = spn isB c e x := ⟨_, rfl⟩
  rw [← ea] at m k1 k2
  have hb : spn isB c e a = a := by rw [ea, spn_idem]
  have hxa : x ≤ a := by rw [ea]; exact spn_ge
  show jj_R _ _ kc ks (jj_S, 782, h, g) 12 [(0, .ref 49)] [] Q
  refine rr_aload_n 0 rfl rfl dX10_one_12 ?_
  refine rr_bipush 12 rfl dX10_one_13 ?_
  refine rr_iconst 5 rfl dX10_one_15 ?_
  refine rr_iconst 1 rfl dX10_one_16 ?_
  refine rr_bipush 19 rfl dX10_one_17 ?_
  refine rr_bipush 20 rfl dX10_one_19 ?_
  refine rr_iconst 0 rfl dX10_one_21 ?_
  refine rr_callV (As := [.int 12, .int 5, .int 1, .int 19, .int 20, .int 0]) (rest := []) (kc2 := 0) (ks2 := 0) dX10_one_22 okX10_isWord lX10_147 lo_49 sh_49 rfl rfl (Nat.le_of_ble_eq_true rfl) (Nat.le_of_ble_eq_true rfl) rfl (by omega) (by simp [jj_rk]) (by simp [jj_rk]) ?_
  refine ll_isw wk_least lst_R he6 m hb (by omega) (fun w1 h m => ?_) (fun w1 h m => ?_)
  · skip
    have hk := wis_2 w1
    have hp : pone S c e a = ppair S c e 7 a := by unfold pone; rw [if_pos w1]
    rw [hp] at k1 k2
    show jj_R _ _ kc ks (jj_S, 782, h, g) 25 [(0, .ref 49)] [.int 1] Q
    refine rr_if_eq dX10_one_25 (fun c => absurd c (by decide)) (fun _ => ?_)
    refine rr_bipush 7 rfl dX10_one_28 ?_
    refine rr_goto dX10_one_30 ?_
    refine rr_istore_n [(0, .ref 49), (1, .int 7)] dX10_one_56 rfl (by decide) rfl ?_
    refine rr_iload_n 1 rfl rfl dX10_one_57 ?_
    refine rr_iconst (-1) rfl dX10_one_58 ?_
    refine rr_icmp_eq dX10_one_59 (fun c => absurd c (by decide)) (fun _ => ?_)
    refine rr_aload_n 0 rfl rfl dX10_one_62 ?_
    refine rr_callV (As := []) (rest := []) (kc2 := 0) (ks2 := 0) dX10_one_63 okX10_opensOne lX10_225 lo_49 sh_49 rfl rfl (Nat.le_of_ble_eq_true rfl) (Nat.le_of_ble_eq_true rfl) rfl (by omega) (by simp [jj_rk]) (by simp [jj_rk]) ?_
    refine ll_opens m ho (by omega) (fun o6 h m => ?_) (fun o6 h m => ?_)
    · skip
      obtain ⟨s, rfl⟩ : ∃ s, S = some s := by
        cases S with
        | none => exact absurd (hN.mp rfl) o6
        | some s => exact ⟨s, rfl⟩
      have hs := hS s rfl
      rw [pp_some] at k1 k2
      show jj_R _ _ kc ks (jj_S, 782, h, g) 66 [(0, .ref 49), (1, .int 7)] [.int 1] Q
      refine rr_if_ne dX10_one_66 (fun _ => ?_) (fun c => absurd c (by decide))
      refine rr_aload_n 0 rfl rfl dX10_one_70 ?_
      refine rr_callV (As := []) (rest := []) (kc2 := 0) (ks2 := 0) dX10_one_71 okX10_skipWord lX10_144 lo_49 sh_49 rfl rfl (Nat.le_of_ble_eq_true rfl) (Nat.le_of_ble_eq_true rfl) rfl (by omega) (by simp [jj_rk]) (by simp [jj_rk]) ?_
      refine ll_skip lst_R he6 m hk (by omega) (fun y0 h hy0 _ sy0 m => ?_)
      replace m := lst_t (t2 := t + 1) m (by omega)
      show jj_R _ _ kc ks (jj_S, 782, h, g) 74 [(0, .ref 49), (1, .int 7)] [] Q
      refine rr_aload_n 0 rfl rfl dX10_one_74 ?_
      refine rr_bipush 91 rfl dX10_one_75 ?_
      refine rr_callV (As := [.int 91]) (rest := []) (kc2 := 0) (ks2 := 0) dX10_one_77 okX10_sign lX10_167 lo_49 sh_49 rfl rfl (Nat.le_of_ble_eq_true rfl) (Nat.le_of_ble_eq_true rfl) rfl (by omega) (by simp [jj_rk]) (by simp [jj_rk]) ?_
      skip
      refine ll_sign (X := 91) lst_R he6 sg_91 m (by omega) (fun b1 y1 h e1 hy1 sy1 m => ?_) (fun k p h e1 m => ?_)
      · skip
        rw [sy0] at e1
        rw [pb_ok e1] at k1 k2
        show jj_R _ _ kc ks (jj_S, 782, h, g) 80 [(0, .ref 49), (1, .int 7)] [] Q
        refine rr_aload_n 0 rfl rfl dX10_one_80 ?_
        refine rr_callV (As := []) (rest := []) (kc2 := 0) (ks2 := 0) dX10_one_81 okX10_sum lX10_229 lo_49 sh_49 rfl rfl (Nat.le_of_ble_eq_true rfl) (Nat.le_of_ble_eq_true rfl) rfl (by omega) (by simp [jj_rk]) (by simp [jj_rk]) ?_
        refine hs (by omega) m (fun L1 b2 y2 h e1 hy2 sy2 m => ?_) (fun k p h e1 m => ?_)
        · skip
          rw [sy1] at e1
          rw [pb_ok e1] at k1 k2
          show jj_R _ _ kc ks (jj_S, 782, h, g) 84 [(0, .ref 49), (1, .int 7)] [] Q
          refine rr_aload_n 0 rfl rfl dX10_one_84 ?_
          refine rr_bipush 44 rfl dX10_one_85 ?_
          refine rr_callV (As := [.int 44]) (rest := []) (kc2 := 0) (ks2 := 0) dX10_one_87 okX10_sign lX10_167 lo_49 sh_49 rfl rfl (Nat.le_of_ble_eq_true rfl) (Nat.le_of_ble_eq_true rfl) rfl (by omega) (by simp [jj_rk]) (by simp [jj_rk]) ?_
          skip
          refine ll_sign (X := 44) lst_R he6 sg_44 m (by omega) (fun b3 y3 h e1 hy3 sy3 m => ?_) (fun k p h e1 m => ?_)
          · skip
            rw [sy2] at e1
            rw [pb_ok e1] at k1 k2
            show jj_R _ _ kc ks (jj_S, 782, h, g) 90 [(0, .ref 49), (1, .int 7)] [] Q
            refine rr_aload_n 0 rfl rfl dX10_one_90 ?_
            refine rr_callV (As := []) (rest := []) (kc2 := 0) (ks2 := 0) dX10_one_91 okX10_sum lX10_229 lo_49 sh_49 rfl rfl (Nat.le_of_ble_eq_true rfl) (Nat.le_of_ble_eq_true rfl) rfl (by omega) (by simp [jj_rk]) (by simp [jj_rk]) ?_
            refine hs (by omega) m (fun L2 b4 y4 h e1 hy4 sy4 m => ?_) (fun k p h e1 m => ?_)
            · skip
              rw [sy3] at e1
              rw [pb_ok e1] at k1 k2
              show jj_R _ _ kc ks (jj_S, 782, h, g) 94 [(0, .ref 49), (1, .int 7)] [] Q
              refine rr_aload_n 0 rfl rfl dX10_one_94 ?_
              refine rr_bipush 93 rfl dX10_one_95 ?_
              refine rr_callV (As := [.int 93]) (rest := []) (kc2 := 0) (ks2 := 0) dX10_one_97 okX10_sign lX10_167 lo_49 sh_49 rfl rfl (Nat.le_of_ble_eq_true rfl) (Nat.le_of_ble_eq_true rfl) rfl (by omega) (by simp [jj_rk]) (by simp [jj_rk]) ?_
              skip
              refine ll_sign (X := 93) lst_R he6 sg_93 m (by omega) (fun b5 y5 h e1 hy5 sy5 m => ?_) (fun k p h e1 m => ?_)
              · skip
                rw [sy4] at e1
                rw [pb_ok e1] at k1 k2
                show jj_R _ _ kc ks (jj_S, 782, h, g) 100 [(0, .ref 49), (1, .int 7)] [] Q
                refine rr_aload_n 0 rfl rfl dX10_one_100 ?_
                refine rr_iload_n 1 rfl rfl dX10_one_101 ?_
                refine rr_iconst 0 rfl dX10_one_102 ?_
                refine rr_callV (As := [.int 7, .int 0]) (rest := []) (kc2 := 0) (ks2 := 0) dX10_one_103 okX10_notes lX10_212 lo_49 sh_49 rfl rfl (Nat.le_of_ble_eq_true rfl) (Nat.le_of_ble_eq_true rfl) rfl (by omega) (by simp [jj_rk]) (by simp [jj_rk]) ?_
                refine ll_notes (a1 := 7) (a2 := 0) he m rfl rfl (fun h m => ?_)
                show jj_R _ _ kc ks (jj_S, 782, h, g) 106 [(0, .ref 49), (1, .int 7)] [] Q
                refine rr_aload_n 0 rfl rfl dX10_one_106 ?_
                refine rr_dup rfl dX10_one_107 ?_
                refine rr_getI dX10_one_108 fX10_154 lo_49 sh_49 rfl ?_
                rw [show (h 49) 8 = (nI (o + 1)) from m.2.1]
                refine rr_iconst 1 rfl dX10_one_111 ?_
                refine rr_isub dX10_one_112 ?_
                refine rr_putI dX10_one_113 fX10_154 ni10_8 lo_49 sh_49 rfl ?_
                rw [jj_rs_set0 (B := h) (o := 49) (r := (h 49)) rfl]
                refine rr_return dX10_one_116 rfl ?_
                refine k1 _ b5 y5 _ rfl (by omega) sy5 ?_
                have m9 := lst_o m
                simpa only [List.append_assoc] using m9
              · skip
                rw [sy4] at e1
                rw [pb_er e1] at k2
                show jj_R _ _ kc ks (jj_S, 782, h, g) 100 [(0, .ref 49), (1, .int 7)] [] Q
                refine rr_aload_n 0 rfl rfl dX10_one_100 ?_
                refine rr_iload_n 1 rfl rfl dX10_one_101 ?_
                refine rr_iconst 0 rfl dX10_one_102 ?_
                refine rr_callV (As := [.int 7, .int 0]) (rest := []) (kc2 := 0) (ks2 := 0) dX10_one_103 okX10_notes lX10_212 lo_49 sh_49 rfl rfl (Nat.le_of_ble_eq_true rfl) (Nat.le_of_ble_eq_true rfl) rfl (by omega) (by simp [jj_rk]) (by simp [jj_rk]) ?_
                refine nf_notes (by omega) m.2.2.1 ?_
                show jj_R _ _ kc ks (jj_S, 782, h, g) 106 [(0, .ref 49), (1, .int 7)] [] Q
                refine rr_aload_n 0 rfl rfl dX10_one_106 ?_
                refine rr_dup rfl dX10_one_107 ?_
                refine rr_getI dX10_one_108 fX10_154 lo_49 sh_49 rfl ?_
                refine rr_iconst 1 rfl dX10_one_111 ?_
                refine rr_isub dX10_one_112 ?_
                refine rr_putI dX10_one_113 fX10_154 ni10_8 lo_49 sh_49 rfl ?_
                rw [jj_rs_set0 (B := h) (o := 49) (r := (h 49)) rfl]
                refine rr_return dX10_one_116 rfl ?_
                exact k2 k p _ rfl (ler_o m)
            · skip
              rw [sy3] at e1
              rw [pb_er e1] at k2
              show jj_R _ _ kc ks (jj_S, 782, h, g) 94 [(0, .ref 49), (1, .int 7)] [] Q
              refine rr_aload_n 0 rfl rfl dX10_one_94 ?_
              refine rr_bipush 93 rfl dX10_one_95 ?_
              refine rr_callV (As := [.int 93]) (rest := []) (kc2 := 0) (ks2 := 0) dX10_one_97 okX10_sign lX10_167 lo_49 sh_49 rfl rfl (Nat.le_of_ble_eq_true rfl) (Nat.le_of_ble_eq_true rfl) rfl (by omega) (by simp [jj_rk]) (by simp [jj_rk]) ?_
              refine nf_sign (by omega) m.2.2.1 ?_
              show jj_R _ _ kc ks (jj_S, 782, h, g) 100 [(0, .ref 49), (1, .int 7)] [] Q
              refine rr_aload_n 0 rfl rfl dX10_one_100 ?_
              refine rr_iload_n 1 rfl rfl dX10_one_101 ?_
              refine rr_iconst 0 rfl dX10_one_102 ?_
              refine rr_callV (As := [.int 7, .int 0]) (rest := []) (kc2 := 0) (ks2 := 0) dX10_one_103 okX10_notes lX10_212 lo_49 sh_49 rfl rfl (Nat.le_of_ble_eq_true rfl) (Nat.le_of_ble_eq_true rfl) rfl (by omega) (by simp [jj_rk]) (by simp [jj_rk]) ?_
              refine nf_notes (by omega) m.2.2.1 ?_
              show jj_R _ _ kc ks (jj_S, 782, h, g) 106 [(0, .ref 49), (1, .int 7)] [] Q
              refine rr_aload_n 0 rfl rfl dX10_one_106 ?_
              refine rr_dup rfl dX10_one_107 ?_
              refine rr_getI dX10_one_108 fX10_154 lo_49 sh_49 rfl ?_
              refine rr_iconst 1 rfl dX10_one_111 ?_
              refine rr_isub dX10_one_112 ?_
              refine rr_putI dX10_one_113 fX10_154 ni10_8 lo_49 sh_49 rfl ?_
              rw [jj_rs_set0 (B := h) (o := 49) (r := (h 49)) rfl]
              refine rr_return dX10_one_116 rfl ?_
              exact k2 k p _ rfl (ler_o m)
          · skip
            rw [sy2] at e1
            rw [pb_er e1] at k2
            show jj_R _ _ kc ks (jj_S, 782, h, g) 90 [(0, .ref 49), (1, .int 7)] [] Q
            refine rr_aload_n 0 rfl rfl dX10_one_90 ?_
            refine rr_callV (As := []) (rest := []) (kc2 := 0) (ks2 := 0) dX10_one_91 okX10_sum lX10_229 lo_49 sh_49 rfl rfl (Nat.le_of_ble_eq_true rfl) (Nat.le_of_ble_eq_true rfl) rfl (by omega) (by simp [jj_rk]) (by simp [jj_rk]) ?_
            refine nf_sum (by omega) m.2.2.1 ?_
            show jj_R _ _ kc ks (jj_S, 782, h, g) 94 [(0, .ref 49), (1, .int 7)] [] Q
            refine rr_aload_n 0 rfl rfl dX10_one_94 ?_
            refine rr_bipush 93 rfl dX10_one_95 ?_
            refine rr_callV (As := [.int 93]) (rest := []) (kc2 := 0) (ks2 := 0) dX10_one_97 okX10_sign lX10_167 lo_49 sh_49 rfl rfl (Nat.le_of_ble_eq_true rfl) (Nat.le_of_ble_eq_true rfl) rfl (by omega) (by simp [jj_rk]) (by simp [jj_rk]) ?_
            refine nf_sign (by omega) m.2.2.1 ?_
            show jj_R _ _ kc ks (jj_S, 782, h, g) 100 [(0, .ref 49), (1, .int 7)] [] Q
            refine rr_aload_n 0 rfl rfl dX10_one_100 ?_
            refine rr_iload_n 1 rfl rfl dX10_one_101 ?_
            refine rr_iconst 0 rfl dX10_one_102 ?_
            refine rr_callV (As := [.int 7, .int 0]) (rest := []) (kc2 := 0) (ks2 := 0) dX10_one_103 okX10_notes lX10_212 lo_49 sh_49 rfl rfl (Nat.le_of_ble_eq_true rfl) (Nat.le_of_ble_eq_true rfl) rfl (by omega) (by simp [jj_rk]) (by simp [jj_rk]) ?_
            refine nf_notes (by omega) m.2.2.1 ?_
            show jj_R _ _ kc ks (jj_S, 782, h, g) 106 [(0, .ref 49), (1, .int 7)] [] Q
            refine rr_aload_n 0 rfl rfl dX10_one_106 ?_
            refine rr_dup rfl dX10_one_107 ?_
            refine rr_getI dX10_one_108 fX10_154 lo_49 sh_49 rfl ?_
            refine rr_iconst 1 rfl dX10_one_111 ?_
            refine rr_isub dX10_one_112 ?_
            refine rr_putI dX10_one_113 fX10_154 ni10_8 lo_49 sh_49 rfl ?_
            rw [jj_rs_set0 (B := h) (o := 49) (r := (h 49)) rfl]
            refine rr_return dX10_one_116 rfl ?_
            exact k2 k p _ rfl (ler_o m)
        · skip
          rw [sy1] at e1
          rw [pb_er e1] at k2
          show jj_R _ _ kc ks (jj_S, 782, h, g) 84 [(0, .ref 49), (1, .int 7)] [] Q
          refine rr_aload_n 0 rfl rfl dX10_one_84 ?_
          refine rr_bipush 44 rfl dX10_one_85 ?_
          refine rr_callV (As := [.int 44]) (rest := []) (kc2 := 0) (ks2 := 0) dX10_one_87 okX10_sign lX10_167 lo_49 sh_49 rfl rfl (Nat.le_of_ble_eq_true rfl) (Nat.le_of_ble_eq_true rfl) rfl (by omega) (by simp [jj_rk]) (by simp [jj_rk]) ?_
          refine nf_sign (by omega) m.2.2.1 ?_
          show jj_R _ _ kc ks (jj_S, 782, h, g) 90 [(0, .ref 49), (1, .int 7)] [] Q
          refine rr_aload_n 0 rfl rfl dX10_one_90 ?_
          refine rr_callV (As := []) (rest := []) (kc2 := 0) (ks2 := 0) dX10_one_91 okX10_sum lX10_229 lo_49 sh_49 rfl rfl (Nat.le_of_ble_eq_true rfl) (Nat.le_of_ble_eq_true rfl) rfl (by omega) (by simp [jj_rk]) (by simp [jj_rk]) ?_
          refine nf_sum (by omega) m.2.2.1 ?_
          show jj_R _ _ kc ks (jj_S, 782, h, g) 94 [(0, .ref 49), (1, .int 7)] [] Q
          refine rr_aload_n 0 rfl rfl dX10_one_94 ?_
          refine rr_bipush 93 rfl dX10_one_95 ?_
          refine rr_callV (As := [.int 93]) (rest := []) (kc2 := 0) (ks2 := 0) dX10_one_97 okX10_sign lX10_167 lo_49 sh_49 rfl rfl (Nat.le_of_ble_eq_true rfl) (Nat.le_of_ble_eq_true rfl) rfl (by omega) (by simp [jj_rk]) (by simp [jj_rk]) ?_
          refine nf_sign (by omega) m.2.2.1 ?_
          show jj_R _ _ kc ks (jj_S, 782, h, g) 100 [(0, .ref 49), (1, .int 7)] [] Q
          refine rr_aload_n 0 rfl rfl dX10_one_100 ?_
          refine rr_iload_n 1 rfl rfl dX10_one_101 ?_
          refine rr_iconst 0 rfl dX10_one_102 ?_
          refine rr_callV (As := [.int 7, .int 0]) (rest := []) (kc2 := 0) (ks2 := 0) dX10_one_103 okX10_notes lX10_212 lo_49 sh_49 rfl rfl (Nat.le_of_ble_eq_true rfl) (Nat.le_of_ble_eq_true rfl) rfl (by omega) (by simp [jj_rk]) (by simp [jj_rk]) ?_
          refine nf_notes (by omega) m.2.2.1 ?_
          show jj_R _ _ kc ks (jj_S, 782, h, g) 106 [(0, .ref 49), (1, .int 7)] [] Q
          refine rr_aload_n 0 rfl rfl dX10_one_106 ?_
          refine rr_dup rfl dX10_one_107 ?_
          refine rr_getI dX10_one_108 fX10_154 lo_49 sh_49 rfl ?_
          refine rr_iconst 1 rfl dX10_one_111 ?_
          refine rr_isub dX10_one_112 ?_
          refine rr_putI dX10_one_113 fX10_154 ni10_8 lo_49 sh_49 rfl ?_
          rw [jj_rs_set0 (B := h) (o := 49) (r := (h 49)) rfl]
          refine rr_return dX10_one_116 rfl ?_
          exact k2 k p _ rfl (ler_o m)
      · skip
        rw [sy0] at e1
        rw [pb_er e1] at k2
        show jj_R _ _ kc ks (jj_S, 782, h, g) 80 [(0, .ref 49), (1, .int 7)] [] Q
        refine rr_aload_n 0 rfl rfl dX10_one_80 ?_
        refine rr_callV (As := []) (rest := []) (kc2 := 0) (ks2 := 0) dX10_one_81 okX10_sum lX10_229 lo_49 sh_49 rfl rfl (Nat.le_of_ble_eq_true rfl) (Nat.le_of_ble_eq_true rfl) rfl (by omega) (by simp [jj_rk]) (by simp [jj_rk]) ?_
        refine nf_sum (by omega) m.2.2.1 ?_
        show jj_R _ _ kc ks (jj_S, 782, h, g) 84 [(0, .ref 49), (1, .int 7)] [] Q
        refine rr_aload_n 0 rfl rfl dX10_one_84 ?_
        refine rr_bipush 44 rfl dX10_one_85 ?_
        refine rr_callV (As := [.int 44]) (rest := []) (kc2 := 0) (ks2 := 0) dX10_one_87 okX10_sign lX10_167 lo_49 sh_49 rfl rfl (Nat.le_of_ble_eq_true rfl) (Nat.le_of_ble_eq_true rfl) rfl (by omega) (by simp [jj_rk]) (by simp [jj_rk]) ?_
        refine nf_sign (by omega) m.2.2.1 ?_
        show jj_R _ _ kc ks (jj_S, 782, h, g) 90 [(0, .ref 49), (1, .int 7)] [] Q
        refine rr_aload_n 0 rfl rfl dX10_one_90 ?_
        refine rr_callV (As := []) (rest := []) (kc2 := 0) (ks2 := 0) dX10_one_91 okX10_sum lX10_229 lo_49 sh_49 rfl rfl (Nat.le_of_ble_eq_true rfl) (Nat.le_of_ble_eq_true rfl) rfl (by omega) (by simp [jj_rk]) (by simp [jj_rk]) ?_
        refine nf_sum (by omega) m.2.2.1 ?_
        show jj_R _ _ kc ks (jj_S, 782, h, g) 94 [(0, .ref 49), (1, .int 7)] [] Q
        refine rr_aload_n 0 rfl rfl dX10_one_94 ?_
        refine rr_bipush 93 rfl dX10_one_95 ?_
        refine rr_callV (As := [.int 93]) (rest := []) (kc2 := 0) (ks2 := 0) dX10_one_97 okX10_sign lX10_167 lo_49 sh_49 rfl rfl (Nat.le_of_ble_eq_true rfl) (Nat.le_of_ble_eq_true rfl) rfl (by omega) (by simp [jj_rk]) (by simp [jj_rk]) ?_
        refine nf_sign (by omega) m.2.2.1 ?_
        show jj_R _ _ kc ks (jj_S, 782, h, g) 100 [(0, .ref 49), (1, .int 7)] [] Q
        refine rr_aload_n 0 rfl rfl dX10_one_100 ?_
        refine rr_iload_n 1 rfl rfl dX10_one_101 ?_
        refine rr_iconst 0 rfl dX10_one_102 ?_
        refine rr_callV (As := [.int 7, .int 0]) (rest := []) (kc2 := 0) (ks2 := 0) dX10_one_103 okX10_notes lX10_212 lo_49 sh_49 rfl rfl (Nat.le_of_ble_eq_true rfl) (Nat.le_of_ble_eq_true rfl) rfl (by omega) (by simp [jj_rk]) (by simp [jj_rk]) ?_
        refine nf_notes (by omega) m.2.2.1 ?_
        show jj_R _ _ kc ks (jj_S, 782, h, g) 106 [(0, .ref 49), (1, .int 7)] [] Q
        refine rr_aload_n 0 rfl rfl dX10_one_106 ?_
        refine rr_dup rfl dX10_one_107 ?_
        refine rr_getI dX10_one_108 fX10_154 lo_49 sh_49 rfl ?_
        refine rr_iconst 1 rfl dX10_one_111 ?_
        refine rr_isub dX10_one_112 ?_
        refine rr_putI dX10_one_113 fX10_154 ni10_8 lo_49 sh_49 rfl ?_
        rw [jj_rs_set0 (B := h) (o := 49) (r := (h 49)) rfl]
        refine rr_return dX10_one_116 rfl ?_
        exact k2 k p _ rfl (ler_o m)
    · skip
      show jj_R _ _ kc ks (jj_S, 782, h, g) 66 [(0, .ref 49), (1, .int 7)] [.int 0] Q
      refine rr_if_ne dX10_one_66 (fun c => absurd c (by decide)) (fun _ => ?_)
      refine rr_return dX10_one_69 rfl ?_
      have eS := hN.mpr o6
      subst eS
      exact k2 3 a h rfl m
  · skip
    show jj_R _ _ kc ks (jj_S, 782, h, g) 25 [(0, .ref 49)] [.int 0] Q
    refine rr_if_eq dX10_one_25 (fun _ => ?_) (fun c => absurd (by decide) c)
    refine rr_aload_n 0 rfl rfl dX10_one_33 ?_
    refine rr_bipush 13 rfl dX10_one_34 ?_
    refine rr_bipush 15 rfl dX10_one_36 ?_
    refine rr_bipush 19 rfl dX10_one_38 ?_
    refine rr_bipush 20 rfl dX10_one_40 ?_
    refine rr_iconst 0 rfl dX10_one_42 ?_
    refine rr_iconst 0 rfl dX10_one_43 ?_
    refine rr_callV (As := [.int 13, .int 15, .int 19, .int 20, .int 0, .int 0]) (rest := []) (kc2 := 0) (ks2 := 0) dX10_one_44 okX10_isWord lX10_147 lo_49 sh_49 rfl rfl (Nat.le_of_ble_eq_true rfl) (Nat.le_of_ble_eq_true rfl) rfl (by omega) (by simp [jj_rk]) (by simp [jj_rk]) ?_
    refine ll_isw wk_most lst_R he6 m hb (by omega) (fun w2 h m => ?_) (fun w2 h m => ?_)
    · skip
      have hk := wis_2 w2
      have hp : pone S c e a = ppair S c e 8 a := by unfold pone; rw [if_neg w1, if_pos w2]
      rw [hp] at k1 k2
      show jj_R _ _ kc ks (jj_S, 782, h, g) 47 [(0, .ref 49)] [.int 1] Q
      refine rr_if_eq dX10_one_47 (fun c => absurd c (by decide)) (fun _ => ?_)
      refine rr_bipush 8 rfl dX10_one_50 ?_
      refine rr_goto dX10_one_52 ?_
      refine rr_istore_n [(0, .ref 49), (1, .int 8)] dX10_one_56 rfl (by decide) rfl ?_
      refine rr_iload_n 1 rfl rfl dX10_one_57 ?_
      refine rr_iconst (-1) rfl dX10_one_58 ?_
      refine rr_icmp_eq dX10_one_59 (fun c => absurd c (by decide)) (fun _ => ?_)
      refine rr_aload_n 0 rfl rfl dX10_one_62 ?_
      refine rr_callV (As := []) (rest := []) (kc2 := 0) (ks2 := 0) dX10_one_63 okX10_opensOne lX10_225 lo_49 sh_49 rfl rfl (Nat.le_of_ble_eq_true rfl) (Nat.le_of_ble_eq_true rfl) rfl (by omega) (by simp [jj_rk]) (by simp [jj_rk]) ?_
      refine ll_opens m ho (by omega) (fun o6 h m => ?_) (fun o6 h m => ?_)
      · skip
        obtain ⟨s, rfl⟩ : ∃ s, S = some s := by
          cases S with
          | none => exact absurd (hN.mp rfl) o6
          | some s => exact ⟨s, rfl⟩
        have hs := hS s rfl
        rw [pp_some] at k1 k2
        show jj_R _ _ kc ks (jj_S, 782, h, g) 66 [(0, .ref 49), (1, .int 8)] [.int 1] Q
        refine rr_if_ne dX10_one_66 (fun _ => ?_) (fun c => absurd c (by decide))
        refine rr_aload_n 0 rfl rfl dX10_one_70 ?_
        refine rr_callV (As := []) (rest := []) (kc2 := 0) (ks2 := 0) dX10_one_71 okX10_skipWord lX10_144 lo_49 sh_49 rfl rfl (Nat.le_of_ble_eq_true rfl) (Nat.le_of_ble_eq_true rfl) rfl (by omega) (by simp [jj_rk]) (by simp [jj_rk]) ?_
        refine ll_skip lst_R he6 m hk (by omega) (fun y0 h hy0 _ sy0 m => ?_)
        replace m := lst_t (t2 := t + 1) m (by omega)
        show jj_R _ _ kc ks (jj_S, 782, h, g) 74 [(0, .ref 49), (1, .int 8)] [] Q
        refine rr_aload_n 0 rfl rfl dX10_one_74 ?_
        refine rr_bipush 91 rfl dX10_one_75 ?_
        refine rr_callV (As := [.int 91]) (rest := []) (kc2 := 0) (ks2 := 0) dX10_one_77 okX10_sign lX10_167 lo_49 sh_49 rfl rfl (Nat.le_of_ble_eq_true rfl) (Nat.le_of_ble_eq_true rfl) rfl (by omega) (by simp [jj_rk]) (by simp [jj_rk]) ?_
        skip
        refine ll_sign (X := 91) lst_R he6 sg_91 m (by omega) (fun b1 y1 h e1 hy1 sy1 m => ?_) (fun k p h e1 m => ?_)
        · skip
          rw [sy0] at e1
          rw [pb_ok e1] at k1 k2
          show jj_R _ _ kc ks (jj_S, 782, h, g) 80 [(0, .ref 49), (1, .int 8)] [] Q
          refine rr_aload_n 0 rfl rfl dX10_one_80 ?_
          refine rr_callV (As := []) (rest := []) (kc2 := 0) (ks2 := 0) dX10_one_81 okX10_sum lX10_229 lo_49 sh_49 rfl rfl (Nat.le_of_ble_eq_true rfl) (Nat.le_of_ble_eq_true rfl) rfl (by omega) (by simp [jj_rk]) (by simp [jj_rk]) ?_
          refine hs (by omega) m (fun L1 b2 y2 h e1 hy2 sy2 m => ?_) (fun k p h e1 m => ?_)
          · skip
            rw [sy1] at e1
            rw [pb_ok e1] at k1 k2
            show jj_R _ _ kc ks (jj_S, 782, h, g) 84 [(0, .ref 49), (1, .int 8)] [] Q
            refine rr_aload_n 0 rfl rfl dX10_one_84 ?_
            refine rr_bipush 44 rfl dX10_one_85 ?_
            refine rr_callV (As := [.int 44]) (rest := []) (kc2 := 0) (ks2 := 0) dX10_one_87 okX10_sign lX10_167 lo_49 sh_49 rfl rfl (Nat.le_of_ble_eq_true rfl) (Nat.le_of_ble_eq_true rfl) rfl (by omega) (by simp [jj_rk]) (by simp [jj_rk]) ?_
            skip
            refine ll_sign (X := 44) lst_R he6 sg_44 m (by omega) (fun b3 y3 h e1 hy3 sy3 m => ?_) (fun k p h e1 m => ?_)
            · skip
              rw [sy2] at e1
              rw [pb_ok e1] at k1 k2
              show jj_R _ _ kc ks (jj_S, 782, h, g) 90 [(0, .ref 49), (1, .int 8)] [] Q
              refine rr_aload_n 0 rfl rfl dX10_one_90 ?_
              refine rr_callV (As := []) (rest := []) (kc2 := 0) (ks2 := 0) dX10_one_91 okX10_sum lX10_229 lo_49 sh_49 rfl rfl (Nat.le_of_ble_eq_true rfl) (Nat.le_of_ble_eq_true rfl) rfl (by omega) (by simp [jj_rk]) (by simp [jj_rk]) ?_
              refine hs (by omega) m (fun L2 b4 y4 h e1 hy4 sy4 m => ?_) (fun k p h e1 m => ?_)
              · skip
                rw [sy3] at e1
                rw [pb_ok e1] at k1 k2
                show jj_R _ _ kc ks (jj_S, 782, h, g) 94 [(0, .ref 49), (1, .int 8)] [] Q
                refine rr_aload_n 0 rfl rfl dX10_one_94 ?_
                refine rr_bipush 93 rfl dX10_one_95 ?_
                refine rr_callV (As := [.int 93]) (rest := []) (kc2 := 0) (ks2 := 0) dX10_one_97 okX10_sign lX10_167 lo_49 sh_49 rfl rfl (Nat.le_of_ble_eq_true rfl) (Nat.le_of_ble_eq_true rfl) rfl (by omega) (by simp [jj_rk]) (by simp [jj_rk]) ?_
                skip
                refine ll_sign (X := 93) lst_R he6 sg_93 m (by omega) (fun b5 y5 h e1 hy5 sy5 m => ?_) (fun k p h e1 m => ?_)
                · skip
                  rw [sy4] at e1
                  rw [pb_ok e1] at k1 k2
                  show jj_R _ _ kc ks (jj_S, 782, h, g) 100 [(0, .ref 49), (1, .int 8)] [] Q
                  refine rr_aload_n 0 rfl rfl dX10_one_100 ?_
                  refine rr_iload_n 1 rfl rfl dX10_one_101 ?_
                  refine rr_iconst 0 rfl dX10_one_102 ?_
                  refine rr_callV (As := [.int 8, .int 0]) (rest := []) (kc2 := 0) (ks2 := 0) dX10_one_103 okX10_notes lX10_212 lo_49 sh_49 rfl rfl (Nat.le_of_ble_eq_true rfl) (Nat.le_of_ble_eq_true rfl) rfl (by omega) (by simp [jj_rk]) (by simp [jj_rk]) ?_
                  refine ll_notes (a1 := 8) (a2 := 0) he m rfl rfl (fun h m => ?_)
                  show jj_R _ _ kc ks (jj_S, 782, h, g) 106 [(0, .ref 49), (1, .int 8)] [] Q
                  refine rr_aload_n 0 rfl rfl dX10_one_106 ?_
                  refine rr_dup rfl dX10_one_107 ?_
                  refine rr_getI dX10_one_108 fX10_154 lo_49 sh_49 rfl ?_
                  rw [show (h 49) 8 = (nI (o + 1)) from m.2.1]
                  refine rr_iconst 1 rfl dX10_one_111 ?_
                  refine rr_isub dX10_one_112 ?_
                  refine rr_putI dX10_one_113 fX10_154 ni10_8 lo_49 sh_49 rfl ?_
                  rw [jj_rs_set0 (B := h) (o := 49) (r := (h 49)) rfl]
                  refine rr_return dX10_one_116 rfl ?_
                  refine k1 _ b5 y5 _ rfl (by omega) sy5 ?_
                  have m9 := lst_o m
                  simpa only [List.append_assoc] using m9
                · skip
                  rw [sy4] at e1
                  rw [pb_er e1] at k2
                  show jj_R _ _ kc ks (jj_S, 782, h, g) 100 [(0, .ref 49), (1, .int 8)] [] Q
                  refine rr_aload_n 0 rfl rfl dX10_one_100 ?_
                  refine rr_iload_n 1 rfl rfl dX10_one_101 ?_
                  refine rr_iconst 0 rfl dX10_one_102 ?_
                  refine rr_callV (As := [.int 8, .int 0]) (rest := []) (kc2 := 0) (ks2 := 0) dX10_one_103 okX10_notes lX10_212 lo_49 sh_49 rfl rfl (Nat.le_of_ble_eq_true rfl) (Nat.le_of_ble_eq_true rfl) rfl (by omega) (by simp [jj_rk]) (by simp [jj_rk]) ?_
                  refine nf_notes (by omega) m.2.2.1 ?_
                  show jj_R _ _ kc ks (jj_S, 782, h, g) 106 [(0, .ref 49), (1, .int 8)] [] Q
                  refine rr_aload_n 0 rfl rfl dX10_one_106 ?_
                  refine rr_dup rfl dX10_one_107 ?_
                  refine rr_getI dX10_one_108 fX10_154 lo_49 sh_49 rfl ?_
                  refine rr_iconst 1 rfl dX10_one_111 ?_
                  refine rr_isub dX10_one_112 ?_
                  refine rr_putI dX10_one_113 fX10_154 ni10_8 lo_49 sh_49 rfl ?_
                  rw [jj_rs_set0 (B := h) (o := 49) (r := (h 49)) rfl]
                  refine rr_return dX10_one_116 rfl ?_
                  exact k2 k p _ rfl (ler_o m)
              · skip
                rw [sy3] at e1
                rw [pb_er e1] at k2
                show jj_R _ _ kc ks (jj_S, 782, h, g) 94 [(0, .ref 49), (1, .int 8)] [] Q
                refine rr_aload_n 0 rfl rfl dX10_one_94 ?_
                refine rr_bipush 93 rfl dX10_one_95 ?_
                refine rr_callV (As := [.int 93]) (rest := []) (kc2 := 0) (ks2 := 0) dX10_one_97 okX10_sign lX10_167 lo_49 sh_49 rfl rfl (Nat.le_of_ble_eq_true rfl) (Nat.le_of_ble_eq_true rfl) rfl (by omega) (by simp [jj_rk]) (by simp [jj_rk]) ?_
                refine nf_sign (by omega) m.2.2.1 ?_
                show jj_R _ _ kc ks (jj_S, 782, h, g) 100 [(0, .ref 49), (1, .int 8)] [] Q
                refine rr_aload_n 0 rfl rfl dX10_one_100 ?_
                refine rr_iload_n 1 rfl rfl dX10_one_101 ?_
                refine rr_iconst 0 rfl dX10_one_102 ?_
                refine rr_callV (As := [.int 8, .int 0]) (rest := []) (kc2 := 0) (ks2 := 0) dX10_one_103 okX10_notes lX10_212 lo_49 sh_49 rfl rfl (Nat.le_of_ble_eq_true rfl) (Nat.le_of_ble_eq_true rfl) rfl (by omega) (by simp [jj_rk]) (by simp [jj_rk]) ?_
                refine nf_notes (by omega) m.2.2.1 ?_
                show jj_R _ _ kc ks (jj_S, 782, h, g) 106 [(0, .ref 49), (1, .int 8)] [] Q
                refine rr_aload_n 0 rfl rfl dX10_one_106 ?_
                refine rr_dup rfl dX10_one_107 ?_
                refine rr_getI dX10_one_108 fX10_154 lo_49 sh_49 rfl ?_
                refine rr_iconst 1 rfl dX10_one_111 ?_
                refine rr_isub dX10_one_112 ?_
                refine rr_putI dX10_one_113 fX10_154 ni10_8 lo_49 sh_49 rfl ?_
                rw [jj_rs_set0 (B := h) (o := 49) (r := (h 49)) rfl]
                refine rr_return dX10_one_116 rfl ?_
                exact k2 k p _ rfl (ler_o m)
            · skip
              rw [sy2] at e1
              rw [pb_er e1] at k2
              show jj_R _ _ kc ks (jj_S, 782, h, g) 90 [(0, .ref 49), (1, .int 8)] [] Q
              refine rr_aload_n 0 rfl rfl dX10_one_90 ?_
              refine rr_callV (As := []) (rest := []) (kc2 := 0) (ks2 := 0) dX10_one_91 okX10_sum lX10_229 lo_49 sh_49 rfl rfl (Nat.le_of_ble_eq_true rfl) (Nat.le_of_ble_eq_true rfl) rfl (by omega) (by simp [jj_rk]) (by simp [jj_rk]) ?_
              refine nf_sum (by omega) m.2.2.1 ?_
              show jj_R _ _ kc ks (jj_S, 782, h, g) 94 [(0, .ref 49), (1, .int 8)] [] Q
              refine rr_aload_n 0 rfl rfl dX10_one_94 ?_
              refine rr_bipush 93 rfl dX10_one_95 ?_
              refine rr_callV (As := [.int 93]) (rest := []) (kc2 := 0) (ks2 := 0) dX10_one_97 okX10_sign lX10_167 lo_49 sh_49 rfl rfl (Nat.le_of_ble_eq_true rfl) (Nat.le_of_ble_eq_true rfl) rfl (by omega) (by simp [jj_rk]) (by simp [jj_rk]) ?_
              refine nf_sign (by omega) m.2.2.1 ?_
              show jj_R _ _ kc ks (jj_S, 782, h, g) 100 [(0, .ref 49), (1, .int 8)] [] Q
              refine rr_aload_n 0 rfl rfl dX10_one_100 ?_
              refine rr_iload_n 1 rfl rfl dX10_one_101 ?_
              refine rr_iconst 0 rfl dX10_one_102 ?_
              refine rr_callV (As := [.int 8, .int 0]) (rest := []) (kc2 := 0) (ks2 := 0) dX10_one_103 okX10_notes lX10_212 lo_49 sh_49 rfl rfl (Nat.le_of_ble_eq_true rfl) (Nat.le_of_ble_eq_true rfl) rfl (by omega) (by simp [jj_rk]) (by simp [jj_rk]) ?_
              refine nf_notes (by omega) m.2.2.1 ?_
              show jj_R _ _ kc ks (jj_S, 782, h, g) 106 [(0, .ref 49), (1, .int 8)] [] Q
              refine rr_aload_n 0 rfl rfl dX10_one_106 ?_
              refine rr_dup rfl dX10_one_107 ?_
              refine rr_getI dX10_one_108 fX10_154 lo_49 sh_49 rfl ?_
              refine rr_iconst 1 rfl dX10_one_111 ?_
              refine rr_isub dX10_one_112 ?_
              refine rr_putI dX10_one_113 fX10_154 ni10_8 lo_49 sh_49 rfl ?_
              rw [jj_rs_set0 (B := h) (o := 49) (r := (h 49)) rfl]
              refine rr_return dX10_one_116 rfl ?_
              exact k2 k p _ rfl (ler_o m)
          · skip
            rw [sy1] at e1
            rw [pb_er e1] at k2
            show jj_R _ _ kc ks (jj_S, 782, h, g) 84 [(0, .ref 49), (1, .int 8)] [] Q
            refine rr_aload_n 0 rfl rfl dX10_one_84 ?_
            refine rr_bipush 44 rfl dX10_one_85 ?_
            refine rr_callV (As := [.int 44]) (rest := []) (kc2 := 0) (ks2 := 0) dX10_one_87 okX10_sign lX10_167 lo_49 sh_49 rfl rfl (Nat.le_of_ble_eq_true rfl) (Nat.le_of_ble_eq_true rfl) rfl (by omega) (by simp [jj_rk]) (by simp [jj_rk]) ?_
            refine nf_sign (by omega) m.2.2.1 ?_
            show jj_R _ _ kc ks (jj_S, 782, h, g) 90 [(0, .ref 49), (1, .int 8)] [] Q
            refine rr_aload_n 0 rfl rfl dX10_one_90 ?_
            refine rr_callV (As := []) (rest := []) (kc2 := 0) (ks2 := 0) dX10_one_91 okX10_sum lX10_229 lo_49 sh_49 rfl rfl (Nat.le_of_ble_eq_true rfl) (Nat.le_of_ble_eq_true rfl) rfl (by omega) (by simp [jj_rk]) (by simp [jj_rk]) ?_
            refine nf_sum (by omega) m.2.2.1 ?_
            show jj_R _ _ kc ks (jj_S, 782, h, g) 94 [(0, .ref 49), (1, .int 8)] [] Q
            refine rr_aload_n 0 rfl rfl dX10_one_94 ?_
            refine rr_bipush 93 rfl dX10_one_95 ?_
            refine rr_callV (As := [.int 93]) (rest := []) (kc2 := 0) (ks2 := 0) dX10_one_97 okX10_sign lX10_167 lo_49 sh_49 rfl rfl (Nat.le_of_ble_eq_true rfl) (Nat.le_of_ble_eq_true rfl) rfl (by omega) (by simp [jj_rk]) (by simp [jj_rk]) ?_
            refine nf_sign (by omega) m.2.2.1 ?_
            show jj_R _ _ kc ks (jj_S, 782, h, g) 100 [(0, .ref 49), (1, .int 8)] [] Q
            refine rr_aload_n 0 rfl rfl dX10_one_100 ?_
            refine rr_iload_n 1 rfl rfl dX10_one_101 ?_
            refine rr_iconst 0 rfl dX10_one_102 ?_
            refine rr_callV (As := [.int 8, .int 0]) (rest := []) (kc2 := 0) (ks2 := 0) dX10_one_103 okX10_notes lX10_212 lo_49 sh_49 rfl rfl (Nat.le_of_ble_eq_true rfl) (Nat.le_of_ble_eq_true rfl) rfl (by omega) (by simp [jj_rk]) (by simp [jj_rk]) ?_
            refine nf_notes (by omega) m.2.2.1 ?_
            show jj_R _ _ kc ks (jj_S, 782, h, g) 106 [(0, .ref 49), (1, .int 8)] [] Q
            refine rr_aload_n 0 rfl rfl dX10_one_106 ?_
            refine rr_dup rfl dX10_one_107 ?_
            refine rr_getI dX10_one_108 fX10_154 lo_49 sh_49 rfl ?_
            refine rr_iconst 1 rfl dX10_one_111 ?_
            refine rr_isub dX10_one_112 ?_
            refine rr_putI dX10_one_113 fX10_154 ni10_8 lo_49 sh_49 rfl ?_
            rw [jj_rs_set0 (B := h) (o := 49) (r := (h 49)) rfl]
            refine rr_return dX10_one_116 rfl ?_
            exact k2 k p _ rfl (ler_o m)
        · skip
          rw [sy0] at e1
          rw [pb_er e1] at k2
          show jj_R _ _ kc ks (jj_S, 782, h, g) 80 [(0, .ref 49), (1, .int 8)] [] Q
          refine rr_aload_n 0 rfl rfl dX10_one_80 ?_
          refine rr_callV (As := []) (rest := []) (kc2 := 0) (ks2 := 0) dX10_one_81 okX10_sum lX10_229 lo_49 sh_49 rfl rfl (Nat.le_of_ble_eq_true rfl) (Nat.le_of_ble_eq_true rfl) rfl (by omega) (by simp [jj_rk]) (by simp [jj_rk]) ?_
          refine nf_sum (by omega) m.2.2.1 ?_
          show jj_R _ _ kc ks (jj_S, 782, h, g) 84 [(0, .ref 49), (1, .int 8)] [] Q
          refine rr_aload_n 0 rfl rfl dX10_one_84 ?_
          refine rr_bipush 44 rfl dX10_one_85 ?_
          refine rr_callV (As := [.int 44]) (rest := []) (kc2 := 0) (ks2 := 0) dX10_one_87 okX10_sign lX10_167 lo_49 sh_49 rfl rfl (Nat.le_of_ble_eq_true rfl) (Nat.le_of_ble_eq_true rfl) rfl (by omega) (by simp [jj_rk]) (by simp [jj_rk]) ?_
          refine nf_sign (by omega) m.2.2.1 ?_
          show jj_R _ _ kc ks (jj_S, 782, h, g) 90 [(0, .ref 49), (1, .int 8)] [] Q
          refine rr_aload_n 0 rfl rfl dX10_one_90 ?_
          refine rr_callV (As := []) (rest := []) (kc2 := 0) (ks2 := 0) dX10_one_91 okX10_sum lX10_229 lo_49 sh_49 rfl rfl (Nat.le_of_ble_eq_true rfl) (Nat.le_of_ble_eq_true rfl) rfl (by omega) (by simp [jj_rk]) (by simp [jj_rk]) ?_
          refine nf_sum (by omega) m.2.2.1 ?_
          show jj_R _ _ kc ks (jj_S, 782, h, g) 94 [(0, .ref 49), (1, .int 8)] [] Q
          refine rr_aload_n 0 rfl rfl dX10_one_94 ?_
          refine rr_bipush 93 rfl dX10_one_95 ?_
          refine rr_callV (As := [.int 93]) (rest := []) (kc2 := 0) (ks2 := 0) dX10_one_97 okX10_sign lX10_167 lo_49 sh_49 rfl rfl (Nat.le_of_ble_eq_true rfl) (Nat.le_of_ble_eq_true rfl) rfl (by omega) (by simp [jj_rk]) (by simp [jj_rk]) ?_
          refine nf_sign (by omega) m.2.2.1 ?_
          show jj_R _ _ kc ks (jj_S, 782, h, g) 100 [(0, .ref 49), (1, .int 8)] [] Q
          refine rr_aload_n 0 rfl rfl dX10_one_100 ?_
          refine rr_iload_n 1 rfl rfl dX10_one_101 ?_
          refine rr_iconst 0 rfl dX10_one_102 ?_
          refine rr_callV (As := [.int 8, .int 0]) (rest := []) (kc2 := 0) (ks2 := 0) dX10_one_103 okX10_notes lX10_212 lo_49 sh_49 rfl rfl (Nat.le_of_ble_eq_true rfl) (Nat.le_of_ble_eq_true rfl) rfl (by omega) (by simp [jj_rk]) (by simp [jj_rk]) ?_
          refine nf_notes (by omega) m.2.2.1 ?_
          show jj_R _ _ kc ks (jj_S, 782, h, g) 106 [(0, .ref 49), (1, .int 8)] [] Q
          refine rr_aload_n 0 rfl rfl dX10_one_106 ?_
          refine rr_dup rfl dX10_one_107 ?_
          refine rr_getI dX10_one_108 fX10_154 lo_49 sh_49 rfl ?_
          refine rr_iconst 1 rfl dX10_one_111 ?_
          refine rr_isub dX10_one_112 ?_
          refine rr_putI dX10_one_113 fX10_154 ni10_8 lo_49 sh_49 rfl ?_
          rw [jj_rs_set0 (B := h) (o := 49) (r := (h 49)) rfl]
          refine rr_return dX10_one_116 rfl ?_
          exact k2 k p _ rfl (ler_o m)
      · skip
        show jj_R _ _ kc ks (jj_S, 782, h, g) 66 [(0, .ref 49), (1, .int 8)] [.int 0] Q
        refine rr_if_ne dX10_one_66 (fun c => absurd c (by decide)) (fun _ => ?_)
        refine rr_return dX10_one_69 rfl ?_
        have eS := hN.mpr o6
        subst eS
        exact k2 3 a h rfl m
    · skip
      show jj_R _ _ kc ks (jj_S, 782, h, g) 47 [(0, .ref 49)] [.int 0] Q
      refine rr_if_eq dX10_one_47 (fun _ => ?_) (fun c => absurd (by decide) c)
      refine rr_iconst (-1) rfl dX10_one_55 ?_
      refine rr_istore_n [(0, .ref 49), (1, .int (-1))] dX10_one_56 rfl (by decide) rfl ?_
      refine rr_iload_n 1 rfl rfl dX10_one_57 ?_
      refine rr_iconst (-1) rfl dX10_one_58 ?_
      refine rr_icmp_eq dX10_one_59 (fun _ => ?_) (fun c => absurd (by decide) c)
      have hF := m.1.2.2.1
      have hs0 := m.1.1
      have hae := m.1.2.2.2.1
      have sg := sg_at (c := c) (e := e) (a := a) sg_40 (fun q => (hF _ (by omega)).2)
      refine rr_aload_n 0 rfl rfl dX10_one_117 ?_
      refine rr_aload_n 0 rfl rfl dX10_one_118 ?_
      refine rr_getI dX10_one_119 fX10_104 lo_49 sh_49 rfl ?_
      rw [show (h 49) 4 = (nI a) from m.1.2.1]
      refine rr_callV (As := [.int (nI a)]) (rest := []) (kc2 := 0) (ks2 := 0) dX10_one_122 okX10_byteAt lX10_107 lo_49 sh_49 rfl rfl (Nat.le_of_ble_eq_true rfl) (Nat.le_of_ble_eq_true rfl) rfl (by omega) (by simp [jj_rk]) (by simp [jj_rk]) ?_
      refine sp_X10_byteAt (by_in he6 hs0 (by omega)) ?_
      show jj_R _ _ kc ks (jj_S, 782, h, g) 125 [(0, .ref 49), (1, .int (-1))] [.int (vX10_byteAt (h 49) (h 50) (nI a))] Q
      refine rr_bipush 40 rfl dX10_one_125 ?_
      refine rr_icmp_ne dX10_one_127 (fun c1 => ?_) (fun c1 => ?_)
      · skip
        rw [by_at hF he6 (by omega) hs0, show (40 : Int32) = nI 40 from rfl, sg] at c1
        refine rr_aload_n 0 rfl rfl dX10_one_169 ?_
        refine rr_callV (As := []) (rest := []) (kc2 := 0) (ks2 := 0) dX10_one_170 okX10_knownHere lX10_232 lo_49 sh_49 rfl rfl (Nat.le_of_ble_eq_true rfl) (Nat.le_of_ble_eq_true rfl) rfl (by omega) (by simp [jj_rk]) (by simp [jj_rk]) ?_
        refine ll_known lst_R he6 m hb (by omega) (fun kq y h hy sy m => ?_) (fun kq h m => ?_)
        · skip
          show jj_R _ _ kc ks (jj_S, 782, h, g) 173 [(0, .ref 49), (1, .int (-1))] [.int (kv c e a)] Q
          refine rr_istore_n [(0, .ref 49), (1, .int (-1)), (2, .int (kv c e a))] dX10_one_173 rfl (by decide) rfl ?_
          refine rr_iload_n 2 rfl rfl dX10_one_174 ?_
          refine rr_iconst (-1) rfl dX10_one_175 ?_
          refine rr_icmp_eq dX10_one_176 (fun c => absurd c kq) (fun _ => ?_)
          refine rr_aload_n 0 rfl rfl dX10_one_179 ?_
          refine rr_iconst 1 rfl dX10_one_180 ?_
          refine rr_iload_n 2 rfl rfl dX10_one_181 ?_
          refine rr_callV (As := [.int 1, .int (kv c e a)]) (rest := []) (kc2 := 0) (ks2 := 0) dX10_one_182 okX10_notes lX10_212 lo_49 sh_49 rfl rfl (Nat.le_of_ble_eq_true rfl) (Nat.le_of_ble_eq_true rfl) rfl (by omega) (by simp [jj_rk]) (by simp [jj_rk]) ?_
          refine ll_notes (t := t) (a1 := 1) (a2 := (kv c e a).toNatClampNeg) he (lst_t m (by omega)) rfl (kv_n kq).1 (fun h m => ?_)
          show jj_R _ _ kc ks (jj_S, 782, h, g) 185 [(0, .ref 49), (1, .int (-1)), (2, .int (kv c e a))] [] Q
          refine rr_goto dX10_one_185 ?_
          refine rr_return dX10_one_201 rfl ?_
          exact k1 _ _ y h (by unfold pone; rw [if_neg w1, if_neg w2, if_neg c1, if_neg kq]) (by omega) sy m
        · skip
          show jj_R _ _ kc ks (jj_S, 782, h, g) 173 [(0, .ref 49), (1, .int (-1))] [.int (-1)] Q
          refine rr_istore_n [(0, .ref 49), (1, .int (-1)), (2, .int (-1))] dX10_one_173 rfl (by decide) rfl ?_
          refine rr_iload_n 2 rfl rfl dX10_one_174 ?_
          refine rr_iconst (-1) rfl dX10_one_175 ?_
          refine rr_icmp_eq dX10_one_176 (fun _ => ?_) (fun c => absurd (by decide) c)
          refine rr_aload_n 0 rfl rfl dX10_one_188 ?_
          refine rr_iconst 0 rfl dX10_one_189 ?_
          refine rr_aload_n 0 rfl rfl dX10_one_190 ?_
          refine rr_iconst 0 rfl dX10_one_191 ?_
          refine rr_sipush 999 rfl dX10_one_192 ?_
          refine rr_callV (As := [.int 0, .int 999]) (rest := [.int 0, .ref 49]) (kc2 := 0) (ks2 := 0) dX10_one_195 okX10_number lX10_157 lo_49 sh_49 rfl rfl (Nat.le_of_ble_eq_true rfl) (Nat.le_of_ble_eq_true rfl) rfl (by omega) (by simp [jj_rk]) (by simp [jj_rk]) ?_
          have hp : pone S c e a = pb (pnum c e 1000 a) fun z => .ok ([(0, z.1)], z.2) := by unfold pone; rw [if_neg w1, if_neg w2, if_neg c1, if_pos kq]
          rw [hp] at k1 k2
          refine ll_num (lim := 1000) lst_R he6 m (by omega) (by decide) (by decide) (fun v b y h e1 hv hy sy m => ?_) (fun k p h e1 m => ?_)
          · skip
            rw [hb] at e1
            rw [pb_ok e1] at k1 k2
            show jj_R _ _ kc ks (jj_S, 782, h, g) 198 [(0, .ref 49), (1, .int (-1)), (2, .int (-1))] [.int (nI v), .int 0, .ref 49] Q
            refine rr_callV (As := [.int 0, .int (nI v)]) (rest := []) (kc2 := 0) (ks2 := 0) dX10_one_198 okX10_notes lX10_212 lo_49 sh_49 rfl rfl (Nat.le_of_ble_eq_true rfl) (Nat.le_of_ble_eq_true rfl) rfl (by omega) (by simp [jj_rk]) (by simp [jj_rk]) ?_
            refine ll_notes (t := t) (a1 := 0) (a2 := v) he (lst_t m (by omega)) rfl rfl (fun h m => ?_)
            show jj_R _ _ kc ks (jj_S, 782, h, g) 201 [(0, .ref 49), (1, .int (-1)), (2, .int (-1))] [] Q
            refine rr_return dX10_one_201 rfl ?_
            exact k1 _ _ y h rfl (by omega) sy m
          · skip
            rw [hb] at e1
            rw [pb_er e1] at k2
            show jj_R _ _ kc ks (jj_S, 782, h, g) 198 [(0, .ref 49), (1, .int (-1)), (2, .int (-1))] [.int 0, .int 0, .ref 49] Q
            refine rr_callV (As := [.int 0, .int 0]) (rest := []) (kc2 := 0) (ks2 := 0) dX10_one_198 okX10_notes lX10_212 lo_49 sh_49 rfl rfl (Nat.le_of_ble_eq_true rfl) (Nat.le_of_ble_eq_true rfl) rfl (by omega) (by simp [jj_rk]) (by simp [jj_rk]) ?_
            refine nf_notes (by omega) m.2.2.1 ?_
            show jj_R _ _ kc ks (jj_S, 782, h, g) 201 [(0, .ref 49), (1, .int (-1)), (2, .int (-1))] [] Q
            refine rr_return dX10_one_201 rfl ?_
            exact k2 k p _ rfl m
      · skip
        rw [by_at hF he6 (by omega) hs0, show (40 : Int32) = nI 40 from rfl, sg] at c1
        have hp : pone S c e a = ppar S c e a := by unfold pone; rw [if_neg w1, if_neg w2, if_pos c1]
        rw [hp] at k1 k2
        have sa : spn isB c e (a + 1) = nt c e a := by unfold nt; rw [nx_3 c1.1]
        have ae := kd_in (c := c) (e := e) (a := a) (by omega)
        refine rr_aload_n 0 rfl rfl dX10_one_130 ?_
        refine rr_callV (As := []) (rest := []) (kc2 := 0) (ks2 := 0) dX10_one_131 okX10_opensOne lX10_225 lo_49 sh_49 rfl rfl (Nat.le_of_ble_eq_true rfl) (Nat.le_of_ble_eq_true rfl) rfl (by omega) (by simp [jj_rk]) (by simp [jj_rk]) ?_
        refine ll_opens m ho (by omega) (fun o6 h m => ?_) (fun o6 h m => ?_)
        · skip
          obtain ⟨s, rfl⟩ : ∃ s, S = some s := by
            cases S with
            | none => exact absurd (hN.mp rfl) o6
            | some s => exact ⟨s, rfl⟩
          have hs := hS s rfl
          rw [pr_some] at k1 k2
          show jj_R _ _ kc ks (jj_S, 782, h, g) 134 [(0, .ref 49), (1, .int (-1))] [.int 1] Q
          refine rr_if_ne dX10_one_134 (fun _ => ?_) (fun c => absurd c (by decide))
          refine rr_aload_n 0 rfl rfl dX10_one_138 ?_
          refine rr_dup rfl dX10_one_139 ?_
          refine rr_getI dX10_one_140 fX10_104 lo_49 sh_49 rfl ?_
          rw [show (h 49) 4 = (nI a) from m.1.2.1]
          refine rr_iconst 1 rfl dX10_one_143 ?_
          refine rr_iadd dX10_one_144 ?_
          refine rr_putI dX10_one_145 fX10_104 ni10_4 lo_49 sh_49 rfl ?_
          rw [jj_rs_set0 (B := h) (o := 49) (r := (h 49)) rfl]
          refine jj_fl (fun h9 eh => ?_)
          have m9 : lst c e (o + 1) t L0 h0 (a + 1) h9 := by
            rw [eh]
            exact lst_R.2.1 a (a + 1) _ _ m (by omega) (by omega) (by rw [jj_ueq rfl, nI_1]) ((jj_une (by decide)).trans m.1.2.2.2.2) (fun i i4 _ _ => jj_une i4)
          clear eh
          revert h9
          intro h m
          show jj_R _ _ kc ks (jj_S, 782, h, g) 148 [(0, .ref 49), (1, .int (-1))] [] Q
          refine rr_aload_n 0 rfl rfl dX10_one_148 ?_
          refine rr_callV (As := []) (rest := []) (kc2 := 0) (ks2 := 0) dX10_one_149 okX10_sum lX10_229 lo_49 sh_49 rfl rfl (Nat.le_of_ble_eq_true rfl) (Nat.le_of_ble_eq_true rfl) rfl (by omega) (by simp [jj_rk]) (by simp [jj_rk]) ?_
          refine hs (by omega) m (fun L1 b2 y2 h e1 hy2 sy2 m => ?_) (fun k p h e1 m => ?_)
          · skip
            rw [sa] at e1
            rw [pb_ok e1] at k1 k2
            show jj_R _ _ kc ks (jj_S, 782, h, g) 152 [(0, .ref 49), (1, .int (-1))] [] Q
            refine rr_aload_n 0 rfl rfl dX10_one_152 ?_
            refine rr_bipush 41 rfl dX10_one_153 ?_
            refine rr_callV (As := [.int 41]) (rest := []) (kc2 := 0) (ks2 := 0) dX10_one_155 okX10_sign lX10_167 lo_49 sh_49 rfl rfl (Nat.le_of_ble_eq_true rfl) (Nat.le_of_ble_eq_true rfl) rfl (by omega) (by simp [jj_rk]) (by simp [jj_rk]) ?_
            refine ll_sign (X := 41) lst_R he6 sg_41 m (by omega) (fun b5 y5 h e1 hy5 sy5 m => ?_) (fun k p h e1 m => ?_)
            · skip
              rw [sy2] at e1
              rw [pb_ok e1] at k1 k2
              show jj_R _ _ kc ks (jj_S, 782, h, g) 158 [(0, .ref 49), (1, .int (-1))] [] Q
              refine rr_aload_n 0 rfl rfl dX10_one_158 ?_
              refine rr_dup rfl dX10_one_159 ?_
              refine rr_getI dX10_one_160 fX10_154 lo_49 sh_49 rfl ?_
              rw [show (h 49) 8 = (nI (o + 1)) from m.2.1]
              refine rr_iconst 1 rfl dX10_one_163 ?_
              refine rr_isub dX10_one_164 ?_
              refine rr_putI dX10_one_165 fX10_154 ni10_8 lo_49 sh_49 rfl ?_
              rw [jj_rs_set0 (B := h) (o := 49) (r := (h 49)) rfl]
              refine rr_return dX10_one_168 rfl ?_
              exact k1 _ b5 y5 _ rfl (by omega) sy5 (lst_o m)
            · skip
              rw [sy2] at e1
              rw [pb_er e1] at k2
              show jj_R _ _ kc ks (jj_S, 782, h, g) 158 [(0, .ref 49), (1, .int (-1))] [] Q
              refine rr_aload_n 0 rfl rfl dX10_one_158 ?_
              refine rr_dup rfl dX10_one_159 ?_
              refine rr_getI dX10_one_160 fX10_154 lo_49 sh_49 rfl ?_
              refine rr_iconst 1 rfl dX10_one_163 ?_
              refine rr_isub dX10_one_164 ?_
              refine rr_putI dX10_one_165 fX10_154 ni10_8 lo_49 sh_49 rfl ?_
              rw [jj_rs_set0 (B := h) (o := 49) (r := (h 49)) rfl]
              refine rr_return dX10_one_168 rfl ?_
              exact k2 k p _ rfl (ler_o m)
          · skip
            rw [sa] at e1
            rw [pb_er e1] at k2
            show jj_R _ _ kc ks (jj_S, 782, h, g) 152 [(0, .ref 49), (1, .int (-1))] [] Q
            refine rr_aload_n 0 rfl rfl dX10_one_152 ?_
            refine rr_bipush 41 rfl dX10_one_153 ?_
            refine rr_callV (As := [.int 41]) (rest := []) (kc2 := 0) (ks2 := 0) dX10_one_155 okX10_sign lX10_167 lo_49 sh_49 rfl rfl (Nat.le_of_ble_eq_true rfl) (Nat.le_of_ble_eq_true rfl) rfl (by omega) (by simp [jj_rk]) (by simp [jj_rk]) ?_
            refine nf_sign (by omega) m.2.2.1 ?_
            show jj_R _ _ kc ks (jj_S, 782, h, g) 158 [(0, .ref 49), (1, .int (-1))] [] Q
            refine rr_aload_n 0 rfl rfl dX10_one_158 ?_
            refine rr_dup rfl dX10_one_159 ?_
            refine rr_getI dX10_one_160 fX10_154 lo_49 sh_49 rfl ?_
            refine rr_iconst 1 rfl dX10_one_163 ?_
            refine rr_isub dX10_one_164 ?_
            refine rr_putI dX10_one_165 fX10_154 ni10_8 lo_49 sh_49 rfl ?_
            rw [jj_rs_set0 (B := h) (o := 49) (r := (h 49)) rfl]
            refine rr_return dX10_one_168 rfl ?_
            exact k2 k p _ rfl (ler_o m)
        · skip
          show jj_R _ _ kc ks (jj_S, 782, h, g) 134 [(0, .ref 49), (1, .int (-1))] [.int 0] Q
          refine rr_if_ne dX10_one_134 (fun c => absurd c (by decide)) (fun _ => ?_)
          refine rr_return dX10_one_137 rfl ?_
          have eS := hN.mpr o6
          subst eS
          exact k2 3 a h rfl m
