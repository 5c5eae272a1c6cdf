/-! ===== the class reads a STREET ===== -/
theorem pb_as {α β γ : Type} {m : Except (Nat × Nat) α} {f : α → Except (Nat × Nat) β} {g : β → Except (Nat × Nat) γ} : pb (pb m f) g = pb m fun a => pb (f a) g := by cases m <;> rfl
theorem pb_pure {α β : Type} {a : α} {f : α → Except (Nat × Nat) β} : pb (.ok a) f = f a := rfl
def pper4 (c : Nat → Nat) (e a : Nat) : Except (Nat × Nat) (pP_ × Nat) := pb (pnum c e 10 a) fun z1 => pb (pnum c e 10 z1.2) fun z2 => pb (pnum c e 21 z2.2) fun z3 => pb (pnum c e 21 z3.2) fun z4 => .ok ((z1.1, z2.1, z3.1, z4.1), z4.2)
theorem ppers_eq {c : Nat → Nat} {e a : Nat} {S : sT_} : ppers c e S a = pb (pper4 c e (nt c e a)) fun z => pb (psign c e 59 z.2) fun b => .ok ((S.1 ++ [z.1], S.2.1, S.2.2), b) := by
  unfold ppers pper4
  simp only [pb_as, pb_pure]
theorem lk_no {L : List (Nat × (Nat → Int32))} {P : Nat → Bool} {x : Nat} (h : L.all (fun q => P q.1) = true) (hx : P x = false) : L.lookup x = none := by
  induction L with
  | nil => rfl
  | cons q L ih =>
    rw [List.all_cons, Bool.and_eq_true] at h
    have n : (x == q.1) = false := by
      rw [beq_eq_false_iff_ne]
      intro z
      rw [z] at hx
      rw [hx] at h
      exact absurd h.1 (by decide)
    rw [List.lookup_cons, n]
    exact ih h.2
theorem rs_no {B : hp_} {L : List (Nat × (Nat → Int32))} {P : Nat → Bool} {x : Nat} (h : L.all (fun q => P q.1) = true) (hx : P x = false) : jj_rs B L x = B x := by
  unfold jj_rs
  rw [lk_no h hx]
theorem fr_L {o : Nat} {P F : Nat → Bool} {h : hp_} {L : List (Nat × (Nat → Int32))} (hL : L.all (fun q => P q.1) = true) (ho : P o = false) : fr o P F h (jj_rs h L) := ⟨fun x hx _ => rs_no hL hx, fun i p => by rw [rs_no hL ho]⟩
def pX (x : Nat) : Bool := decide (15 ≤ x) && decide (x < 21)
def cts (c : Nat → Nat) (e : Nat) (S : sT_) (Z : List Nat) (h0 : hp_) (a : Nat) (h : hp_) : Prop := cst c e a h ∧ h 15 0 = nI S.1.length ∧ S.1.length ≤ 8 ∧ h 15 1 = nI S.2.1 ∧ (∀ i, i < S.1.length → h 20 i = S.2.2 i) ∧ (∀ i z, S.1[i]? = some z → h 16 i = nI z.1 ∧ h 17 i = nI z.2.1 ∧ h 18 i = nI z.2.2.1 ∧ h 19 i = nI z.2.2.2) ∧ (∀ i v, Z[i]? = some v → h (16 + i) S.1.length = nI v) ∧ (∀ i, S.1.length ≤ i → S.2.2 i = 0) ∧ h 13 8 = h0 13 8 ∧ fr 13 pX fC h0 h
def cte (h0 : hp_) (k p : Nat) (h : hp_) : Prop := h 13 7 = nI k ∧ h 13 8 = nI p ∧ fr 13 pX fC h0 h
theorem cts_R {c : Nat → Nat} {e : Nat} {S : sT_} {Z : List Nat} {h0 : hp_} (hZ : Z.length ≤ 4) : crd c e (cts c e S Z h0) (cte h0) := by
  refine ⟨fun a h m => m.1, fun a b h r m hab hr => ?_, fun a h r k p m hk hk2 hr => ?_⟩
  · obtain ⟨⟨m1, m1b, m1c⟩, m2, m3, m4, m5, m6, m7, m8, m9, m10⟩ := m
    obtain ⟨r1, r2, r3, r4⟩ := hr
    refine ⟨⟨m1, r1, r2.trans m1c⟩, m2, m3, m4, m5, m6, fun i v hi => ?_, m8, r3.trans m9, fr_tr m10 (fr_put (fun i p => by rw [fC_1 p]; exact r4))⟩
    have := (List.getElem?_eq_some_iff.mp hi).1
    rw [rs_ne (by omega)]
    exact m7 i v hi
  · obtain ⟨⟨m1, m1b, m1c⟩, m2, m3, m4, m5, m6, m7, m8, m9, m10⟩ := m
    exact ⟨hr.1, hr.2.1, fr_tr m10 (fr_put (fun i p => by rw [fC_1 p]; exact hr.2.2))⟩
theorem cte_L {h0 h : hp_} {k p : Nat} {L : List (Nat × (Nat → Int32))} (m : cte h0 k p h) (hL : L.all (fun q => pX q.1) = true) : cte h0 k p (jj_rs h L) := by
  have e13 : jj_rs h L 13 = h 13 := rs_no hL rfl
  obtain ⟨m1, m2, m3⟩ := m
  exact ⟨by rw [e13]; exact m1, by rw [e13]; exact m2, fr_tr m3 (fr_L hL rfl)⟩
/-- one more number of the person that is told -/
theorem cts_z {c : Nat → Nat} {e a o i v : Nat} {S : sT_} {Z : List Nat} {h0 h : hp_} (m : cts c e S Z h0 a h) (hS : S.1.length < 8) (hi : i = Z.length) (ho : o = 16 + i) (h4 : i < 3) : cts c e S (Z ++ [v]) h0 a (jj_rs h [(o, upd (h o) (nI S.1.length).toNatClampNeg (nI v))]) := by
  obtain ⟨⟨m1, m1b, m1c⟩, m2, m3, m4, m5, m6, m7, m8, m9, m10⟩ := m
  rw [nI_clamp (by omega)]
  have nr : ∀ x, ¬ x = o → jj_rs h [(o, upd (h o) S.1.length (nI v))] x = h x := fun x q => rs_ne q
  have rw_ : ∀ x j, j < S.1.length → jj_rs h [(o, upd (h o) S.1.length (nI v))] x j = h x j := by
    intro x j hj
    by_cases q : x = o
    · subst q; rw [rs_eq, jj_une (by omega)]
    · rw [nr x q]
  refine ⟨⟨by rw [nr 14 (by omega)]; exact m1, by rw [nr 13 (by omega)]; exact m1b, by rw [nr 13 (by omega)]; exact m1c⟩, by rw [nr 15 (by omega)]; exact m2, m3, by rw [nr 15 (by omega)]; exact m4, fun j hj => by rw [rw_ 20 j hj]; exact m5 j hj, fun j z hj => ?_, fun k w hk => ?_, m8, by rw [nr 13 (by omega)]; exact m9, fr_tr m10 (fr_L (by simp [pX]; omega) rfl)⟩
  · have hj2 := (List.getElem?_eq_some_iff.mp hj).1
    rw [rw_ 16 j hj2, rw_ 17 j hj2, rw_ 18 j hj2, rw_ 19 j hj2]
    exact m6 j z hj
  · by_cases q : k < Z.length
    · rw [List.getElem?_append_left q] at hk
      rw [nr (16 + k) (by omega)]
      exact m7 k w hk
    · rw [List.getElem?_append_right (by omega)] at hk
      have hq : k - Z.length = 0 := by
        rcases Nat.eq_zero_or_pos (k - Z.length) with u | u
        · exact u
        · rw [List.getElem?_eq_none (by rw [List.length_singleton]; omega)] at hk; cases hk
      rw [hq] at hk
      have hz : w = v := by simpa using hk.symm
      rw [show 16 + k = o by omega, rs_eq, jj_ueq rfl, hz]
theorem cts_add {c : Nat → Nat} {e a z1 z2 z3 z4 : Nat} {S : sT_} {h0 h : hp_} (m : cts c e S [z1, z2, z3] h0 a h) (hS : S.1.length < 8) : cts c e (S.1 ++ [(z1, z2, z3, z4)], S.2.1, S.2.2) [] h0 a (jj_rs h [(15, upd (h 15) 0 (nI S.1.length + 1)), (19, upd (h 19) (nI S.1.length).toNatClampNeg (nI z4)), (20, upd (h 20) (nI S.1.length).toNatClampNeg 0)]) := by
  obtain ⟨⟨m1, m1b, m1c⟩, m2, m3, m4, m5, m6, m7, m8, m9, m10⟩ := m
  rw [nI_clamp (by omega)]
  have hl : (S.1 ++ [(z1, z2, z3, z4)]).length = S.1.length + 1 := by rw [List.length_append]; rfl
  refine ⟨⟨m1, m1b, m1c⟩, (jj_ueq rfl).trans (by rw [nI_1]; exact congrArg nI hl.symm), by show (S.1 ++ [(z1, z2, z3, z4)]).length ≤ 8; omega, (jj_une (by decide)).trans m4, fun j hj => ?_, fun j z hj => ?_, fun i v hi => (by cases hi), fun j hj => m8 j (by have : (S.1 ++ [(z1, z2, z3, z4)]).length ≤ j := hj; omega), m9, fr_tr m10 (fr_L rfl rfl)⟩
  · show upd (h 20) S.1.length 0 j = S.2.2 j
    have hj2 : j < (S.1 ++ [(z1, z2, z3, z4)]).length := hj
    by_cases q : j = S.1.length
    · rw [jj_ueq q, m8 j (by omega)]
    · rw [jj_une q]; exact m5 j (by omega)
  · show h 16 j = nI z.1 ∧ h 17 j = nI z.2.1 ∧ h 18 j = nI z.2.2.1 ∧ upd (h 19) S.1.length (nI z4) j = nI z.2.2.2
    have hj2 : (S.1 ++ [(z1, z2, z3, z4)])[j]? = some z := hj
    by_cases q : j < S.1.length
    · rw [List.getElem?_append_left q] at hj2
      rw [jj_une (by omega)]
      exact m6 j z hj2
    · rw [List.getElem?_append_right (by omega)] at hj2
      have hq : j - S.1.length = 0 := by
        rcases Nat.eq_zero_or_pos (j - S.1.length) with u | u
        · exact u
        · rw [List.getElem?_eq_none (by rw [List.length_singleton]; omega)] at hj2; cases hj2
      rw [hq] at hj2
      have hz : z = (z1, z2, z3, z4) := by simpa using hj2.symm
      have hi3 : j = S.1.length := by omega
      subst hz hi3
      exact ⟨m7 0 z1 rfl, m7 1 z2 rfl, m7 2 z3 rfl, jj_ueq rfl⟩
theorem cts_s {c : Nat → Nat} {e a v : Nat} {S : sT_} {h0 h : hp_} (m : cts c e S [] h0 a h) : cts c e (S.1, v, S.2.2) [] h0 a (jj_rs h [(15, upd (h 15) 1 (nI v))]) := by
  obtain ⟨⟨m1, m1b, m1c⟩, m2, m3, m4, m5, m6, m7, m8, m9, m10⟩ := m
  exact ⟨⟨m1, m1b, m1c⟩, (jj_une (by decide)).trans m2, m3, jj_ueq rfl, m5, m6, fun i v hi => (by cases hi), m8, m9, fr_tr m10 (fr_L rfl rfl)⟩
theorem cts_f {c : Nat → Nat} {e a v w : Nat} {S : sT_} {h0 h : hp_} (m : cts c e S [] h0 a h) (hv : v < S.1.length) (hw : w < S.1.length) : cts c e (S.1, S.2.1, fu S.2.2 v w) [] h0 a (jj_rs h [(20, upd (upd (h 20) (nI v).toNatClampNeg ((h 20) (nI v).toNatClampNeg ||| (1 <<< (nI w &&& 31)))) (nI w).toNatClampNeg (upd (h 20) (nI v).toNatClampNeg ((h 20) (nI v).toNatClampNeg ||| (1 <<< (nI w &&& 31))) (nI w).toNatClampNeg ||| (1 <<< (nI v &&& 31))))]) := by
  obtain ⟨⟨m1, m1b, m1c⟩, m2, m3, m4, m5, m6, m7, m8, m9, m10⟩ := m
  rw [nI_clamp (show v < 2 ^ 31 by omega), nI_clamp (show w < 2 ^ 31 by omega)]
  refine ⟨⟨m1, m1b, m1c⟩, m2, m3, m4, fu_row m5 hv hw, m6, fun i v hi => (by cases hi), fun j hj => ?_, m9, fr_tr m10 (fr_L rfl rfl)⟩
  have hj2 : S.1.length ≤ j := hj
  show fu S.2.2 v w j = 0
  unfold fu
  rw [jj_une (by omega), jj_une (by omega)]
  exact m8 j hj2
theorem wis_ne {c : Nat → Nat} {e a : Nat} {L M : List Nat} (h : wis c e a L = true) (hL : 0 < L.length) (hn : ¬ (L.length = M.length ∧ L.getD 0 0 = M.getD 0 0)) : ¬ wis c e a M = true := by
  intro h2
  unfold wis at h h2
  rw [Bool.and_eq_true, Bool.and_eq_true, decide_eq_true_eq, decide_eq_true_eq, wm_iff] at h h2
  have hl : L.length = M.length := h.2.1.symm.trans h2.2.1
  refine hn ⟨hl, ?_⟩
  have z1 := h.2.2 0 hL
  have z2 := h2.2.2 0 (by omega)
  exact z1.symm.trans z2
theorem ct_string {c : Nat → Nat} {e a D kc ks : Nat} {S : sT_} {h0 h : hp_} {g : Nat → Nat → Int64} {Q : jj_Rs → jj_St → Prop} (he6 : e ≤ 600) (hD : 3 ≤ D) (m : cts c e S [] h0 a h) (k1 : ∀ v b h9, (pb (pnum c e 100 a) fun z => (.ok z : Except (Nat × Nat) (Nat × Nat))) = .ok (v, b) → a ≤ b → cts c e (S.1, v, S.2.2) [] h0 b h9 → Q (.inl (some (.int 1))) (jj_S, 782, h9, g)) (k2 : ∀ k p h9, (pb (pnum c e 100 a) fun z => (.ok z : Except (Nat × Nat) (Nat × Nat))) = .error (k, p) → cte h0 k p h9 → Q (.inl (some (.int 0))) (jj_S, 782, h9, g)) : jj_R mX7_readString D kc ks (jj_S, 782, h, g) 0 [(0, .ref 15), (1, .ref 13)] [] Q := by
  obtain ⟨d, rfl⟩ : ∃ d, D = d + 3 := ⟨D - 3, by omega⟩
  refine rr_aload_n 1 rfl rfl dX7_readString_0 ?_
  refine rr_bipush 99 rfl dX7_readString_1 ?_
  refine rr_callV (As := [.int 99]) (rest := []) (kc2 := 0) (ks2 := 0) dX7_readString_3 okX5_number lX7_83 lo_13 sh_13 rfl rfl (Nat.le_of_ble_eq_true rfl) (Nat.le_of_ble_eq_true rfl) rfl (by omega) (by simp [jj_rk]) (by simp [jj_rk]) ?_
  refine cl_num (lim := 100) (cts_R (Z := []) (by simp)) he6 m (by omega) (by decide) (by omega) (fun v1 b1 h e1 hv1 hb1 m => ?_) (fun k p h e1 m => ?_)
  · skip
    rw [pb_ok e1] at k1 k2
    have n1 : ¬ nI v1 = -1 := nI_ne1 (by omega)
    show jj_R _ _ kc ks (jj_S, 782, h, g) 6 [(0, .ref 15), (1, .ref 13)] [.int (nI v1)] Q
    refine rr_istore_n [(0, .ref 15), (1, .ref 13), (2, .int (nI v1))] dX7_readString_6 rfl (by decide) rfl ?_
    refine rr_aload_n 0 rfl rfl dX7_readString_7 ?_
    refine rr_iload_n 2 rfl rfl dX7_readString_8 ?_
    refine rr_putI dX7_readString_9 fX7_9 ni7_1 lo_15 sh_15 rfl ?_
    rw [jj_rs_set0 (B := h) (o := 15) (r := (h 15)) rfl]
    refine rr_iload_n 2 rfl rfl dX7_readString_12 ?_
    refine rr_iconst (-1) rfl dX7_readString_13 ?_
    refine rr_icmp_eq dX7_readString_14 (fun c => absurd c n1) (fun _ => ?_)
    refine rr_iconst 1 rfl dX7_readString_17 ?_
    refine rr_goto dX7_readString_18 ?_
    refine rr_nreturn dX7_readString_22 rfl (by first | rfl | assumption) ?_
    exact k1 v1 b1 _ rfl (by omega) (cts_s m)
  · skip
    rw [pb_er e1] at k2
    show jj_R _ _ kc ks (jj_S, 782, h, g) 6 [(0, .ref 15), (1, .ref 13)] [.int (-1)] Q
    refine rr_istore_n [(0, .ref 15), (1, .ref 13), (2, .int (-1))] dX7_readString_6 rfl (by decide) rfl ?_
    refine rr_aload_n 0 rfl rfl dX7_readString_7 ?_
    refine rr_iload_n 2 rfl rfl dX7_readString_8 ?_
    refine rr_putI dX7_readString_9 fX7_9 ni7_1 lo_15 sh_15 rfl ?_
    rw [jj_rs_set0 (B := h) (o := 15) (r := (h 15)) rfl]
    refine rr_iload_n 2 rfl rfl dX7_readString_12 ?_
    refine rr_iconst (-1) rfl dX7_readString_13 ?_
    refine rr_icmp_eq dX7_readString_14 (fun _ => ?_) (fun c => absurd (by decide) c)
    refine rr_iconst 0 rfl dX7_readString_21 ?_
    refine rr_nreturn dX7_readString_22 rfl (by first | rfl | assumption) ?_
    exact k2 k p _ rfl (cte_L m rfl)
set_option maxHeartbeats 2000000 in
theorem ct_person {c : Nat → Nat} {e a D kc ks : Nat} {S : sT_} {h0 h : hp_} {g : Nat → Nat → Int64} {Q : jj_Rs → jj_St → Prop} (he6 : e ≤ 600) (hD : 3 ≤ D) (hS8 : S.1.length < 8) (m : cts c e S [] h0 a h) (k1 : ∀ z b h9, pper4 c e a = .ok (z, b) → a ≤ b → cts c e (S.1 ++ [z], S.2.1, S.2.2) [] h0 b h9 → Q (.inl (some (.int 1))) (jj_S, 782, h9, g)) (k2 : ∀ k p h9, pper4 c e a = .error (k, p) → cte h0 k p h9 → Q (.inl (some (.int 0))) (jj_S, 782, h9, g)) : jj_R mX7_readPerson D kc ks (jj_S, 782, h, g) 0 [(0, .ref 15), (1, .ref 13)] [] Q := by
  obtain ⟨d, rfl⟩ : ∃ d, D = d + 3 := ⟨D - 3, by omega⟩
  unfold pper4 at k1 k2
  refine rr_aload_n 0 rfl rfl dX7_readPerson_0 ?_
  refine rr_getI dX7_readPerson_1 fX7_31 lo_15 sh_15 rfl ?_
  rw [show (h 15) 0 = (nI (S.1.length)) from m.2.1]
  refine rr_istore_n [(0, .ref 15), (1, .ref 13), (2, .int (nI (S.1.length)))] dX7_readPerson_4 rfl (by decide) rfl ?_
  refine rr_iload_n 2 rfl rfl dX7_readPerson_5 ?_
  refine rr_bipush 8 rfl dX7_readPerson_6 ?_
  refine rr_icmp_lt dX7_readPerson_8 (fun _ => ?_) (fun c => absurd (nI_lt (a := S.1.length) (b := 8) hS8 (by decide)) c)
  refine rr_aload_n 0 rfl rfl dX7_readPerson_13 ?_
  refine rr_getR dX7_readPerson_14 fX7_15 lo_15 sh_15 rfl ?_
  refine rr_iload_n 2 rfl rfl dX7_readPerson_17 ?_
  refine rr_aload_n 1 rfl rfl dX7_readPerson_18 ?_
  refine rr_bipush 9 rfl dX7_readPerson_19 ?_
  refine rr_callV (As := [.int 9]) (rest := [.int (nI (S.1.length)), .ref 16]) (kc2 := 0) (ks2 := 0) dX7_readPerson_21 okX5_number lX7_83 lo_13 sh_13 rfl rfl (Nat.le_of_ble_eq_true rfl) (Nat.le_of_ble_eq_true rfl) rfl (by omega) (by simp [jj_rk]) (by simp [jj_rk]) ?_
  refine cl_num (lim := 10) (cts_R (Z := []) (by simp)) he6 m (by omega) (by decide) (by omega) (fun v1 b1 h e1 hv1 hb1 m => ?_) (fun k p h e1 m => ?_)
  · skip
    rw [pb_ok e1] at k1 k2
    have n1 : ¬ nI v1 = -1 := nI_ne1 (by omega)
    show jj_R _ _ kc ks (jj_S, 782, h, g) 24 [(0, .ref 15), (1, .ref 13), (2, .int (nI (S.1.length)))] [.int (nI v1), .int (nI (S.1.length)), .ref 16] Q
    refine rr_iastore dX7_readPerson_24 lo_16 sh_16 (vp_in_nI (by omega) (by decide)) ?_
    rw [jj_rs_set0 (B := h) (o := 16) (r := (h 16)) rfl]
    refine rr_aload_n 0 rfl rfl dX7_readPerson_25 ?_
    refine rr_getR dX7_readPerson_26 fX7_19 lo_15 sh_15 rfl ?_
    refine rr_iload_n 2 rfl rfl dX7_readPerson_29 ?_
    refine rr_aload_n 0 rfl rfl dX7_readPerson_30 ?_
    refine rr_getR dX7_readPerson_31 fX7_15 lo_15 sh_15 rfl ?_
    refine rr_iload_n 2 rfl rfl dX7_readPerson_34 ?_
    refine rr_iaload dX7_readPerson_35 lo_16 sh_16 (vp_in_nI (by omega) (by decide)) ?_
    rw [show (jj_rs h [(16, (upd (h 16) (((nI (S.1.length)) : Int32).toNatClampNeg) (nI v1)))]) 16 = (upd (h 16) (((nI (S.1.length)) : Int32).toNatClampNeg) (nI v1)) from rfl]
    rw [show (upd (h 16) (((nI (S.1.length)) : Int32).toNatClampNeg) (nI v1)) (((nI (S.1.length)) : Int32).toNatClampNeg) = (nI v1) from jj_ueq rfl]
    refine rr_iconst (-1) rfl dX7_readPerson_36 ?_
    refine rr_icmp_ne dX7_readPerson_37 (fun _ => ?_) (fun c => absurd c n1)
    refine jj_fl (fun h9 eh => ?_)
    have m9 : cts c e S [v1] h0 b1 h9 := by
      rw [eh]
      exact cts_z (Z := []) m hS8 rfl rfl (by simp)
    clear eh
    revert h9
    intro h m
    show jj_R _ _ kc ks (jj_S, 782, h, g) 44 [(0, .ref 15), (1, .ref 13), (2, .int (nI (S.1.length)))] [.int (nI (S.1.length)), .ref 17] Q
    refine rr_aload_n 1 rfl rfl dX7_readPerson_44 ?_
    refine rr_bipush 9 rfl dX7_readPerson_45 ?_
    refine rr_callV (As := [.int 9]) (rest := [.int (nI (S.1.length)), .ref 17]) (kc2 := 0) (ks2 := 0) dX7_readPerson_47 okX5_number lX7_83 lo_13 sh_13 rfl rfl (Nat.le_of_ble_eq_true rfl) (Nat.le_of_ble_eq_true rfl) rfl (by omega) (by simp [jj_rk]) (by simp [jj_rk]) ?_
    refine cl_num (lim := 10) (cts_R (Z := [v1]) (by simp)) he6 m (by omega) (by decide) (by omega) (fun v2 b2 h e1 hv2 hb2 m => ?_) (fun k p h e1 m => ?_)
    · skip
      rw [pb_ok e1] at k1 k2
      have n2 : ¬ nI v2 = -1 := nI_ne1 (by omega)
      show jj_R _ _ kc ks (jj_S, 782, h, g) 50 [(0, .ref 15), (1, .ref 13), (2, .int (nI (S.1.length)))] [.int (nI v2), .int (nI (S.1.length)), .ref 17] Q
      refine rr_iastore dX7_readPerson_50 lo_17 sh_17 (vp_in_nI (by omega) (by decide)) ?_
      rw [jj_rs_set0 (B := h) (o := 17) (r := (h 17)) rfl]
      refine rr_aload_n 0 rfl rfl dX7_readPerson_51 ?_
      refine rr_getR dX7_readPerson_52 fX7_22 lo_15 sh_15 rfl ?_
      refine rr_iload_n 2 rfl rfl dX7_readPerson_55 ?_
      refine rr_aload_n 0 rfl rfl dX7_readPerson_56 ?_
      refine rr_getR dX7_readPerson_57 fX7_19 lo_15 sh_15 rfl ?_
      refine rr_iload_n 2 rfl rfl dX7_readPerson_60 ?_
      refine rr_iaload dX7_readPerson_61 lo_17 sh_17 (vp_in_nI (by omega) (by decide)) ?_
      rw [show (jj_rs h [(17, (upd (h 17) (((nI (S.1.length)) : Int32).toNatClampNeg) (nI v2)))]) 17 = (upd (h 17) (((nI (S.1.length)) : Int32).toNatClampNeg) (nI v2)) from rfl]
      rw [show (upd (h 17) (((nI (S.1.length)) : Int32).toNatClampNeg) (nI v2)) (((nI (S.1.length)) : Int32).toNatClampNeg) = (nI v2) from jj_ueq rfl]
      refine rr_iconst (-1) rfl dX7_readPerson_62 ?_
      refine rr_icmp_ne dX7_readPerson_63 (fun _ => ?_) (fun c => absurd c n2)
      refine jj_fl (fun h9 eh => ?_)
      have m9 : cts c e S [v1, v2] h0 b2 h9 := by
        rw [eh]
        exact cts_z (Z := [v1]) m hS8 rfl rfl (by simp)
      clear eh
      revert h9
      intro h m
      show jj_R _ _ kc ks (jj_S, 782, h, g) 70 [(0, .ref 15), (1, .ref 13), (2, .int (nI (S.1.length)))] [.int (nI (S.1.length)), .ref 18] Q
      refine rr_aload_n 1 rfl rfl dX7_readPerson_70 ?_
      refine rr_bipush 20 rfl dX7_readPerson_71 ?_
      refine rr_callV (As := [.int 20]) (rest := [.int (nI (S.1.length)), .ref 18]) (kc2 := 0) (ks2 := 0) dX7_readPerson_73 okX5_number lX7_83 lo_13 sh_13 rfl rfl (Nat.le_of_ble_eq_true rfl) (Nat.le_of_ble_eq_true rfl) rfl (by omega) (by simp [jj_rk]) (by simp [jj_rk]) ?_
      refine cl_num (lim := 21) (cts_R (Z := [v1, v2]) (by simp)) he6 m (by omega) (by decide) (by omega) (fun v3 b3 h e1 hv3 hb3 m => ?_) (fun k p h e1 m => ?_)
      · skip
        rw [pb_ok e1] at k1 k2
        have n3 : ¬ nI v3 = -1 := nI_ne1 (by omega)
        show jj_R _ _ kc ks (jj_S, 782, h, g) 76 [(0, .ref 15), (1, .ref 13), (2, .int (nI (S.1.length)))] [.int (nI v3), .int (nI (S.1.length)), .ref 18] Q
        refine rr_iastore dX7_readPerson_76 lo_18 sh_18 (vp_in_nI (by omega) (by decide)) ?_
        rw [jj_rs_set0 (B := h) (o := 18) (r := (h 18)) rfl]
        refine rr_aload_n 0 rfl rfl dX7_readPerson_77 ?_
        refine rr_getR dX7_readPerson_78 fX7_25 lo_15 sh_15 rfl ?_
        refine rr_iload_n 2 rfl rfl dX7_readPerson_81 ?_
        refine rr_aload_n 0 rfl rfl dX7_readPerson_82 ?_
        refine rr_getR dX7_readPerson_83 fX7_22 lo_15 sh_15 rfl ?_
        refine rr_iload_n 2 rfl rfl dX7_readPerson_86 ?_
        refine rr_iaload dX7_readPerson_87 lo_18 sh_18 (vp_in_nI (by omega) (by decide)) ?_
        rw [show (jj_rs h [(18, (upd (h 18) (((nI (S.1.length)) : Int32).toNatClampNeg) (nI v3)))]) 18 = (upd (h 18) (((nI (S.1.length)) : Int32).toNatClampNeg) (nI v3)) from rfl]
        rw [show (upd (h 18) (((nI (S.1.length)) : Int32).toNatClampNeg) (nI v3)) (((nI (S.1.length)) : Int32).toNatClampNeg) = (nI v3) from jj_ueq rfl]
        refine rr_iconst (-1) rfl dX7_readPerson_88 ?_
        refine rr_icmp_ne dX7_readPerson_89 (fun _ => ?_) (fun c => absurd c n3)
        refine jj_fl (fun h9 eh => ?_)
        have m9 : cts c e S [v1, v2, v3] h0 b3 h9 := by
          rw [eh]
          exact cts_z (Z := [v1, v2]) m hS8 rfl rfl (by simp)
        clear eh
        revert h9
        intro h m
        show jj_R _ _ kc ks (jj_S, 782, h, g) 96 [(0, .ref 15), (1, .ref 13), (2, .int (nI (S.1.length)))] [.int (nI (S.1.length)), .ref 19] Q
        refine rr_aload_n 1 rfl rfl dX7_readPerson_96 ?_
        refine rr_bipush 20 rfl dX7_readPerson_97 ?_
        refine rr_callV (As := [.int 20]) (rest := [.int (nI (S.1.length)), .ref 19]) (kc2 := 0) (ks2 := 0) dX7_readPerson_99 okX5_number lX7_83 lo_13 sh_13 rfl rfl (Nat.le_of_ble_eq_true rfl) (Nat.le_of_ble_eq_true rfl) rfl (by omega) (by simp [jj_rk]) (by simp [jj_rk]) ?_
        refine cl_num (lim := 21) (cts_R (Z := [v1, v2, v3]) (by simp)) he6 m (by omega) (by decide) (by omega) (fun v4 b4 h e1 hv4 hb4 m => ?_) (fun k p h e1 m => ?_)
        · skip
          rw [pb_ok e1] at k1 k2
          have n4 : ¬ nI v4 = -1 := nI_ne1 (by omega)
          show jj_R _ _ kc ks (jj_S, 782, h, g) 102 [(0, .ref 15), (1, .ref 13), (2, .int (nI (S.1.length)))] [.int (nI v4), .int (nI (S.1.length)), .ref 19] Q
          refine rr_iastore dX7_readPerson_102 lo_19 sh_19 (vp_in_nI (by omega) (by decide)) ?_
          rw [jj_rs_set0 (B := h) (o := 19) (r := (h 19)) rfl]
          refine rr_aload_n 0 rfl rfl dX7_readPerson_103 ?_
          refine rr_getR dX7_readPerson_104 fX7_28 lo_15 sh_15 rfl ?_
          refine rr_iload_n 2 rfl rfl dX7_readPerson_107 ?_
          refine rr_iconst 0 rfl dX7_readPerson_108 ?_
          refine rr_iastore dX7_readPerson_109 lo_20 sh_20 (vp_in_nI (by omega) (by decide)) ?_
          rw [jj_rs_set (B := h) (L := [(19, (upd (h 19) (((nI (S.1.length)) : Int32).toNatClampNeg) (nI v4)))]) (L2 := [(19, (upd (h 19) (((nI (S.1.length)) : Int32).toNatClampNeg) (nI v4))), (20, (upd (h 20) (((nI (S.1.length)) : Int32).toNatClampNeg) 0))]) (r := (h 20)) rfl rfl]
          refine rr_aload_n 0 rfl rfl dX7_readPerson_110 ?_
          refine rr_dup rfl dX7_readPerson_111 ?_
          refine rr_getI dX7_readPerson_112 fX7_31 lo_15 sh_15 rfl ?_
          rw [show (jj_rs h [(19, (upd (h 19) (((nI (S.1.length)) : Int32).toNatClampNeg) (nI v4))), (20, (upd (h 20) (((nI (S.1.length)) : Int32).toNatClampNeg) 0))]) 15 = h 15 from rfl]
          rw [show (h 15) 0 = (nI (S.1.length)) from m.2.1]
          refine rr_iconst 1 rfl dX7_readPerson_115 ?_
          refine rr_iadd dX7_readPerson_116 ?_
          refine rr_putI dX7_readPerson_117 fX7_31 ni7_0 lo_15 sh_15 rfl ?_
          rw [jj_rs_set (B := h) (L := [(19, (upd (h 19) (((nI (S.1.length)) : Int32).toNatClampNeg) (nI v4))), (20, (upd (h 20) (((nI (S.1.length)) : Int32).toNatClampNeg) 0))]) (L2 := [(15, (upd (h 15) (0) ((nI (S.1.length)) + 1))), (19, (upd (h 19) (((nI (S.1.length)) : Int32).toNatClampNeg) (nI v4))), (20, (upd (h 20) (((nI (S.1.length)) : Int32).toNatClampNeg) 0))]) (r := (h 15)) rfl rfl]
          refine rr_aload_n 0 rfl rfl dX7_readPerson_120 ?_
          refine rr_getR dX7_readPerson_121 fX7_25 lo_15 sh_15 rfl ?_
          refine rr_iload_n 2 rfl rfl dX7_readPerson_124 ?_
          refine rr_iaload dX7_readPerson_125 lo_19 sh_19 (vp_in_nI (by omega) (by decide)) ?_
          rw [show (jj_rs h [(15, (upd (h 15) (0) ((nI (S.1.length)) + 1))), (19, (upd (h 19) (((nI (S.1.length)) : Int32).toNatClampNeg) (nI v4))), (20, (upd (h 20) (((nI (S.1.length)) : Int32).toNatClampNeg) 0))]) 19 = (upd (h 19) (((nI (S.1.length)) : Int32).toNatClampNeg) (nI v4)) from rfl]
          rw [show (upd (h 19) (((nI (S.1.length)) : Int32).toNatClampNeg) (nI v4)) (((nI (S.1.length)) : Int32).toNatClampNeg) = (nI v4) from jj_ueq rfl]
          refine rr_iconst (-1) rfl dX7_readPerson_126 ?_
          refine rr_icmp_eq dX7_readPerson_127 (fun c => absurd c n4) (fun _ => ?_)
          refine rr_iconst 1 rfl dX7_readPerson_130 ?_
          refine rr_goto dX7_readPerson_131 ?_
          refine rr_nreturn dX7_readPerson_135 rfl (by first | rfl | assumption) ?_
          exact k1 _ b4 _ rfl (by omega) (cts_add m hS8)
        · skip
          rw [pb_er e1] at k2
          show jj_R _ _ kc ks (jj_S, 782, h, g) 102 [(0, .ref 15), (1, .ref 13), (2, .int (nI (S.1.length)))] [.int (-1), .int (nI (S.1.length)), .ref 19] Q
          refine rr_iastore dX7_readPerson_102 lo_19 sh_19 (vp_in_nI (by omega) (by decide)) ?_
          rw [jj_rs_set0 (B := h) (o := 19) (r := (h 19)) rfl]
          refine rr_aload_n 0 rfl rfl dX7_readPerson_103 ?_
          refine rr_getR dX7_readPerson_104 fX7_28 lo_15 sh_15 rfl ?_
          refine rr_iload_n 2 rfl rfl dX7_readPerson_107 ?_
          refine rr_iconst 0 rfl dX7_readPerson_108 ?_
          refine rr_iastore dX7_readPerson_109 lo_20 sh_20 (vp_in_nI (by omega) (by decide)) ?_
          rw [jj_rs_set (B := h) (L := [(19, (upd (h 19) (((nI (S.1.length)) : Int32).toNatClampNeg) (-1)))]) (L2 := [(19, (upd (h 19) (((nI (S.1.length)) : Int32).toNatClampNeg) (-1))), (20, (upd (h 20) (((nI (S.1.length)) : Int32).toNatClampNeg) 0))]) (r := (h 20)) rfl rfl]
          refine rr_aload_n 0 rfl rfl dX7_readPerson_110 ?_
          refine rr_dup rfl dX7_readPerson_111 ?_
          refine rr_getI dX7_readPerson_112 fX7_31 lo_15 sh_15 rfl ?_
          rw [show (jj_rs h [(19, (upd (h 19) (((nI (S.1.length)) : Int32).toNatClampNeg) (-1))), (20, (upd (h 20) (((nI (S.1.length)) : Int32).toNatClampNeg) 0))]) 15 = h 15 from rfl]
          refine rr_iconst 1 rfl dX7_readPerson_115 ?_
          refine rr_iadd dX7_readPerson_116 ?_
          refine rr_putI dX7_readPerson_117 fX7_31 ni7_0 lo_15 sh_15 rfl ?_
          rw [jj_rs_set (B := h) (L := [(19, (upd (h 19) (((nI (S.1.length)) : Int32).toNatClampNeg) (-1))), (20, (upd (h 20) (((nI (S.1.length)) : Int32).toNatClampNeg) 0))]) (L2 := [(15, (upd (h 15) (0) (((h 15) 0) + 1))), (19, (upd (h 19) (((nI (S.1.length)) : Int32).toNatClampNeg) (-1))), (20, (upd (h 20) (((nI (S.1.length)) : Int32).toNatClampNeg) 0))]) (r := (h 15)) rfl rfl]
          refine rr_aload_n 0 rfl rfl dX7_readPerson_120 ?_
          refine rr_getR dX7_readPerson_121 fX7_25 lo_15 sh_15 rfl ?_
          refine rr_iload_n 2 rfl rfl dX7_readPerson_124 ?_
          refine rr_iaload dX7_readPerson_125 lo_19 sh_19 (vp_in_nI (by omega) (by decide)) ?_
          rw [show (jj_rs h [(15, (upd (h 15) (0) (((h 15) 0) + 1))), (19, (upd (h 19) (((nI (S.1.length)) : Int32).toNatClampNeg) (-1))), (20, (upd (h 20) (((nI (S.1.length)) : Int32).toNatClampNeg) 0))]) 19 = (upd (h 19) (((nI (S.1.length)) : Int32).toNatClampNeg) (-1)) from rfl]
          rw [show (upd (h 19) (((nI (S.1.length)) : Int32).toNatClampNeg) (-1)) (((nI (S.1.length)) : Int32).toNatClampNeg) = (-1) from jj_ueq rfl]
          refine rr_iconst (-1) rfl dX7_readPerson_126 ?_
          refine rr_icmp_eq dX7_readPerson_127 (fun _ => ?_) (fun c => absurd (by decide) c)
          refine rr_iconst 0 rfl dX7_readPerson_134 ?_
          refine rr_nreturn dX7_readPerson_135 rfl (by first | rfl | assumption) ?_
          exact k2 k p _ rfl (cte_L m rfl)
      · skip
        rw [pb_er e1] at k2
        show jj_R _ _ kc ks (jj_S, 782, h, g) 76 [(0, .ref 15), (1, .ref 13), (2, .int (nI (S.1.length)))] [.int (-1), .int (nI (S.1.length)), .ref 18] Q
        refine rr_iastore dX7_readPerson_76 lo_18 sh_18 (vp_in_nI (by omega) (by decide)) ?_
        rw [jj_rs_set0 (B := h) (o := 18) (r := (h 18)) rfl]
        refine rr_aload_n 0 rfl rfl dX7_readPerson_77 ?_
        refine rr_getR dX7_readPerson_78 fX7_25 lo_15 sh_15 rfl ?_
        refine rr_iload_n 2 rfl rfl dX7_readPerson_81 ?_
        refine rr_aload_n 0 rfl rfl dX7_readPerson_82 ?_
        refine rr_getR dX7_readPerson_83 fX7_22 lo_15 sh_15 rfl ?_
        refine rr_iload_n 2 rfl rfl dX7_readPerson_86 ?_
        refine rr_iaload dX7_readPerson_87 lo_18 sh_18 (vp_in_nI (by omega) (by decide)) ?_
        rw [show (jj_rs h [(18, (upd (h 18) (((nI (S.1.length)) : Int32).toNatClampNeg) (-1)))]) 18 = (upd (h 18) (((nI (S.1.length)) : Int32).toNatClampNeg) (-1)) from rfl]
        rw [show (upd (h 18) (((nI (S.1.length)) : Int32).toNatClampNeg) (-1)) (((nI (S.1.length)) : Int32).toNatClampNeg) = (-1) from jj_ueq rfl]
        refine rr_iconst (-1) rfl dX7_readPerson_88 ?_
        refine rr_icmp_ne dX7_readPerson_89 (fun c => absurd c (by decide)) (fun _ => ?_)
        refine rr_iconst (-1) rfl dX7_readPerson_92 ?_
        refine rr_goto dX7_readPerson_93 ?_
        refine rr_iastore dX7_readPerson_102 lo_19 sh_19 (vp_in_nI (by omega) (by decide)) ?_
        rw [jj_rs_set (B := h) (L := [(18, (upd (h 18) (((nI (S.1.length)) : Int32).toNatClampNeg) (-1)))]) (L2 := [(18, (upd (h 18) (((nI (S.1.length)) : Int32).toNatClampNeg) (-1))), (19, (upd (h 19) (((nI (S.1.length)) : Int32).toNatClampNeg) (-1)))]) (r := (h 19)) rfl rfl]
        refine rr_aload_n 0 rfl rfl dX7_readPerson_103 ?_
        refine rr_getR dX7_readPerson_104 fX7_28 lo_15 sh_15 rfl ?_
        refine rr_iload_n 2 rfl rfl dX7_readPerson_107 ?_
        refine rr_iconst 0 rfl dX7_readPerson_108 ?_
        refine rr_iastore dX7_readPerson_109 lo_20 sh_20 (vp_in_nI (by omega) (by decide)) ?_
        rw [jj_rs_set (B := h) (L := [(18, (upd (h 18) (((nI (S.1.length)) : Int32).toNatClampNeg) (-1))), (19, (upd (h 19) (((nI (S.1.length)) : Int32).toNatClampNeg) (-1)))]) (L2 := [(18, (upd (h 18) (((nI (S.1.length)) : Int32).toNatClampNeg) (-1))), (19, (upd (h 19) (((nI (S.1.length)) : Int32).toNatClampNeg) (-1))), (20, (upd (h 20) (((nI (S.1.length)) : Int32).toNatClampNeg) 0))]) (r := (h 20)) rfl rfl]
        refine rr_aload_n 0 rfl rfl dX7_readPerson_110 ?_
        refine rr_dup rfl dX7_readPerson_111 ?_
        refine rr_getI dX7_readPerson_112 fX7_31 lo_15 sh_15 rfl ?_
        rw [show (jj_rs h [(18, (upd (h 18) (((nI (S.1.length)) : Int32).toNatClampNeg) (-1))), (19, (upd (h 19) (((nI (S.1.length)) : Int32).toNatClampNeg) (-1))), (20, (upd (h 20) (((nI (S.1.length)) : Int32).toNatClampNeg) 0))]) 15 = h 15 from rfl]
        refine rr_iconst 1 rfl dX7_readPerson_115 ?_
        refine rr_iadd dX7_readPerson_116 ?_
        refine rr_putI dX7_readPerson_117 fX7_31 ni7_0 lo_15 sh_15 rfl ?_
        rw [jj_rs_set (B := h) (L := [(18, (upd (h 18) (((nI (S.1.length)) : Int32).toNatClampNeg) (-1))), (19, (upd (h 19) (((nI (S.1.length)) : Int32).toNatClampNeg) (-1))), (20, (upd (h 20) (((nI (S.1.length)) : Int32).toNatClampNeg) 0))]) (L2 := [(15, (upd (h 15) (0) (((h 15) 0) + 1))), (18, (upd (h 18) (((nI (S.1.length)) : Int32).toNatClampNeg) (-1))), (19, (upd (h 19) (((nI (S.1.length)) : Int32).toNatClampNeg) (-1))), (20, (upd (h 20) (((nI (S.1.length)) : Int32).toNatClampNeg) 0))]) (r := (h 15)) rfl rfl]
        refine rr_aload_n 0 rfl rfl dX7_readPerson_120 ?_
        refine rr_getR dX7_readPerson_121 fX7_25 lo_15 sh_15 rfl ?_
        refine rr_iload_n 2 rfl rfl dX7_readPerson_124 ?_
        refine rr_iaload dX7_readPerson_125 lo_19 sh_19 (vp_in_nI (by omega) (by decide)) ?_
        rw [show (jj_rs h [(15, (upd (h 15) (0) (((h 15) 0) + 1))), (18, (upd (h 18) (((nI (S.1.length)) : Int32).toNatClampNeg) (-1))), (19, (upd (h 19) (((nI (S.1.length)) : Int32).toNatClampNeg) (-1))), (20, (upd (h 20) (((nI (S.1.length)) : Int32).toNatClampNeg) 0))]) 19 = (upd (h 19) (((nI (S.1.length)) : Int32).toNatClampNeg) (-1)) from rfl]
        rw [show (upd (h 19) (((nI (S.1.length)) : Int32).toNatClampNeg) (-1)) (((nI (S.1.length)) : Int32).toNatClampNeg) = (-1) from jj_ueq rfl]
        refine rr_iconst (-1) rfl dX7_readPerson_126 ?_
        refine rr_icmp_eq dX7_readPerson_127 (fun _ => ?_) (fun c => absurd (by decide) c)
        refine rr_iconst 0 rfl dX7_readPerson_134 ?_
        refine rr_nreturn dX7_readPerson_135 rfl (by first | rfl | assumption) ?_
        exact k2 k p _ rfl (cte_L m rfl)
    · skip
      rw [pb_er e1] at k2
      show jj_R _ _ kc ks (jj_S, 782, h, g) 50 [(0, .ref 15), (1, .ref 13), (2, .int (nI (S.1.length)))] [.int (-1), .int (nI (S.1.length)), .ref 17] Q
      refine rr_iastore dX7_readPerson_50 lo_17 sh_17 (vp_in_nI (by omega) (by decide)) ?_
      rw [jj_rs_set0 (B := h) (o := 17) (r := (h 17)) rfl]
      refine rr_aload_n 0 rfl rfl dX7_readPerson_51 ?_
      refine rr_getR dX7_readPerson_52 fX7_22 lo_15 sh_15 rfl ?_
      refine rr_iload_n 2 rfl rfl dX7_readPerson_55 ?_
      refine rr_aload_n 0 rfl rfl dX7_readPerson_56 ?_
      refine rr_getR dX7_readPerson_57 fX7_19 lo_15 sh_15 rfl ?_
      refine rr_iload_n 2 rfl rfl dX7_readPerson_60 ?_
      refine rr_iaload dX7_readPerson_61 lo_17 sh_17 (vp_in_nI (by omega) (by decide)) ?_
      rw [show (jj_rs h [(17, (upd (h 17) (((nI (S.1.length)) : Int32).toNatClampNeg) (-1)))]) 17 = (upd (h 17) (((nI (S.1.length)) : Int32).toNatClampNeg) (-1)) from rfl]
      rw [show (upd (h 17) (((nI (S.1.length)) : Int32).toNatClampNeg) (-1)) (((nI (S.1.length)) : Int32).toNatClampNeg) = (-1) from jj_ueq rfl]
      refine rr_iconst (-1) rfl dX7_readPerson_62 ?_
      refine rr_icmp_ne dX7_readPerson_63 (fun c => absurd c (by decide)) (fun _ => ?_)
      refine rr_iconst (-1) rfl dX7_readPerson_66 ?_
      refine rr_goto dX7_readPerson_67 ?_
      refine rr_iastore dX7_readPerson_76 lo_18 sh_18 (vp_in_nI (by omega) (by decide)) ?_
      rw [jj_rs_set (B := h) (L := [(17, (upd (h 17) (((nI (S.1.length)) : Int32).toNatClampNeg) (-1)))]) (L2 := [(17, (upd (h 17) (((nI (S.1.length)) : Int32).toNatClampNeg) (-1))), (18, (upd (h 18) (((nI (S.1.length)) : Int32).toNatClampNeg) (-1)))]) (r := (h 18)) rfl rfl]
      refine rr_aload_n 0 rfl rfl dX7_readPerson_77 ?_
      refine rr_getR dX7_readPerson_78 fX7_25 lo_15 sh_15 rfl ?_
      refine rr_iload_n 2 rfl rfl dX7_readPerson_81 ?_
      refine rr_aload_n 0 rfl rfl dX7_readPerson_82 ?_
      refine rr_getR dX7_readPerson_83 fX7_22 lo_15 sh_15 rfl ?_
      refine rr_iload_n 2 rfl rfl dX7_readPerson_86 ?_
      refine rr_iaload dX7_readPerson_87 lo_18 sh_18 (vp_in_nI (by omega) (by decide)) ?_
      rw [show (jj_rs h [(17, (upd (h 17) (((nI (S.1.length)) : Int32).toNatClampNeg) (-1))), (18, (upd (h 18) (((nI (S.1.length)) : Int32).toNatClampNeg) (-1)))]) 18 = (upd (h 18) (((nI (S.1.length)) : Int32).toNatClampNeg) (-1)) from rfl]
      rw [show (upd (h 18) (((nI (S.1.length)) : Int32).toNatClampNeg) (-1)) (((nI (S.1.length)) : Int32).toNatClampNeg) = (-1) from jj_ueq rfl]
      refine rr_iconst (-1) rfl dX7_readPerson_88 ?_
      refine rr_icmp_ne dX7_readPerson_89 (fun c => absurd c (by decide)) (fun _ => ?_)
      refine rr_iconst (-1) rfl dX7_readPerson_92 ?_
      refine rr_goto dX7_readPerson_93 ?_
      refine rr_iastore dX7_readPerson_102 lo_19 sh_19 (vp_in_nI (by omega) (by decide)) ?_
      rw [jj_rs_set (B := h) (L := [(17, (upd (h 17) (((nI (S.1.length)) : Int32).toNatClampNeg) (-1))), (18, (upd (h 18) (((nI (S.1.length)) : Int32).toNatClampNeg) (-1)))]) (L2 := [(17, (upd (h 17) (((nI (S.1.length)) : Int32).toNatClampNeg) (-1))), (18, (upd (h 18) (((nI (S.1.length)) : Int32).toNatClampNeg) (-1))), (19, (upd (h 19) (((nI (S.1.length)) : Int32).toNatClampNeg) (-1)))]) (r := (h 19)) rfl rfl]
      refine rr_aload_n 0 rfl rfl dX7_readPerson_103 ?_
      refine rr_getR dX7_readPerson_104 fX7_28 lo_15 sh_15 rfl ?_
      refine rr_iload_n 2 rfl rfl dX7_readPerson_107 ?_
      refine rr_iconst 0 rfl dX7_readPerson_108 ?_
      refine rr_iastore dX7_readPerson_109 lo_20 sh_20 (vp_in_nI (by omega) (by decide)) ?_
      rw [jj_rs_set (B := h) (L := [(17, (upd (h 17) (((nI (S.1.length)) : Int32).toNatClampNeg) (-1))), (18, (upd (h 18) (((nI (S.1.length)) : Int32).toNatClampNeg) (-1))), (19, (upd (h 19) (((nI (S.1.length)) : Int32).toNatClampNeg) (-1)))]) (L2 := [(17, (upd (h 17) (((nI (S.1.length)) : Int32).toNatClampNeg) (-1))), (18, (upd (h 18) (((nI (S.1.length)) : Int32).toNatClampNeg) (-1))), (19, (upd (h 19) (((nI (S.1.length)) : Int32).toNatClampNeg) (-1))), (20, (upd (h 20) (((nI (S.1.length)) : Int32).toNatClampNeg) 0))]) (r := (h 20)) rfl rfl]
      refine rr_aload_n 0 rfl rfl dX7_readPerson_110 ?_
      refine rr_dup rfl dX7_readPerson_111 ?_
      refine rr_getI dX7_readPerson_112 fX7_31 lo_15 sh_15 rfl ?_
      rw [show (jj_rs h [(17, (upd (h 17) (((nI (S.1.length)) : Int32).toNatClampNeg) (-1))), (18, (upd (h 18) (((nI (S.1.length)) : Int32).toNatClampNeg) (-1))), (19, (upd (h 19) (((nI (S.1.length)) : Int32).toNatClampNeg) (-1))), (20, (upd (h 20) (((nI (S.1.length)) : Int32).toNatClampNeg) 0))]) 15 = h 15 from rfl]
      refine rr_iconst 1 rfl dX7_readPerson_115 ?_
      refine rr_iadd dX7_readPerson_116 ?_
      refine rr_putI dX7_readPerson_117 fX7_31 ni7_0 lo_15 sh_15 rfl ?_
      rw [jj_rs_set (B := h) (L := [(17, (upd (h 17) (((nI (S.1.length)) : Int32).toNatClampNeg) (-1))), (18, (upd (h 18) (((nI (S.1.length)) : Int32).toNatClampNeg) (-1))), (19, (upd (h 19) (((nI (S.1.length)) : Int32).toNatClampNeg) (-1))), (20, (upd (h 20) (((nI (S.1.length)) : Int32).toNatClampNeg) 0))]) (L2 := [(15, (upd (h 15) (0) (((h 15) 0) + 1))), (17, (upd (h 17) (((nI (S.1.length)) : Int32).toNatClampNeg) (-1))), (18, (upd (h 18) (((nI (S.1.length)) : Int32).toNatClampNeg) (-1))), (19, (upd (h 19) (((nI (S.1.length)) : Int32).toNatClampNeg) (-1))), (20, (upd (h 20) (((nI (S.1.length)) : Int32).toNatClampNeg) 0))]) (r := (h 15)) rfl rfl]
      refine rr_aload_n 0 rfl rfl dX7_readPerson_120 ?_
      refine rr_getR dX7_readPerson_121 fX7_25 lo_15 sh_15 rfl ?_
      refine rr_iload_n 2 rfl rfl dX7_readPerson_124 ?_
      refine rr_iaload dX7_readPerson_125 lo_19 sh_19 (vp_in_nI (by omega) (by decide)) ?_
      rw [show (jj_rs h [(15, (upd (h 15) (0) (((h 15) 0) + 1))), (17, (upd (h 17) (((nI (S.1.length)) : Int32).toNatClampNeg) (-1))), (18, (upd (h 18) (((nI (S.1.length)) : Int32).toNatClampNeg) (-1))), (19, (upd (h 19) (((nI (S.1.length)) : Int32).toNatClampNeg) (-1))), (20, (upd (h 20) (((nI (S.1.length)) : Int32).toNatClampNeg) 0))]) 19 = (upd (h 19) (((nI (S.1.length)) : Int32).toNatClampNeg) (-1)) from rfl]
      rw [show (upd (h 19) (((nI (S.1.length)) : Int32).toNatClampNeg) (-1)) (((nI (S.1.length)) : Int32).toNatClampNeg) = (-1) from jj_ueq rfl]
      refine rr_iconst (-1) rfl dX7_readPerson_126 ?_
      refine rr_icmp_eq dX7_readPerson_127 (fun _ => ?_) (fun c => absurd (by decide) c)
      refine rr_iconst 0 rfl dX7_readPerson_134 ?_
      refine rr_nreturn dX7_readPerson_135 rfl (by first | rfl | assumption) ?_
      exact k2 k p _ rfl (cte_L m rfl)
  · skip
    rw [pb_er e1] at k2
    show jj_R _ _ kc ks (jj_S, 782, h, g) 24 [(0, .ref 15), (1, .ref 13), (2, .int (nI (S.1.length)))] [.int (-1), .int (nI (S.1.length)), .ref 16] Q
    refine rr_iastore dX7_readPerson_24 lo_16 sh_16 (vp_in_nI (by omega) (by decide)) ?_
    rw [jj_rs_set0 (B := h) (o := 16) (r := (h 16)) rfl]
    refine rr_aload_n 0 rfl rfl dX7_readPerson_25 ?_
    refine rr_getR dX7_readPerson_26 fX7_19 lo_15 sh_15 rfl ?_
    refine rr_iload_n 2 rfl rfl dX7_readPerson_29 ?_
    refine rr_aload_n 0 rfl rfl dX7_readPerson_30 ?_
    refine rr_getR dX7_readPerson_31 fX7_15 lo_15 sh_15 rfl ?_
    refine rr_iload_n 2 rfl rfl dX7_readPerson_34 ?_
    refine rr_iaload dX7_readPerson_35 lo_16 sh_16 (vp_in_nI (by omega) (by decide)) ?_
    rw [show (jj_rs h [(16, (upd (h 16) (((nI (S.1.length)) : Int32).toNatClampNeg) (-1)))]) 16 = (upd (h 16) (((nI (S.1.length)) : Int32).toNatClampNeg) (-1)) from rfl]
    rw [show (upd (h 16) (((nI (S.1.length)) : Int32).toNatClampNeg) (-1)) (((nI (S.1.length)) : Int32).toNatClampNeg) = (-1) from jj_ueq rfl]
    refine rr_iconst (-1) rfl dX7_readPerson_36 ?_
    refine rr_icmp_ne dX7_readPerson_37 (fun c => absurd c (by decide)) (fun _ => ?_)
    refine rr_iconst (-1) rfl dX7_readPerson_40 ?_
    refine rr_goto dX7_readPerson_41 ?_
    refine rr_iastore dX7_readPerson_50 lo_17 sh_17 (vp_in_nI (by omega) (by decide)) ?_
    rw [jj_rs_set (B := h) (L := [(16, (upd (h 16) (((nI (S.1.length)) : Int32).toNatClampNeg) (-1)))]) (L2 := [(16, (upd (h 16) (((nI (S.1.length)) : Int32).toNatClampNeg) (-1))), (17, (upd (h 17) (((nI (S.1.length)) : Int32).toNatClampNeg) (-1)))]) (r := (h 17)) rfl rfl]
    refine rr_aload_n 0 rfl rfl dX7_readPerson_51 ?_
    refine rr_getR dX7_readPerson_52 fX7_22 lo_15 sh_15 rfl ?_
    refine rr_iload_n 2 rfl rfl dX7_readPerson_55 ?_
    refine rr_aload_n 0 rfl rfl dX7_readPerson_56 ?_
    refine rr_getR dX7_readPerson_57 fX7_19 lo_15 sh_15 rfl ?_
    refine rr_iload_n 2 rfl rfl dX7_readPerson_60 ?_
    refine rr_iaload dX7_readPerson_61 lo_17 sh_17 (vp_in_nI (by omega) (by decide)) ?_
    rw [show (jj_rs h [(16, (upd (h 16) (((nI (S.1.length)) : Int32).toNatClampNeg) (-1))), (17, (upd (h 17) (((nI (S.1.length)) : Int32).toNatClampNeg) (-1)))]) 17 = (upd (h 17) (((nI (S.1.length)) : Int32).toNatClampNeg) (-1)) from rfl]
    rw [show (upd (h 17) (((nI (S.1.length)) : Int32).toNatClampNeg) (-1)) (((nI (S.1.length)) : Int32).toNatClampNeg) = (-1) from jj_ueq rfl]
    refine rr_iconst (-1) rfl dX7_readPerson_62 ?_
    refine rr_icmp_ne dX7_readPerson_63 (fun c => absurd c (by decide)) (fun _ => ?_)
    refine rr_iconst (-1) rfl dX7_readPerson_66 ?_
    refine rr_goto dX7_readPerson_67 ?_
    refine rr_iastore dX7_readPerson_76 lo_18 sh_18 (vp_in_nI (by omega) (by decide)) ?_
    rw [jj_rs_set (B := h) (L := [(16, (upd (h 16) (((nI (S.1.length)) : Int32).toNatClampNeg) (-1))), (17, (upd (h 17) (((nI (S.1.length)) : Int32).toNatClampNeg) (-1)))]) (L2 := [(16, (upd (h 16) (((nI (S.1.length)) : Int32).toNatClampNeg) (-1))), (17, (upd (h 17) (((nI (S.1.length)) : Int32).toNatClampNeg) (-1))), (18, (upd (h 18) (((nI (S.1.length)) : Int32).toNatClampNeg) (-1)))]) (r := (h 18)) rfl rfl]
    refine rr_aload_n 0 rfl rfl dX7_readPerson_77 ?_
    refine rr_getR dX7_readPerson_78 fX7_25 lo_15 sh_15 rfl ?_
    refine rr_iload_n 2 rfl rfl dX7_readPerson_81 ?_
    refine rr_aload_n 0 rfl rfl dX7_readPerson_82 ?_
    refine rr_getR dX7_readPerson_83 fX7_22 lo_15 sh_15 rfl ?_
    refine rr_iload_n 2 rfl rfl dX7_readPerson_86 ?_
    refine rr_iaload dX7_readPerson_87 lo_18 sh_18 (vp_in_nI (by omega) (by decide)) ?_
    rw [show (jj_rs h [(16, (upd (h 16) (((nI (S.1.length)) : Int32).toNatClampNeg) (-1))), (17, (upd (h 17) (((nI (S.1.length)) : Int32).toNatClampNeg) (-1))), (18, (upd (h 18) (((nI (S.1.length)) : Int32).toNatClampNeg) (-1)))]) 18 = (upd (h 18) (((nI (S.1.length)) : Int32).toNatClampNeg) (-1)) from rfl]
    rw [show (upd (h 18) (((nI (S.1.length)) : Int32).toNatClampNeg) (-1)) (((nI (S.1.length)) : Int32).toNatClampNeg) = (-1) from jj_ueq rfl]
    refine rr_iconst (-1) rfl dX7_readPerson_88 ?_
    refine rr_icmp_ne dX7_readPerson_89 (fun c => absurd c (by decide)) (fun _ => ?_)
    refine rr_iconst (-1) rfl dX7_readPerson_92 ?_
    refine rr_goto dX7_readPerson_93 ?_
    refine rr_iastore dX7_readPerson_102 lo_19 sh_19 (vp_in_nI (by omega) (by decide)) ?_
    rw [jj_rs_set (B := h) (L := [(16, (upd (h 16) (((nI (S.1.length)) : Int32).toNatClampNeg) (-1))), (17, (upd (h 17) (((nI (S.1.length)) : Int32).toNatClampNeg) (-1))), (18, (upd (h 18) (((nI (S.1.length)) : Int32).toNatClampNeg) (-1)))]) (L2 := [(16, (upd (h 16) (((nI (S.1.length)) : Int32).toNatClampNeg) (-1))), (17, (upd (h 17) (((nI (S.1.length)) : Int32).toNatClampNeg) (-1))), (18, (upd (h 18) (((nI (S.1.length)) : Int32).toNatClampNeg) (-1))), (19, (upd (h 19) (((nI (S.1.length)) : Int32).toNatClampNeg) (-1)))]) (r := (h 19)) rfl rfl]
    refine rr_aload_n 0 rfl rfl dX7_readPerson_103 ?_
    refine rr_getR dX7_readPerson_104 fX7_28 lo_15 sh_15 rfl ?_
    refine rr_iload_n 2 rfl rfl dX7_readPerson_107 ?_
    refine rr_iconst 0 rfl dX7_readPerson_108 ?_
    refine rr_iastore dX7_readPerson_109 lo_20 sh_20 (vp_in_nI (by omega) (by decide)) ?_
    rw [jj_rs_set (B := h) (L := [(16, (upd (h 16) (((nI (S.1.length)) : Int32).toNatClampNeg) (-1))), (17, (upd (h 17) (((nI (S.1.length)) : Int32).toNatClampNeg) (-1))), (18, (upd (h 18) (((nI (S.1.length)) : Int32).toNatClampNeg) (-1))), (19, (upd (h 19) (((nI (S.1.length)) : Int32).toNatClampNeg) (-1)))]) (L2 := [(16, (upd (h 16) (((nI (S.1.length)) : Int32).toNatClampNeg) (-1))), (17, (upd (h 17) (((nI (S.1.length)) : Int32).toNatClampNeg) (-1))), (18, (upd (h 18) (((nI (S.1.length)) : Int32).toNatClampNeg) (-1))), (19, (upd (h 19) (((nI (S.1.length)) : Int32).toNatClampNeg) (-1))), (20, (upd (h 20) (((nI (S.1.length)) : Int32).toNatClampNeg) 0))]) (r := (h 20)) rfl rfl]
    refine rr_aload_n 0 rfl rfl dX7_readPerson_110 ?_
    refine rr_dup rfl dX7_readPerson_111 ?_
    refine rr_getI dX7_readPerson_112 fX7_31 lo_15 sh_15 rfl ?_
    rw [show (jj_rs h [(16, (upd (h 16) (((nI (S.1.length)) : Int32).toNatClampNeg) (-1))), (17, (upd (h 17) (((nI (S.1.length)) : Int32).toNatClampNeg) (-1))), (18, (upd (h 18) (((nI (S.1.length)) : Int32).toNatClampNeg) (-1))), (19, (upd (h 19) (((nI (S.1.length)) : Int32).toNatClampNeg) (-1))), (20, (upd (h 20) (((nI (S.1.length)) : Int32).toNatClampNeg) 0))]) 15 = h 15 from rfl]
    refine rr_iconst 1 rfl dX7_readPerson_115 ?_
    refine rr_iadd dX7_readPerson_116 ?_
    refine rr_putI dX7_readPerson_117 fX7_31 ni7_0 lo_15 sh_15 rfl ?_
    rw [jj_rs_set (B := h) (L := [(16, (upd (h 16) (((nI (S.1.length)) : Int32).toNatClampNeg) (-1))), (17, (upd (h 17) (((nI (S.1.length)) : Int32).toNatClampNeg) (-1))), (18, (upd (h 18) (((nI (S.1.length)) : Int32).toNatClampNeg) (-1))), (19, (upd (h 19) (((nI (S.1.length)) : Int32).toNatClampNeg) (-1))), (20, (upd (h 20) (((nI (S.1.length)) : Int32).toNatClampNeg) 0))]) (L2 := [(15, (upd (h 15) (0) (((h 15) 0) + 1))), (16, (upd (h 16) (((nI (S.1.length)) : Int32).toNatClampNeg) (-1))), (17, (upd (h 17) (((nI (S.1.length)) : Int32).toNatClampNeg) (-1))), (18, (upd (h 18) (((nI (S.1.length)) : Int32).toNatClampNeg) (-1))), (19, (upd (h 19) (((nI (S.1.length)) : Int32).toNatClampNeg) (-1))), (20, (upd (h 20) (((nI (S.1.length)) : Int32).toNatClampNeg) 0))]) (r := (h 15)) rfl rfl]
    refine rr_aload_n 0 rfl rfl dX7_readPerson_120 ?_
    refine rr_getR dX7_readPerson_121 fX7_25 lo_15 sh_15 rfl ?_
    refine rr_iload_n 2 rfl rfl dX7_readPerson_124 ?_
    refine rr_iaload dX7_readPerson_125 lo_19 sh_19 (vp_in_nI (by omega) (by decide)) ?_
    rw [show (jj_rs h [(15, (upd (h 15) (0) (((h 15) 0) + 1))), (16, (upd (h 16) (((nI (S.1.length)) : Int32).toNatClampNeg) (-1))), (17, (upd (h 17) (((nI (S.1.length)) : Int32).toNatClampNeg) (-1))), (18, (upd (h 18) (((nI (S.1.length)) : Int32).toNatClampNeg) (-1))), (19, (upd (h 19) (((nI (S.1.length)) : Int32).toNatClampNeg) (-1))), (20, (upd (h 20) (((nI (S.1.length)) : Int32).toNatClampNeg) 0))]) 19 = (upd (h 19) (((nI (S.1.length)) : Int32).toNatClampNeg) (-1)) from rfl]
    rw [show (upd (h 19) (((nI (S.1.length)) : Int32).toNatClampNeg) (-1)) (((nI (S.1.length)) : Int32).toNatClampNeg) = (-1) from jj_ueq rfl]
    refine rr_iconst (-1) rfl dX7_readPerson_126 ?_
    refine rr_icmp_eq dX7_readPerson_127 (fun _ => ?_) (fun c => absurd (by decide) c)
    refine rr_iconst 0 rfl dX7_readPerson_134 ?_
    refine rr_nreturn dX7_readPerson_135 rfl (by first | rfl | assumption) ?_
    exact k2 k p _ rfl (cte_L m rfl)
set_option maxHeartbeats 2000000 in
theorem ct_friend {c : Nat → Nat} {e a D kc ks : Nat} {S : sT_} {h0 h : hp_} {g : Nat → Nat → Int64} {Q : jj_Rs → jj_St → Prop} (he6 : e ≤ 600) (hD : 3 ≤ D) (m : cts c e S [] h0 a h) (k1 : ∀ S2 b h9, pfrnd c e S a = .ok (S2, b) → a ≤ b → cts c e S2 [] h0 b h9 → Q (.inl (some (.int 1))) (jj_S, 782, h9, g)) (k2 : ∀ k p h9, pfrnd c e S a = .error (k, p) → cte h0 k p h9 → Q (.inl (some (.int 0))) (jj_S, 782, h9, g)) : jj_R mX7_readFriend D kc ks (jj_S, 782, h, g) 0 [(0, .ref 15), (1, .ref 13)] [] Q := by
  obtain ⟨d, rfl⟩ : ∃ d, D = d + 3 := ⟨D - 3, by omega⟩
  have hS8 := m.2.2.1
  unfold pfrnd at k1 k2
  refine rr_aload_n 1 rfl rfl dX7_readFriend_0 ?_
  refine rr_aload_n 0 rfl rfl dX7_readFriend_1 ?_
  refine rr_getI dX7_readFriend_2 fX7_31 lo_15 sh_15 rfl ?_
  rw [show (h 15) 0 = (nI (S.1.length)) from m.2.1]
  refine rr_iconst 1 rfl dX7_readFriend_5 ?_
  refine rr_isub dX7_readFriend_6 ?_
  refine rr_callV (As := [.int ((nI (S.1.length)) - 1)]) (rest := []) (kc2 := 0) (ks2 := 0) dX7_readFriend_7 okX5_number lX7_83 lo_13 sh_13 rfl rfl (Nat.le_of_ble_eq_true rfl) (Nat.le_of_ble_eq_true rfl) rfl (by omega) (by simp [jj_rk]) (by simp [jj_rk]) ?_
  refine cl_num (lim := S.1.length) (cts_R (Z := []) (by simp)) he6 m (by omega) rfl (by omega) (fun v1 b1 h e1 hv1 hb1 m => ?_) (fun k p h e1 m => ?_)
  · skip
    rw [pb_ok e1] at k1 k2
    have n1 : ¬ nI v1 = -1 := nI_ne1 (by omega)
    show jj_R _ _ kc ks (jj_S, 782, h, g) 10 [(0, .ref 15), (1, .ref 13)] [.int (nI v1)] Q
    refine rr_istore_n [(0, .ref 15), (1, .ref 13), (2, .int (nI v1))] dX7_readFriend_10 rfl (by decide) rfl ?_
    refine rr_iload_n 2 rfl rfl dX7_readFriend_11 ?_
    refine rr_iconst (-1) rfl dX7_readFriend_12 ?_
    refine rr_icmp_ne dX7_readFriend_13 (fun _ => ?_) (fun c => absurd c n1)
    refine rr_aload_n 1 rfl rfl dX7_readFriend_18 ?_
    refine rr_iload_n 2 rfl rfl dX7_readFriend_19 ?_
    refine rr_callV (As := [.int (nI v1)]) (rest := []) (kc2 := 0) (ks2 := 0) dX7_readFriend_20 okX5_isNumber lX7_86 lo_13 sh_13 rfl rfl (Nat.le_of_ble_eq_true rfl) (Nat.le_of_ble_eq_true rfl) rfl (by omega) (by simp [jj_rk]) (by simp [jj_rk]) ?_
    refine cl_isN (X := v1) (cts_R (by decide)) (by omega) m (fun s1 => ?_) (fun s1 => ?_)
    · skip
      have e2 : pnum c e S.1.length b1 = .ok (v1, nt c e b1) := by unfold pnum; rw [if_pos s1.1, s1.2, if_pos hv1]
      have k2e := k2 2 b1
      rw [pb_ok e2] at k2e
      dsimp only at k2e
      rw [if_pos rfl] at k2e
      show jj_R _ _ kc ks (jj_S, 782, h, g) 23 [(0, .ref 15), (1, .ref 13), (2, .int (nI v1))] [.int 1] Q
      refine rr_if_eq dX7_readFriend_23 (fun c => absurd c (by decide)) (fun _ => ?_)
      refine rr_aload_n 1 rfl rfl dX7_readFriend_26 ?_
      refine rr_iconst 2 rfl dX7_readFriend_27 ?_
      refine rr_callV (As := [.int 2]) (rest := []) (kc2 := 0) (ks2 := 0) dX7_readFriend_28 okX5_failed lX7_62 lo_13 sh_13 rfl rfl (Nat.le_of_ble_eq_true rfl) (Nat.le_of_ble_eq_true rfl) rfl (by omega) (by simp [jj_rk]) (by simp [jj_rk]) ?_
      refine cl_fail (K := 2) (cts_R (by decide)) m (by decide) (by decide) rfl (fun h m => ?_)
      show jj_R _ _ kc ks (jj_S, 782, h, g) 31 [(0, .ref 15), (1, .ref 13), (2, .int (nI v1))] [.int (-1)] Q
      refine rr_pop rfl dX7_readFriend_31 ?_
      refine rr_iconst 0 rfl dX7_readFriend_32 ?_
      refine rr_nreturn dX7_readFriend_33 rfl (by first | rfl | assumption) ?_
      exact k2e _ rfl m
    · skip
      show jj_R _ _ kc ks (jj_S, 782, h, g) 23 [(0, .ref 15), (1, .ref 13), (2, .int (nI v1))] [.int 0] Q
      refine rr_if_eq dX7_readFriend_23 (fun _ => ?_) (fun c => absurd (by decide) c)
      refine rr_aload_n 1 rfl rfl dX7_readFriend_34 ?_
      refine rr_aload_n 0 rfl rfl dX7_readFriend_35 ?_
      refine rr_getI dX7_readFriend_36 fX7_31 lo_15 sh_15 rfl ?_
      rw [show (h 15) 0 = (nI (S.1.length)) from m.2.1]
      refine rr_iconst 1 rfl dX7_readFriend_39 ?_
      refine rr_isub dX7_readFriend_40 ?_
      refine rr_callV (As := [.int ((nI (S.1.length)) - 1)]) (rest := []) (kc2 := 0) (ks2 := 0) dX7_readFriend_41 okX5_number lX7_83 lo_13 sh_13 rfl rfl (Nat.le_of_ble_eq_true rfl) (Nat.le_of_ble_eq_true rfl) rfl (by omega) (by simp [jj_rk]) (by simp [jj_rk]) ?_
      refine cl_num (lim := S.1.length) (cts_R (Z := []) (by simp)) he6 m (by omega) rfl (by omega) (fun v2 b2 h e1 hv2 hb2 m => ?_) (fun k p h e1 m => ?_)
      · skip
        rw [pb_ok e1] at k1 k2
        have n2 : ¬ nI v2 = -1 := nI_ne1 (by omega)
        have ev : ¬ v2 = v1 := fun q => by
          unfold pnum at e1
          split at e1
          · rename_i q1
            split at e1
            · rename_i q2
              have e3 := congrArg (fun z : Except (Nat × Nat) (Nat × Nat) => match z with | .ok z => z.1 | .error _ => 0) e1
              exact s1 ⟨q1, by rw [← q]; exact e3⟩
            · cases e1
          · cases e1
        dsimp only at k1
        rw [if_neg ev] at k1
        show jj_R _ _ kc ks (jj_S, 782, h, g) 44 [(0, .ref 15), (1, .ref 13), (2, .int (nI v1))] [.int (nI v2)] Q
        refine rr_istore_n [(0, .ref 15), (1, .ref 13), (2, .int (nI v1)), (3, .int (nI v2))] dX7_readFriend_44 rfl (by decide) rfl ?_
        refine rr_iload_n 3 rfl rfl dX7_readFriend_45 ?_
        refine rr_iconst (-1) rfl dX7_readFriend_46 ?_
        refine rr_icmp_ne dX7_readFriend_47 (fun _ => ?_) (fun c => absurd c n2)
        refine rr_aload_n 0 rfl rfl dX7_readFriend_52 ?_
        refine rr_getR dX7_readFriend_53 fX7_28 lo_15 sh_15 rfl ?_
        refine rr_iload_n 2 rfl rfl dX7_readFriend_56 ?_
        refine rr_dup2 rfl rfl dX7_readFriend_57 ?_
        refine rr_iaload dX7_readFriend_58 lo_20 sh_20 (vp_in_nI (by omega) (by decide)) ?_
        refine rr_iconst 1 rfl dX7_readFriend_59 ?_
        refine rr_iload_n 3 rfl rfl dX7_readFriend_60 ?_
        refine rr_ishl dX7_readFriend_61 ?_
        refine rr_ior dX7_readFriend_62 ?_
        refine rr_iastore dX7_readFriend_63 lo_20 sh_20 (vp_in_nI (by omega) (by decide)) ?_
        rw [jj_rs_set0 (B := h) (o := 20) (r := (h 20)) rfl]
        refine rr_aload_n 0 rfl rfl dX7_readFriend_64 ?_
        refine rr_getR dX7_readFriend_65 fX7_28 lo_15 sh_15 rfl ?_
        refine rr_iload_n 3 rfl rfl dX7_readFriend_68 ?_
        refine rr_dup2 rfl rfl dX7_readFriend_69 ?_
        refine rr_iaload dX7_readFriend_70 lo_20 sh_20 (vp_in_nI (by omega) (by decide)) ?_
        rw [show (jj_rs h [(20, (upd (h 20) (((nI v1) : Int32).toNatClampNeg) (((h 20) ((nI v1) : Int32).toNatClampNeg) ||| (1 <<< ((nI v2) &&& 31)))))]) 20 = (upd (h 20) (((nI v1) : Int32).toNatClampNeg) (((h 20) ((nI v1) : Int32).toNatClampNeg) ||| (1 <<< ((nI v2) &&& 31)))) from rfl]
        refine rr_iconst 1 rfl dX7_readFriend_71 ?_
        refine rr_iload_n 2 rfl rfl dX7_readFriend_72 ?_
        refine rr_ishl dX7_readFriend_73 ?_
        refine rr_ior dX7_readFriend_74 ?_
        refine rr_iastore dX7_readFriend_75 lo_20 sh_20 (vp_in_nI (by omega) (by decide)) ?_
        rw [jj_rs_set (B := h) (L := [(20, (upd (h 20) (((nI v1) : Int32).toNatClampNeg) (((h 20) ((nI v1) : Int32).toNatClampNeg) ||| (1 <<< ((nI v2) &&& 31)))))]) (L2 := [(20, (upd (upd (h 20) (((nI v1) : Int32).toNatClampNeg) (((h 20) ((nI v1) : Int32).toNatClampNeg) ||| (1 <<< ((nI v2) &&& 31)))) (((nI v2) : Int32).toNatClampNeg) (((upd (h 20) (((nI v1) : Int32).toNatClampNeg) (((h 20) ((nI v1) : Int32).toNatClampNeg) ||| (1 <<< ((nI v2) &&& 31)))) ((nI v2) : Int32).toNatClampNeg) ||| (1 <<< ((nI v1) &&& 31)))))]) (r := (upd (h 20) (((nI v1) : Int32).toNatClampNeg) (((h 20) ((nI v1) : Int32).toNatClampNeg) ||| (1 <<< ((nI v2) &&& 31))))) rfl rfl]
        refine rr_iconst 1 rfl dX7_readFriend_76 ?_
        refine rr_nreturn dX7_readFriend_77 rfl (by first | rfl | assumption) ?_
        exact k1 _ b2 _ rfl (by omega) (cts_f m hv1 hv2)
      · skip
        rw [pb_er e1] at k2
        show jj_R _ _ kc ks (jj_S, 782, h, g) 44 [(0, .ref 15), (1, .ref 13), (2, .int (nI v1))] [.int (-1)] Q
        refine rr_istore_n [(0, .ref 15), (1, .ref 13), (2, .int (nI v1)), (3, .int (-1))] dX7_readFriend_44 rfl (by decide) rfl ?_
        refine rr_iload_n 3 rfl rfl dX7_readFriend_45 ?_
        refine rr_iconst (-1) rfl dX7_readFriend_46 ?_
        refine rr_icmp_ne dX7_readFriend_47 (fun c => absurd c (by decide)) (fun _ => ?_)
        refine rr_iconst 0 rfl dX7_readFriend_50 ?_
        refine rr_nreturn dX7_readFriend_51 rfl (by first | rfl | assumption) ?_
        exact k2 k p _ rfl m
  · skip
    rw [pb_er e1] at k2
    show jj_R _ _ kc ks (jj_S, 782, h, g) 10 [(0, .ref 15), (1, .ref 13)] [.int (-1)] Q
    refine rr_istore_n [(0, .ref 15), (1, .ref 13), (2, .int (-1))] dX7_readFriend_10 rfl (by decide) rfl ?_
    refine rr_iload_n 2 rfl rfl dX7_readFriend_11 ?_
    refine rr_iconst (-1) rfl dX7_readFriend_12 ?_
    refine rr_icmp_ne dX7_readFriend_13 (fun c => absurd c (by decide)) (fun _ => ?_)
    refine rr_iconst 0 rfl dX7_readFriend_16 ?_
    refine rr_nreturn dX7_readFriend_17 rfl (by first | rfl | assumption) ?_
    exact k2 k p _ rfl m
set_option maxHeartbeats 4000000 in
theorem ct_clause {j : Nat} {tm : Int32} {c : Nat → Nat} {e a D kc ks : Nat} {S : sT_} {h0 h : hp_} {g : Nat → Nat → Int64} {Q : jj_Rs → jj_St → Prop} (he6 : e ≤ 600) (hD : 5 ≤ D) (ht : tm = if j = 60 then 1 else 0) (m : cts c e S [] h0 a h) (hk2 : kd c e a = 2) (k1 : ∀ S2 b h9, pclause c e j S a = .ok (S2, b) → a < b → cts c e S2 [] h0 b h9 → Q (.inl (some (.int 1))) (jj_S, 782, h9, g)) (k2 : ∀ k p h9, pclause c e j S a = .error (k, p) → cte h0 k p h9 → Q (.inl (some (.int 0))) (jj_S, 782, h9, g)) : jj_R mX7_readClause D kc ks (jj_S, 782, h, g) 0 [(0, .ref 15), (1, .ref 13), (2, .int tm)] [] Q := by
  obtain ⟨d, rfl⟩ : ∃ d, D = d + 5 := ⟨D - 5, by omega⟩
  have hS := m.2.2.1
  have ntn := nt_gt (c := c) (kd_in (c := c) (e := e) (a := a) (by omega))
  refine rr_aload_n 1 rfl rfl dX7_readClause_0 ?_
  refine rr_ldcS 1 rfl dX7_readClause_1 ?_
  refine rr_callV (As := [.ref (1000000 + 1)]) (rest := []) (kc2 := 0) (ks2 := 0) dX7_readClause_3 okX5_isWord lX7_55 lo_13 sh_13 rfl rfl (Nat.le_of_ble_eq_true rfl) (Nat.le_of_ble_eq_true rfl) rfl (by omega) (by simp [jj_rk]) (by simp [jj_rk]) ?_
  refine cl_isW_1 (cts_R (by decide)) he6 m (by omega) (fun w0 => ?_) (fun w0 => ?_)
  · skip
    unfold pclause at k1 k2
    rw [if_pos w0] at k1 k2
    have hk := wis_2 w0
    show jj_R _ _ kc ks (jj_S, 782, h, g) 6 [(0, .ref 15), (1, .ref 13), (2, .int tm)] [.int 1] Q
    refine rr_istore_n [(0, .ref 15), (1, .ref 13), (2, .int tm), (3, .int 1)] dX7_readClause_6 rfl (by decide) rfl ?_
    refine rr_aload_n 1 rfl rfl dX7_readClause_7 ?_
    refine rr_ldcS 2 rfl dX7_readClause_8 ?_
    refine rr_callV (As := [.ref (1000000 + 2)]) (rest := []) (kc2 := 0) (ks2 := 0) dX7_readClause_10 okX5_isWord lX7_55 lo_13 sh_13 rfl rfl (Nat.le_of_ble_eq_true rfl) (Nat.le_of_ble_eq_true rfl) rfl (by omega) (by simp [jj_rk]) (by simp [jj_rk]) ?_
    refine cl_isW_2 (cts_R (by decide)) he6 m (by omega) (fun w1 => absurd w1 (wis_ne w0 (by decide) (by decide))) (fun w1 => ?_)
    show jj_R _ _ kc ks (jj_S, 782, h, g) 13 [(0, .ref 15), (1, .ref 13), (2, .int tm), (3, .int 1)] [.int 0] Q
    refine rr_istore [(0, .ref 15), (1, .ref 13), (2, .int tm), (3, .int 1), (4, .int 0)] dX7_readClause_13 (by decide) rfl ?_
    refine rr_iload_n 3 rfl rfl dX7_readClause_15 ?_
    refine rr_if_ne dX7_readClause_16 (fun _ => ?_) (fun c => absurd c (by decide))
    refine rr_iload_n 2 rfl rfl dX7_readClause_41 ?_
    refine rr_if_ne dX7_readClause_42 (fun c1 => ?_) (fun c1 => ?_)
    · skip
      have hz : j = 60 := by
        by_cases z : j = 60
        · exact z
        · rw [if_neg z] at ht; exact absurd ht c1
      rw [if_pos (Or.inl hz)] at k2
      refine rr_aload_n 1 rfl rfl dX7_readClause_58 ?_
      refine rr_iconst 3 rfl dX7_readClause_59 ?_
      refine rr_callV (As := [.int 3]) (rest := []) (kc2 := 0) (ks2 := 0) dX7_readClause_60 okX5_failed lX7_62 lo_13 sh_13 rfl rfl (Nat.le_of_ble_eq_true rfl) (Nat.le_of_ble_eq_true rfl) rfl (by omega) (by simp [jj_rk]) (by simp [jj_rk]) ?_
      refine cl_fail (K := 3) (cts_R (by decide)) m (by decide) (by decide) rfl (fun h m => ?_)
      show jj_R _ _ kc ks (jj_S, 782, h, g) 63 [(0, .ref 15), (1, .ref 13), (2, .int tm), (3, .int 1), (4, .int 0)] [.int (-1)] Q
      refine rr_pop rfl dX7_readClause_63 ?_
      refine rr_iconst 0 rfl dX7_readClause_64 ?_
      refine rr_nreturn dX7_readClause_65 rfl (by first | rfl | assumption) ?_
      exact k2 3 a _ rfl m
    · skip
      refine rr_iload_n 3 rfl rfl dX7_readClause_45 ?_
      refine rr_if_eq dX7_readClause_46 (fun c => absurd c (by decide)) (fun _ => ?_)
      refine rr_aload_n 0 rfl rfl dX7_readClause_49 ?_
      refine rr_getI dX7_readClause_50 fX7_31 lo_15 sh_15 rfl ?_
      rw [show (h 15) 0 = (nI (S.1.length)) from m.2.1]
      refine rr_bipush 8 rfl dX7_readClause_53 ?_
      refine rr_icmp_lt dX7_readClause_55 (fun c2 => ?_) (fun c2 => ?_)
      · skip
        have hj60 : ¬ j = 60 := fun z => by
          rw [if_pos z] at ht
          rw [ht] at c1
          exact absurd c1 (by decide)
        have hS8 : S.1.length < 8 := (nI_ltI (b := 8) (by omega) (by decide)).mp c2
        rw [if_neg (by omega), ppers_eq] at k1 k2
        refine rr_aload_n 1 rfl rfl dX7_readClause_66 ?_
        refine rr_callV (As := []) (rest := []) (kc2 := 0) (ks2 := 0) dX7_readClause_67 okX5_advance lX7_66 lo_13 sh_13 rfl rfl (Nat.le_of_ble_eq_true rfl) (Nat.le_of_ble_eq_true rfl) rfl (by omega) (by simp [jj_rk]) (by simp [jj_rk]) ?_
        refine cl_adv (cts_R (by decide)) he6 m (by omega) (fun h m => ?_)
        show jj_R _ _ kc ks (jj_S, 782, h, g) 70 [(0, .ref 15), (1, .ref 13), (2, .int tm), (3, .int 1), (4, .int 0)] [] Q
        refine rr_iload_n 3 rfl rfl dX7_readClause_70 ?_
        refine rr_if_eq dX7_readClause_71 (fun c => absurd c (by decide)) (fun _ => ?_)
        refine rr_aload_n 0 rfl rfl dX7_readClause_74 ?_
        refine rr_aload_n 1 rfl rfl dX7_readClause_75 ?_
        refine rr_callV (As := [.ref 13]) (rest := []) (kc2 := 0) (ks2 := 0) dX7_readClause_76 okX7_readPerson lX7_69 lo_15 sh_15 rfl rfl (Nat.le_of_ble_eq_true rfl) (Nat.le_of_ble_eq_true rfl) rfl (by omega) (by simp [jj_rk]) (by simp [jj_rk]) ?_
        refine ct_person he6 (by omega) hS8 m (fun z1 b1 h e1 hb1 m => ?_) (fun k p h e1 m => ?_)
        · skip
          rw [pb_ok e1] at k1 k2
          show jj_R _ _ kc ks (jj_S, 782, h, g) 79 [(0, .ref 15), (1, .ref 13), (2, .int tm), (3, .int 1), (4, .int 0)] [.int 1] Q
          refine rr_goto dX7_readClause_79 ?_
          refine rr_istore [(0, .ref 15), (1, .ref 13), (2, .int tm), (3, .int 1), (4, .int 0), (5, .int 1)] dX7_readClause_100 (by decide) rfl ?_
          refine rr_iload 5 rfl dX7_readClause_102 ?_
          refine rr_if_eq dX7_readClause_104 (fun c => absurd c (by decide)) (fun _ => ?_)
          refine rr_aload_n 1 rfl rfl dX7_readClause_107 ?_
          refine rr_bipush 59 rfl dX7_readClause_108 ?_
          refine rr_callV (As := [.int 59]) (rest := []) (kc2 := 0) (ks2 := 0) dX7_readClause_110 okX5_passSign lX7_79 lo_13 sh_13 rfl rfl (Nat.le_of_ble_eq_true rfl) (Nat.le_of_ble_eq_true rfl) rfl (by omega) (by simp [jj_rk]) (by simp [jj_rk]) ?_
          refine cl_sign (X := 59) (cts_R (by decide)) he6 (by decide) m (by omega) (fun b9 h e1 hb9 m => ?_) (fun k p h e1 m => ?_)
          · skip
            rw [pb_ok e1] at k1 k2
            show jj_R _ _ kc ks (jj_S, 782, h, g) 113 [(0, .ref 15), (1, .ref 13), (2, .int tm), (3, .int 1), (4, .int 0), (5, .int 1)] [.int 1] Q
            refine rr_if_eq dX7_readClause_113 (fun c => absurd c (by decide)) (fun _ => ?_)
            refine rr_iconst 1 rfl dX7_readClause_116 ?_
            refine rr_goto dX7_readClause_117 ?_
            refine rr_nreturn dX7_readClause_121 rfl (by first | rfl | assumption) ?_
            exact k1 _ b9 _ rfl (by omega) m
          · skip
            rw [pb_er e1] at k2
            show jj_R _ _ kc ks (jj_S, 782, h, g) 113 [(0, .ref 15), (1, .ref 13), (2, .int tm), (3, .int 1), (4, .int 0), (5, .int 1)] [.int 0] Q
            refine rr_if_eq dX7_readClause_113 (fun _ => ?_) (fun c => absurd (by decide) c)
            refine rr_iconst 0 rfl dX7_readClause_120 ?_
            refine rr_nreturn dX7_readClause_121 rfl (by first | rfl | assumption) ?_
            exact k2 k p _ rfl m
        · skip
          rw [pb_er e1] at k2
          show jj_R _ _ kc ks (jj_S, 782, h, g) 79 [(0, .ref 15), (1, .ref 13), (2, .int tm), (3, .int 1), (4, .int 0)] [.int 0] Q
          refine rr_goto dX7_readClause_79 ?_
          refine rr_istore [(0, .ref 15), (1, .ref 13), (2, .int tm), (3, .int 1), (4, .int 0), (5, .int 0)] dX7_readClause_100 (by decide) rfl ?_
          refine rr_iload 5 rfl dX7_readClause_102 ?_
          refine rr_if_eq dX7_readClause_104 (fun _ => ?_) (fun c => absurd (by decide) c)
          refine rr_iconst 0 rfl dX7_readClause_120 ?_
          refine rr_nreturn dX7_readClause_121 rfl (by first | rfl | assumption) ?_
          exact k2 k p _ rfl m
      · skip
        have hz : S.1.length = 8 := by
          rcases Nat.lt_or_ge S.1.length 8 with z | z
          · exact absurd (nI_lt z (by decide)) c2
          · omega
        rw [if_pos (Or.inr hz)] at k2
        refine rr_aload_n 1 rfl rfl dX7_readClause_58 ?_
        refine rr_iconst 3 rfl dX7_readClause_59 ?_
        refine rr_callV (As := [.int 3]) (rest := []) (kc2 := 0) (ks2 := 0) dX7_readClause_60 okX5_failed lX7_62 lo_13 sh_13 rfl rfl (Nat.le_of_ble_eq_true rfl) (Nat.le_of_ble_eq_true rfl) rfl (by omega) (by simp [jj_rk]) (by simp [jj_rk]) ?_
        refine cl_fail (K := 3) (cts_R (by decide)) m (by decide) (by decide) rfl (fun h m => ?_)
        show jj_R _ _ kc ks (jj_S, 782, h, g) 63 [(0, .ref 15), (1, .ref 13), (2, .int tm), (3, .int 1), (4, .int 0)] [.int (-1)] Q
        refine rr_pop rfl dX7_readClause_63 ?_
        refine rr_iconst 0 rfl dX7_readClause_64 ?_
        refine rr_nreturn dX7_readClause_65 rfl (by first | rfl | assumption) ?_
        exact k2 3 a _ rfl m
  · skip
    show jj_R _ _ kc ks (jj_S, 782, h, g) 6 [(0, .ref 15), (1, .ref 13), (2, .int tm)] [.int 0] Q
    refine rr_istore_n [(0, .ref 15), (1, .ref 13), (2, .int tm), (3, .int 0)] dX7_readClause_6 rfl (by decide) rfl ?_
    refine rr_aload_n 1 rfl rfl dX7_readClause_7 ?_
    refine rr_ldcS 2 rfl dX7_readClause_8 ?_
    refine rr_callV (As := [.ref (1000000 + 2)]) (rest := []) (kc2 := 0) (ks2 := 0) dX7_readClause_10 okX5_isWord lX7_55 lo_13 sh_13 rfl rfl (Nat.le_of_ble_eq_true rfl) (Nat.le_of_ble_eq_true rfl) rfl (by omega) (by simp [jj_rk]) (by simp [jj_rk]) ?_
    refine cl_isW_2 (cts_R (by decide)) he6 m (by omega) (fun w1 => ?_) (fun w1 => ?_)
    · skip
      unfold pclause at k1 k2
      rw [if_neg w0, if_pos w1] at k1 k2
      have hk := wis_2 w1
      show jj_R _ _ kc ks (jj_S, 782, h, g) 13 [(0, .ref 15), (1, .ref 13), (2, .int tm), (3, .int 0)] [.int 1] Q
      refine rr_istore [(0, .ref 15), (1, .ref 13), (2, .int tm), (3, .int 0), (4, .int 1)] dX7_readClause_13 (by decide) rfl ?_
      refine rr_iload_n 3 rfl rfl dX7_readClause_15 ?_
      refine rr_if_ne dX7_readClause_16 (fun c => absurd c (by decide)) (fun _ => ?_)
      refine rr_iload 4 rfl dX7_readClause_19 ?_
      refine rr_if_ne dX7_readClause_21 (fun _ => ?_) (fun c => absurd c (by decide))
      refine rr_iload_n 2 rfl rfl dX7_readClause_41 ?_
      refine rr_if_ne dX7_readClause_42 (fun c3 => ?_) (fun c3 => ?_)
      · skip
        have hz : j = 60 := by
          by_cases z : j = 60
          · exact z
          · rw [if_neg z] at ht; exact absurd ht c3
        rw [if_pos hz] at k2
        refine rr_aload_n 1 rfl rfl dX7_readClause_58 ?_
        refine rr_iconst 3 rfl dX7_readClause_59 ?_
        refine rr_callV (As := [.int 3]) (rest := []) (kc2 := 0) (ks2 := 0) dX7_readClause_60 okX5_failed lX7_62 lo_13 sh_13 rfl rfl (Nat.le_of_ble_eq_true rfl) (Nat.le_of_ble_eq_true rfl) rfl (by omega) (by simp [jj_rk]) (by simp [jj_rk]) ?_
        refine cl_fail (K := 3) (cts_R (by decide)) m (by decide) (by decide) rfl (fun h m => ?_)
        show jj_R _ _ kc ks (jj_S, 782, h, g) 63 [(0, .ref 15), (1, .ref 13), (2, .int tm), (3, .int 0), (4, .int 1)] [.int (-1)] Q
        refine rr_pop rfl dX7_readClause_63 ?_
        refine rr_iconst 0 rfl dX7_readClause_64 ?_
        refine rr_nreturn dX7_readClause_65 rfl (by first | rfl | assumption) ?_
        exact k2 3 a _ rfl m
      · skip
        refine rr_iload_n 3 rfl rfl dX7_readClause_45 ?_
        refine rr_if_eq dX7_readClause_46 (fun _ => ?_) (fun c => absurd (by decide) c)
        have hj60 : ¬ j = 60 := fun z => by
          rw [if_pos z] at ht
          rw [ht] at c3
          exact absurd c3 (by decide)
        rw [if_neg hj60] at k1 k2
        refine rr_aload_n 1 rfl rfl dX7_readClause_66 ?_
        refine rr_callV (As := []) (rest := []) (kc2 := 0) (ks2 := 0) dX7_readClause_67 okX5_advance lX7_66 lo_13 sh_13 rfl rfl (Nat.le_of_ble_eq_true rfl) (Nat.le_of_ble_eq_true rfl) rfl (by omega) (by simp [jj_rk]) (by simp [jj_rk]) ?_
        refine cl_adv (cts_R (by decide)) he6 m (by omega) (fun h m => ?_)
        show jj_R _ _ kc ks (jj_S, 782, h, g) 70 [(0, .ref 15), (1, .ref 13), (2, .int tm), (3, .int 0), (4, .int 1)] [] Q
        refine rr_iload_n 3 rfl rfl dX7_readClause_70 ?_
        refine rr_if_eq dX7_readClause_71 (fun _ => ?_) (fun c => absurd (by decide) c)
        refine rr_iload 4 rfl dX7_readClause_82 ?_
        refine rr_if_eq dX7_readClause_84 (fun c => absurd c (by decide)) (fun _ => ?_)
        refine rr_aload_n 0 rfl rfl dX7_readClause_87 ?_
        refine rr_aload_n 1 rfl rfl dX7_readClause_88 ?_
        refine rr_callV (As := [.ref 13]) (rest := []) (kc2 := 0) (ks2 := 0) dX7_readClause_89 okX7_readFriend lX7_73 lo_15 sh_15 rfl rfl (Nat.le_of_ble_eq_true rfl) (Nat.le_of_ble_eq_true rfl) rfl (by omega) (by simp [jj_rk]) (by simp [jj_rk]) ?_
        refine ct_friend he6 (by omega) m (fun S2 b1 h e1 hb1 m => ?_) (fun k p h e1 m => ?_)
        · skip
          rw [pb_ok e1] at k1 k2
          show jj_R _ _ kc ks (jj_S, 782, h, g) 92 [(0, .ref 15), (1, .ref 13), (2, .int tm), (3, .int 0), (4, .int 1)] [.int 1] Q
          refine rr_goto dX7_readClause_92 ?_
          refine rr_istore [(0, .ref 15), (1, .ref 13), (2, .int tm), (3, .int 0), (4, .int 1), (5, .int 1)] dX7_readClause_100 (by decide) rfl ?_
          refine rr_iload 5 rfl dX7_readClause_102 ?_
          refine rr_if_eq dX7_readClause_104 (fun c => absurd c (by decide)) (fun _ => ?_)
          refine rr_aload_n 1 rfl rfl dX7_readClause_107 ?_
          refine rr_bipush 59 rfl dX7_readClause_108 ?_
          refine rr_callV (As := [.int 59]) (rest := []) (kc2 := 0) (ks2 := 0) dX7_readClause_110 okX5_passSign lX7_79 lo_13 sh_13 rfl rfl (Nat.le_of_ble_eq_true rfl) (Nat.le_of_ble_eq_true rfl) rfl (by omega) (by simp [jj_rk]) (by simp [jj_rk]) ?_
          refine cl_sign (X := 59) (cts_R (by decide)) he6 (by decide) m (by omega) (fun b9 h e1 hb9 m => ?_) (fun k p h e1 m => ?_)
          · skip
            rw [pb_ok e1] at k1 k2
            show jj_R _ _ kc ks (jj_S, 782, h, g) 113 [(0, .ref 15), (1, .ref 13), (2, .int tm), (3, .int 0), (4, .int 1), (5, .int 1)] [.int 1] Q
            refine rr_if_eq dX7_readClause_113 (fun c => absurd c (by decide)) (fun _ => ?_)
            refine rr_iconst 1 rfl dX7_readClause_116 ?_
            refine rr_goto dX7_readClause_117 ?_
            refine rr_nreturn dX7_readClause_121 rfl (by first | rfl | assumption) ?_
            exact k1 _ b9 _ rfl (by omega) m
          · skip
            rw [pb_er e1] at k2
            show jj_R _ _ kc ks (jj_S, 782, h, g) 113 [(0, .ref 15), (1, .ref 13), (2, .int tm), (3, .int 0), (4, .int 1), (5, .int 1)] [.int 0] Q
            refine rr_if_eq dX7_readClause_113 (fun _ => ?_) (fun c => absurd (by decide) c)
            refine rr_iconst 0 rfl dX7_readClause_120 ?_
            refine rr_nreturn dX7_readClause_121 rfl (by first | rfl | assumption) ?_
            exact k2 k p _ rfl m
        · skip
          rw [pb_er e1] at k2
          show jj_R _ _ kc ks (jj_S, 782, h, g) 92 [(0, .ref 15), (1, .ref 13), (2, .int tm), (3, .int 0), (4, .int 1)] [.int 0] Q
          refine rr_goto dX7_readClause_92 ?_
          refine rr_istore [(0, .ref 15), (1, .ref 13), (2, .int tm), (3, .int 0), (4, .int 1), (5, .int 0)] dX7_readClause_100 (by decide) rfl ?_
          refine rr_iload 5 rfl dX7_readClause_102 ?_
          refine rr_if_eq dX7_readClause_104 (fun _ => ?_) (fun c => absurd (by decide) c)
          refine rr_iconst 0 rfl dX7_readClause_120 ?_
          refine rr_nreturn dX7_readClause_121 rfl (by first | rfl | assumption) ?_
          exact k2 k p _ rfl m
    · skip
      show jj_R _ _ kc ks (jj_S, 782, h, g) 13 [(0, .ref 15), (1, .ref 13), (2, .int tm), (3, .int 0)] [.int 0] Q
      refine rr_istore [(0, .ref 15), (1, .ref 13), (2, .int tm), (3, .int 0), (4, .int 0)] dX7_readClause_13 (by decide) rfl ?_
      refine rr_iload_n 3 rfl rfl dX7_readClause_15 ?_
      refine rr_if_ne dX7_readClause_16 (fun c => absurd c (by decide)) (fun _ => ?_)
      refine rr_iload 4 rfl dX7_readClause_19 ?_
      refine rr_if_ne dX7_readClause_21 (fun c => absurd c (by decide)) (fun _ => ?_)
      refine rr_aload_n 1 rfl rfl dX7_readClause_24 ?_
      refine rr_ldcS 3 rfl dX7_readClause_25 ?_
      refine rr_callV (As := [.ref (1000000 + 3)]) (rest := []) (kc2 := 0) (ks2 := 0) dX7_readClause_27 okX5_isWord lX7_55 lo_13 sh_13 rfl rfl (Nat.le_of_ble_eq_true rfl) (Nat.le_of_ble_eq_true rfl) rfl (by omega) (by simp [jj_rk]) (by simp [jj_rk]) ?_
      refine cl_isW_3 (cts_R (by decide)) he6 m (by omega) (fun w2 => ?_) (fun w2 => ?_)
      · skip
        unfold pclause at k1 k2
        rw [if_neg w0, if_neg w1, if_pos w2] at k1 k2
        have hk := wis_2 w2
        show jj_R _ _ kc ks (jj_S, 782, h, g) 30 [(0, .ref 15), (1, .ref 13), (2, .int tm), (3, .int 0), (4, .int 0)] [.int 1] Q
        refine rr_if_ne dX7_readClause_30 (fun _ => ?_) (fun c => absurd c (by decide))
        refine rr_iload_n 2 rfl rfl dX7_readClause_41 ?_
        refine rr_if_ne dX7_readClause_42 (fun c4 => ?_) (fun c4 => ?_)
        · skip
          have hz : j = 60 := by
            by_cases z : j = 60
            · exact z
            · rw [if_neg z] at ht; exact absurd ht c4
          rw [if_pos hz] at k2
          refine rr_aload_n 1 rfl rfl dX7_readClause_58 ?_
          refine rr_iconst 3 rfl dX7_readClause_59 ?_
          refine rr_callV (As := [.int 3]) (rest := []) (kc2 := 0) (ks2 := 0) dX7_readClause_60 okX5_failed lX7_62 lo_13 sh_13 rfl rfl (Nat.le_of_ble_eq_true rfl) (Nat.le_of_ble_eq_true rfl) rfl (by omega) (by simp [jj_rk]) (by simp [jj_rk]) ?_
          refine cl_fail (K := 3) (cts_R (by decide)) m (by decide) (by decide) rfl (fun h m => ?_)
          show jj_R _ _ kc ks (jj_S, 782, h, g) 63 [(0, .ref 15), (1, .ref 13), (2, .int tm), (3, .int 0), (4, .int 0)] [.int (-1)] Q
          refine rr_pop rfl dX7_readClause_63 ?_
          refine rr_iconst 0 rfl dX7_readClause_64 ?_
          refine rr_nreturn dX7_readClause_65 rfl (by first | rfl | assumption) ?_
          exact k2 3 a _ rfl m
        · skip
          refine rr_iload_n 3 rfl rfl dX7_readClause_45 ?_
          refine rr_if_eq dX7_readClause_46 (fun _ => ?_) (fun c => absurd (by decide) c)
          have hj60 : ¬ j = 60 := fun z => by
            rw [if_pos z] at ht
            rw [ht] at c4
            exact absurd c4 (by decide)
          rw [if_neg hj60] at k1 k2
          refine rr_aload_n 1 rfl rfl dX7_readClause_66 ?_
          refine rr_callV (As := []) (rest := []) (kc2 := 0) (ks2 := 0) dX7_readClause_67 okX5_advance lX7_66 lo_13 sh_13 rfl rfl (Nat.le_of_ble_eq_true rfl) (Nat.le_of_ble_eq_true rfl) rfl (by omega) (by simp [jj_rk]) (by simp [jj_rk]) ?_
          refine cl_adv (cts_R (by decide)) he6 m (by omega) (fun h m => ?_)
          show jj_R _ _ kc ks (jj_S, 782, h, g) 70 [(0, .ref 15), (1, .ref 13), (2, .int tm), (3, .int 0), (4, .int 0)] [] Q
          refine rr_iload_n 3 rfl rfl dX7_readClause_70 ?_
          refine rr_if_eq dX7_readClause_71 (fun _ => ?_) (fun c => absurd (by decide) c)
          refine rr_iload 4 rfl dX7_readClause_82 ?_
          refine rr_if_eq dX7_readClause_84 (fun _ => ?_) (fun c => absurd (by decide) c)
          refine rr_aload_n 0 rfl rfl dX7_readClause_95 ?_
          refine rr_aload_n 1 rfl rfl dX7_readClause_96 ?_
          refine rr_callV (As := [.ref 13]) (rest := []) (kc2 := 0) (ks2 := 0) dX7_readClause_97 okX7_readString lX7_76 lo_15 sh_15 rfl rfl (Nat.le_of_ble_eq_true rfl) (Nat.le_of_ble_eq_true rfl) rfl (by omega) (by simp [jj_rk]) (by simp [jj_rk]) ?_
          refine ct_string he6 (by omega) m (fun v1 b1 h e1 hb1 m => ?_) (fun k p h e1 m => ?_)
          · skip
            have e1 : pnum c e 100 (nt c e a) = .ok (v1, b1) := by
              obtain ⟨z, q1, q2⟩ := pb_inv e1
              cases q2
              exact q1
            rw [pb_ok e1] at k1 k2
            show jj_R _ _ kc ks (jj_S, 782, h, g) 100 [(0, .ref 15), (1, .ref 13), (2, .int tm), (3, .int 0), (4, .int 0)] [.int 1] Q
            refine rr_istore [(0, .ref 15), (1, .ref 13), (2, .int tm), (3, .int 0), (4, .int 0), (5, .int 1)] dX7_readClause_100 (by decide) rfl ?_
            refine rr_iload 5 rfl dX7_readClause_102 ?_
            refine rr_if_eq dX7_readClause_104 (fun c => absurd c (by decide)) (fun _ => ?_)
            refine rr_aload_n 1 rfl rfl dX7_readClause_107 ?_
            refine rr_bipush 59 rfl dX7_readClause_108 ?_
            refine rr_callV (As := [.int 59]) (rest := []) (kc2 := 0) (ks2 := 0) dX7_readClause_110 okX5_passSign lX7_79 lo_13 sh_13 rfl rfl (Nat.le_of_ble_eq_true rfl) (Nat.le_of_ble_eq_true rfl) rfl (by omega) (by simp [jj_rk]) (by simp [jj_rk]) ?_
            refine cl_sign (X := 59) (cts_R (by decide)) he6 (by decide) m (by omega) (fun b9 h e1 hb9 m => ?_) (fun k p h e1 m => ?_)
            · skip
              rw [pb_ok e1] at k1 k2
              show jj_R _ _ kc ks (jj_S, 782, h, g) 113 [(0, .ref 15), (1, .ref 13), (2, .int tm), (3, .int 0), (4, .int 0), (5, .int 1)] [.int 1] Q
              refine rr_if_eq dX7_readClause_113 (fun c => absurd c (by decide)) (fun _ => ?_)
              refine rr_iconst 1 rfl dX7_readClause_116 ?_
              refine rr_goto dX7_readClause_117 ?_
              refine rr_nreturn dX7_readClause_121 rfl (by first | rfl | assumption) ?_
              exact k1 _ b9 _ rfl (by omega) m
            · skip
              rw [pb_er e1] at k2
              show jj_R _ _ kc ks (jj_S, 782, h, g) 113 [(0, .ref 15), (1, .ref 13), (2, .int tm), (3, .int 0), (4, .int 0), (5, .int 1)] [.int 0] Q
              refine rr_if_eq dX7_readClause_113 (fun _ => ?_) (fun c => absurd (by decide) c)
              refine rr_iconst 0 rfl dX7_readClause_120 ?_
              refine rr_nreturn dX7_readClause_121 rfl (by first | rfl | assumption) ?_
              exact k2 k p _ rfl m
          · skip
            have e1 : pnum c e 100 (nt c e a) = .error (k, p) := by
              revert e1
              cases pnum c e 100 (nt c e a) with
              | error z => exact fun q => by cases q; rfl
              | ok z => exact fun q => by cases q
            rw [pb_er e1] at k2
            show jj_R _ _ kc ks (jj_S, 782, h, g) 100 [(0, .ref 15), (1, .ref 13), (2, .int tm), (3, .int 0), (4, .int 0)] [.int 0] Q
            refine rr_istore [(0, .ref 15), (1, .ref 13), (2, .int tm), (3, .int 0), (4, .int 0), (5, .int 0)] dX7_readClause_100 (by decide) rfl ?_
            refine rr_iload 5 rfl dX7_readClause_102 ?_
            refine rr_if_eq dX7_readClause_104 (fun _ => ?_) (fun c => absurd (by decide) c)
            refine rr_iconst 0 rfl dX7_readClause_120 ?_
            refine rr_nreturn dX7_readClause_121 rfl (by first | rfl | assumption) ?_
            exact k2 k p _ rfl m
      · skip
        unfold pclause at k1 k2
        rw [if_neg w0, if_neg w1, if_neg w2] at k2
        show jj_R _ _ kc ks (jj_S, 782, h, g) 30 [(0, .ref 15), (1, .ref 13), (2, .int tm), (3, .int 0), (4, .int 0)] [.int 0] Q
        refine rr_if_ne dX7_readClause_30 (fun c => absurd c (by decide)) (fun _ => ?_)
        refine rr_aload_n 1 rfl rfl dX7_readClause_33 ?_
        refine rr_iconst 1 rfl dX7_readClause_34 ?_
        refine rr_callV (As := [.int 1]) (rest := []) (kc2 := 0) (ks2 := 0) dX7_readClause_35 okX5_failed lX7_62 lo_13 sh_13 rfl rfl (Nat.le_of_ble_eq_true rfl) (Nat.le_of_ble_eq_true rfl) rfl (by omega) (by simp [jj_rk]) (by simp [jj_rk]) ?_
        refine cl_fail (K := 1) (cts_R (by decide)) m (by decide) (by decide) rfl (fun h m => ?_)
        show jj_R _ _ kc ks (jj_S, 782, h, g) 38 [(0, .ref 15), (1, .ref 13), (2, .int tm), (3, .int 0), (4, .int 0)] [.int (-1)] Q
        refine rr_pop rfl dX7_readClause_38 ?_
        refine rr_iconst 0 rfl dX7_readClause_39 ?_
        refine rr_nreturn dX7_readClause_40 rfl (by first | rfl | assumption) ?_
        exact k2 1 a _ rfl m
