/-! ===== questions: conditions ===== -/
theorem in_if {α : Type} {v a b : Int32} {X Y : α} : (if vX10_in v a b = 0 then X else Y) = if v < a then X else if b < v then X else Y := by
  unfold vX10_in
  by_cases c : v < a
  · rw [if_pos c, if_pos c, if_pos rfl]
  · rw [if_neg c, if_neg c]
    by_cases d : b < v
    · rw [if_pos d, if_pos d, if_pos rfl]
    · rw [if_neg d, if_neg d, if_neg (by decide)]
theorem two_if {α : Type} {n : Nat} {a b : Int32} {X Y : α} : (if vX10_areTwo n a b = 0 then X else Y) = if vX10_isPerson n a = 0 then X else if vX10_isPerson n b = 0 then X else Y := by
  unfold vX10_areTwo
  by_cases c : vX10_isPerson n a = 0
  · rw [if_pos c, if_pos c, if_pos rfl]
  · rw [if_neg c, if_neg c]
    by_cases d : vX10_isPerson n b = 0
    · rw [if_pos d, if_pos d, if_pos rfl]
    · rw [if_neg d, if_neg d, if_neg (by decide)]
theorem e_pers {r1 : Nat → Int32} {n : Nat} (h : r1 0 = nI n) (hn : n ≤ 8) (p : Int32) : vX9_isPerson r1 p = vX10_isPerson n p := by
  unfold vX9_isPerson vX10_isPerson vX10_in
  rw [h]
  by_cases c : p < 0
  · rw [if_pos c, if_pos c]
  · rw [if_neg c, if_neg c]
    obtain ⟨j, hj, rfl⟩ := nI_of c
    cases n with
    | zero =>
      rw [if_pos (show nI 0 ≤ nI j from nI_pos' hj), if_pos]
      show (-1 : Int32) < nI j
      rw [Int32.lt_iff_toInt_lt, nI_toInt hj]
      have : (-1 : Int32).toInt = -1 := by decide
      omega
    | succ k =>
      rw [nI_pred]
      by_cases d : k + 1 ≤ j
      · rw [if_pos (nI_le d hj), if_pos (nI_lt (show k < j by omega) hj)]
      · rw [if_neg (nI_ge (by omega) (by omega)), if_neg (nI_nlt (by omega) (by omega))]
theorem e_bit (w : Int32) : vX9_isBit w = vX10_in w 0 1 := by
  unfold vX9_isBit vX10_in
  by_cases c : w = 0
  · subst c; decide
  · rw [if_neg c]
    by_cases d : w = 1
    · subst d; decide
    · rw [if_neg d]
      by_cases e : w < 0
      · rw [if_pos e]
      · obtain ⟨j, hj, rfl⟩ := nI_of e
        have j1 : 1 < j := by
          rcases Nat.lt_or_ge 1 j with q | q
          · exact q
          · exfalso
            rcases (show j = 0 ∨ j = 1 by omega) with rfl | rfl
            · exact c rfl
            · exact d rfl
        rw [if_neg e, if_pos (show 1 < nI j from nI_lt (a := 1) j1 hj)]
theorem e_week (a q : Int32) : vX9_isWeek a q = vX10_isWeek a q := by
  unfold vX9_isWeek vX10_isWeek
  rw [in_if, in_if]
theorem sh_n : ∀ n, n ≤ 8 → (1 <<< (nI n &&& 31) : Int32) = nI (2 ^ n) := by decide +kernel
theorem e_bits {n : Nat} (hn : n ≤ 8) (v : Int32) : jj_bits n v = vX10_in v 0 (vX10_everybody n) := by
  have p2 : 2 ^ n ≤ 256 := Nat.le_trans (Nat.pow_le_pow_right (by decide) hn) (by decide)
  have p1 : 0 < 2 ^ n := Nat.pow_pos (by decide)
  unfold jj_bits vX10_in vX10_everybody
  rw [sh_n n hn]
  obtain ⟨k, hk⟩ : ∃ k, 2 ^ n = k + 1 := ⟨2 ^ n - 1, by omega⟩
  rw [hk, nI_pred]
  by_cases c : v < 0
  · rw [if_pos c, if_pos c]
  · rw [if_neg c, if_neg c]
    obtain ⟨j, hj, rfl⟩ := nI_of c
    by_cases d : k + 1 ≤ j
    · rw [if_pos (nI_le d hj), if_pos (nI_lt (show k < j by omega) hj)]
    · rw [if_neg (nI_ge (by omega) (by omega)), if_neg (nI_nlt (by omega) (by omega))]
theorem res_if {c : Prop} [Decidable c] {e : Int32} {a1 a2 : jj_Rs} {r0 z1 z2 t1 t2 r51 w1 w2 : Nat → Int32} {v1 v2 : Int32} (h1 : c → res e a1 r0 z1 (t1 0) (.int v1) r51 w1) (h2 : ¬ c → res e a2 r0 z2 (t2 0) (.int v2) r51 w2) : res e (if c then a1 else a2) r0 (if c then z1 else z2) ((if c then t1 else t2) 0) (.int (if c then v1 else v2)) r51 (if c then w1 else w2) := by
  by_cases q : c
  · simp only [if_pos q]; exact h1 q
  · simp only [if_neg q]; exact h2 q
theorem ok_if {c : Prop} [Decidable c] {x y z : Int32} {R : jj_Rs} (h1 : c → x = y) (h2 : ¬ c → R = .inl (some (.int z))) : (if c then (.inl (some (.int x)) : jj_Rs) else R) = .inl (some (.int (if c then y else z))) := by
  by_cases q : c
  · rw [if_pos q, if_pos q, h1 q]
  · rw [if_neg q, if_neg q, h2 q]
theorem ok_e {x y : Int32} (h : x = y) : (.inl (some (.int x)) : jj_Rs) = .inl (some (.int y)) := by rw [h]
theorem res_ok {e v : Int32} {r : jj_Rs} {r0 r49 r51 : Nat → Int32} (h : r = .inl (some (.int v))) (h0 : r49 0 = 0) : res e r r0 r0 (r49 0) (.int v) r51 r51 := Or.inl ⟨h, rfl, h0, rfl⟩
section
variable {c : Nat → Nat} {T n m u t : Nat} {L : bL_} {h : hp_}
theorem iv_n (I : IV c T n m u t L h) : nr (h 38) (h 39) (h 40) (h 41) (h 42) (h 497) := I.2.2.2.2.1.1
theorem iv_k (I : IV c T n m u t L h) : nok 900 (h 38) (h 39) (h 40) (h 42) := I.2.2.2.2.1.2
theorem iv_s (I : IV c T n m u t L h) : srl n (h 2) (h 3) (h 4) (h 5) (h 6) (h 73) (jj_gd h 64 8) := I.2.2.1.2.2.2.2.1
theorem iv_8 (I : IV c T n m u t L h) : n ≤ 8 := I.2.2.1.2.2.1
theorem iv_p (I : IV c T n m u t L h) (p : Int32) : vX9_isPerson (h 1) p = vX10_isPerson n p := e_pers I.2.2.1.1 (iv_8 I) p
theorem iv_xy (I : IV c T n m u t L h) : ∀ p, p < n → ∃ x y, h 4 p = nI x ∧ x ≤ 20 ∧ h 5 p = nI y ∧ y ≤ 20 := I.2.2.1.2.2.2.2.2.2
end
/-! ===== sums and sets over persons ===== -/
section
variable {r2 r3 r4 r5 r6 r8 r38 r39 r40 r41 r42 r73 r : Nat → Int32} {g64 : Nat → Nat → Int32} {n m B : Nat}
theorem t_tied (h : nr r38 r39 r40 r41 r42 r) (hn : n ≤ 8) (w : Int32) : vX6_tiedBits_n r40 n w = vX10_tiedSo_n r n w := fo_eq n 0 (fun k a hk => by
  unfold fX10_tiedSo_n_1
  rw [c8_ (by omega), (h.2 k (by omega)).2.1])
theorem t_late (h : nr r38 r39 r40 r41 r42 r) (hn : n ≤ 8) : vX6_behindBits_n r38 r39 n = vX10_late_n r n := fo_eq n 0 (fun k a hk => by
  unfold fX10_late_n_1
  rw [e_behind h (by omega)])
theorem t_lateness (h : nr r38 r39 r40 r41 r42 r) (hn : n ≤ 8) : vX6_behindTogether_n r38 r39 n = vX10_lateness_n r n := fo_eq n 0 (fun k a hk => by
  unfold fX10_lateness_n_1
  rw [e_behind h (by omega)])
theorem t_slips (h : nr r38 r39 r40 r41 r42 r) (hn : n ≤ 8) : vX6_slipsTogether_n r41 n = vX10_slipsOf_n r n := fo_eq n 0 (fun k a hk => by
  unfold fX10_slipsOf_n_1
  rw [c16_ (by omega), (h.2 k (by omega)).2.2.1])
theorem t_inDay (h : nr r38 r39 r40 r41 r42 r) (hn : n ≤ 8) (w : Int32) : vX6_bitsInDay_n r39 n w = vX10_inDay r n w := fo_eq n 0 (fun k a hk => by
  unfold fX10_inDay_1
  rw [c0_ (by omega), (h.2 k (by omega)).1])
theorem t_off (a b : Nat) (ha : a ≤ 20) (hb : b ≤ 20) : (if 0 ≤ (nI a - nI b) then (nI a - nI b) else 0 - (nI a - nI b)) = vX10_off (nI a) (nI b) := by
  have key : ∀ a, a ≤ 20 → ∀ b, b ≤ 20 → (if 0 ≤ (nI a - nI b) then (nI a - nI b) else 0 - (nI a - nI b)) = vX10_off (nI a) (nI b) := by decide +kernel
  exact key a ha b hb
theorem t_way (hs : srl n r2 r3 r4 r5 r6 r73 g64) (hx : ∀ p, p < n → ∃ x y, r4 p = nI x ∧ x ≤ 20 ∧ r5 p = nI y ∧ y ≤ 20) (hn : n ≤ 8) {a b : Nat} (ha : a < n) (hb : b < n) : vX7_wayBetween r4 r5 (nI a) (nI b) = vX10_way g64 (nI a) (nI b) := by
  obtain ⟨x1, y1, p1, p2, p3, p4⟩ := hx a ha
  obtain ⟨x2, y2, q1, q2, q3, q4⟩ := hx b hb
  unfold vX7_wayBetween vX10_way
  rw [cl_ (show a < 8 by omega), cl_ (show b < 8 by omega), (hs a ha).2.2.1, (hs a ha).2.2.2.1, (hs b hb).2.2.1, (hs b hb).2.2.2.1, p1, p3, q1, q3, t_off _ _ p2 q2, t_off _ _ p4 q4]
end
theorem and1_0 {x : Int32} (h : ¬ x &&& 1 = 1) : x &&& 1 = 0 := by
  refine b_ext (fun i hi => ?_)
  rw [b_and, b_0]
  by_cases e : i = 0
  · subst e
    have : ¬ bt x 0 = true := fun q => h ((bt_one x).mpr q)
    simp at this
    rw [this]; rfl
  · have : bt 1 i = false := by
      have key : ∀ i, i < 32 → ¬ i = 0 → bt 1 i = false := by decide +kernel
      exact key i hi e
    rw [this, Bool.and_false]
theorem hand_1 {r : Nat → Int32} {a b : Int32} (h : ¬ vX10_isHand_n r a b = 0) : vX10_isHand_n r a b = 1 := by
  unfold vX10_isHand_n at h ⊢
  split
  · rfl
  · split
    · rename_i c d; rw [if_neg c, if_pos d] at h; exact absurd rfl h
    · rfl
theorem q_told {c : Nat → Nat} {T n m u t : Nat} {L : bL_} {h : hp_} (I : IV c T n m u t L h) (w : Int32) : res 1 (vX9_told (h 0) (h 1) (h 25) (h 38) (h 39) (h 40) (h 41) n w) (h 0) (rX9_told_0 (h 0) (h 1) (h 25) (h 38) (h 39) (h 40) (h 41) n w) ((rX10_told_49 (h 49) (h 51) (h 53) (h 497) n w) 0) (.int (vX10_told (h 49) (h 51) (h 53) (h 497) n w)) (h 51) (rX10_told_51 (h 49) (h 51) (h 53) (h 497) n w) := by
  have hn := iv_8 I
  unfold vX9_told rX9_told_0 vX10_told rX10_told_49 rX10_told_51
  simp only [in_if, two_if, iv_p I, e_bit, e_week, e_bits hn]
  refine res_if (fun _ => (Or.inr (Or.inr ⟨rfl, rfl, rfl, rfl⟩))) (fun c1 => ?_)
  refine res_if (fun _ => (Or.inr (Or.inr ⟨rfl, rfl, rfl, rfl⟩))) (fun c2 => ?_)
  refine res_ok ?_ rfl
  refine ok_if (fun _ => rfl) (fun _ => ?_)
  refine ok_if (fun _ => (iv_n I).1.1.symm) (fun _ => ?_)
  refine ok_if (fun _ => t_tied (iv_n I) hn 1) (fun _ => ?_)
  refine ok_if (fun _ => t_tied (iv_n I) hn 2) (fun _ => ?_)
  refine ok_if (fun _ => (iv_n I).1.2.2.symm) (fun _ => ?_)
  refine ok_if (fun _ => t_late (iv_n I) hn) (fun _ => ?_)
  refine ok_if (fun _ => t_lateness (iv_n I) hn) (fun _ => ?_)
  refine ok_if (fun _ => t_slips (iv_n I) hn) (fun _ => ?_)
  refine ok_if (fun _ => I.2.2.1.2.2.2.1.symm) (fun _ => ?_)
  refine ok_if (fun _ => I.2.2.2.2.2.1.1.trans I.2.2.2.2.2.1.2.1.symm) (fun _ => ?_)
  refine ok_if (fun _ => I.2.1.2.1.symm) (fun _ => ?_)
  exact ok_e ((iv_n I).1.2.1.symm)
theorem q_person {c : Nat → Nat} {T n m u t : Nat} {L : bL_} {h : hp_} (I : IV c T n m u t L h) (p w : Int32) : res 2 (vX9_person (h 0) (h 1) (h 2) (h 3) (h 4) (h 5) (h 6) (h 38) (h 39) (h 40) (h 41) (h 42) p w) (h 0) (rX9_person_0 (h 0) (h 1) (h 2) (h 3) (h 4) (h 5) (h 6) (h 38) (h 39) (h 40) (h 41) (h 42) p w) ((rX10_person_49 (h 49) (h 51) (h 73) (h 497) (jj_gd h 64 8) n p w) 0) (.int (vX10_person (h 49) (h 51) (h 73) (h 497) (jj_gd h 64 8) n p w)) (h 51) (rX10_person_51 (h 49) (h 51) (h 73) (h 497) (jj_gd h 64 8) n p w) := by
  have hn := iv_8 I
  unfold vX9_person rX9_person_0 vX10_person rX10_person_49 rX10_person_51
  simp only [in_if, two_if, iv_p I, e_bit, e_week, e_bits hn]
  refine res_if (fun _ => (Or.inr (Or.inl ⟨rfl, rfl, rfl, rfl⟩))) (fun c1 => ?_)
  refine res_if (fun _ => (Or.inr (Or.inr ⟨rfl, rfl, rfl, rfl⟩))) (fun c2 => ?_)
  refine res_if (fun _ => (Or.inr (Or.inr ⟨rfl, rfl, rfl, rfl⟩))) (fun c3 => ?_)
  obtain ⟨Pp, hp, rfl⟩ := jj_persM hn c1
  have hp8 : Pp < 8 := by omega
  rw [cl_ hp8, c0_ hp8, c8_ hp8, c16_ hp8, c24_ hp8]
  refine res_ok ?_ rfl
  refine ok_if (fun w0 => ?_) (fun _ => ?_)
  · rw [w0]; exact (iv_s I Pp hp).1.symm
  refine ok_if (fun w0 => ?_) (fun _ => ?_)
  · rw [w0]; exact (iv_s I Pp hp).2.1.symm
  refine ok_if (fun w0 => ?_) (fun _ => ?_)
  · rw [w0]; exact (iv_s I Pp hp).2.2.1.symm
  refine ok_if (fun w0 => ?_) (fun _ => ?_)
  · rw [w0]; exact (iv_s I Pp hp).2.2.2.1.symm
  refine ok_if (fun _ => ((iv_n I).2 Pp hp8).1.symm) (fun _ => ?_)
  refine ok_if (fun _ => (e_behind (iv_n I) hp8).symm) (fun _ => ?_)
  refine ok_if (fun _ => ((iv_n I).2 Pp hp8).2.1.symm) (fun _ => ?_)
  by_cases w7 : w = 7
  · rw [if_pos w7, if_pos w7, ← e_cut (iv_n I) hp8]
    unfold vX10_has
    by_cases z : (h 497 32 >>> (nI Pp &&& 31)) &&& 1 = 1
    · rw [if_pos z, if_neg (by decide), z]
    · rw [if_neg z, if_pos rfl, and1_0 z]
  rw [if_neg w7, if_neg w7]
  refine ok_if (fun _ => ((iv_n I).2 Pp hp8).2.2.1.symm) (fun _ => ?_)
  refine ok_if (fun _ => ((iv_n I).2 Pp hp8).2.2.2.symm) (fun _ => ?_)
  exact ok_e (iv_s I Pp hp).2.2.2.2.symm
theorem q_can {c : Nat → Nat} {T n m u t : Nat} {L : bL_} {h : hp_} (I : IV c T n m u t L h) (a b : Int32) : res 1 (vX9_can (h 0) (h 1) (h 38) (h 40) a b) (h 0) (rX9_can_0 (h 0) (h 1) (h 38) (h 40) a b) ((rX10_can_49 (h 49) (h 51) (h 497) n a b) 0) (.int (vX10_can (h 49) (h 51) (h 497) n a b)) (h 51) (rX10_can_51 (h 49) (h 51) (h 497) n a b) := by
  have hn := iv_8 I
  unfold vX9_can rX9_can_0 vX10_can rX10_can_49 rX10_can_51
  simp only [in_if, two_if, iv_p I, e_bit, e_week, e_bits hn]
  refine res_if (fun _ => (Or.inr (Or.inl ⟨rfl, rfl, rfl, rfl⟩))) (fun c1 => ?_)
  refine res_if (fun _ => (Or.inr (Or.inl ⟨rfl, rfl, rfl, rfl⟩))) (fun c2 => ?_)
  obtain ⟨Pa, ha, rfl⟩ := jj_persM hn c1
  obtain ⟨Pb, hb, rfl⟩ := jj_persM hn c2
  refine res_ok (ok_e ?_) rfl
  rw [e_may (iv_n I) (iv_k I) (by omega) (by omega)]
  by_cases z : vX10_isLoose_n (h 497) (nI Pb) = 0
  · rw [if_pos z, if_pos z]
  · rw [if_neg z, if_neg z]
    by_cases y : vX10_isHand_n (h 497) (nI Pa) (nI Pb) = 0
    · rw [if_pos y, y]
    · rw [if_neg y]; exact hand_1 y
theorem q_far {c : Nat → Nat} {T n m u t : Nat} {L : bL_} {h : hp_} (I : IV c T n m u t L h) (a b : Int32) : res 1 (vX9_far (h 0) (h 1) (h 4) (h 5) a b) (h 0) (rX9_far_0 (h 0) (h 1) (h 4) (h 5) a b) ((rX10_far_49 (h 49) (h 51) (jj_gd h 64 8) n a b) 0) (.int (vX10_far (h 49) (h 51) (jj_gd h 64 8) n a b)) (h 51) (rX10_far_51 (h 49) (h 51) (jj_gd h 64 8) n a b) := by
  have hn := iv_8 I
  unfold vX9_far rX9_far_0 vX10_far rX10_far_49 rX10_far_51
  simp only [in_if, two_if, iv_p I, e_bit, e_week, e_bits hn]
  refine res_if (fun _ => (Or.inr (Or.inl ⟨rfl, rfl, rfl, rfl⟩))) (fun c1 => ?_)
  refine res_if (fun _ => (Or.inr (Or.inl ⟨rfl, rfl, rfl, rfl⟩))) (fun c2 => ?_)
  obtain ⟨Pa, ha, rfl⟩ := jj_persM hn c1
  obtain ⟨Pb, hb, rfl⟩ := jj_persM hn c2
  exact res_ok (ok_e (t_way (iv_s I) (iv_xy I) hn ha hb)) rfl
theorem q_gap {c : Nat → Nat} {T n m u t : Nat} {L : bL_} {h : hp_} (I : IV c T n m u t L h) (a b : Int32) : res 1 (vX9_gap (h 0) (h 1) (h 39) a b) (h 0) (rX9_gap_0 (h 0) (h 1) (h 39) a b) ((rX10_gap_49 (h 49) (h 51) (h 497) n a b) 0) (.int (vX10_gap (h 49) (h 51) (h 497) n a b)) (h 51) (rX10_gap_51 (h 49) (h 51) (h 497) n a b) := by
  have hn := iv_8 I
  unfold vX9_gap rX9_gap_0 vX10_gap rX10_gap_49 rX10_gap_51
  simp only [in_if, two_if, iv_p I, e_bit, e_week, e_bits hn]
  refine res_if (fun _ => (Or.inr (Or.inl ⟨rfl, rfl, rfl, rfl⟩))) (fun c1 => ?_)
  refine res_if (fun _ => (Or.inr (Or.inl ⟨rfl, rfl, rfl, rfl⟩))) (fun c2 => ?_)
  obtain ⟨Pa, ha, rfl⟩ := jj_persM hn c1
  obtain ⟨Pb, hb, rfl⟩ := jj_persM hn c2
  rw [cl_ (show Pa < 8 by omega), cl_ (show Pb < 8 by omega), c0_ (show Pa < 8 by omega), c0_ (show Pb < 8 by omega)]
  refine res_ok (ok_e ?_) rfl
  rw [((iv_n I).2 Pa (by omega)).1, ((iv_n I).2 Pb (by omega)).1]
theorem q_within {c : Nat → Nat} {T n m u t : Nat} {L : bL_} {h : hp_} (I : IV c T n m u t L h) (w : Int32) : res 1 (vX9_within (h 0) (h 39) n w) (h 0) (rX9_within_0 (h 0) (h 39) n w) ((rX10_within_49 (h 49) (h 51) (h 497) n w) 0) (.int (vX10_within (h 49) (h 51) (h 497) n w)) (h 51) (rX10_within_51 (h 49) (h 51) (h 497) n w) := by
  have hn := iv_8 I
  unfold vX9_within rX9_within_0 vX10_within rX10_within_49 rX10_within_51
  simp only [in_if, two_if, iv_p I, e_bit, e_week, e_bits hn]
  refine res_if (fun _ => (Or.inr (Or.inr ⟨rfl, rfl, rfl, rfl⟩))) (fun c1 => ?_)
  refine res_if (fun _ => (Or.inr (Or.inr ⟨rfl, rfl, rfl, rfl⟩))) (fun c2 => ?_)
  exact res_ok (ok_e (t_inDay (iv_n I) hn w)) rfl
theorem q_mates {c : Nat → Nat} {T n m u t : Nat} {L : bL_} {h : hp_} (I : IV c T n m u t L h) (p : Int32) : res 1 (vX9_mates (h 0) (h 1) (h 39) n p) (h 0) (rX9_mates_0 (h 0) (h 1) (h 39) n p) ((rX10_mates_49 (h 49) (h 51) (h 497) n p) 0) (.int (vX10_mates (h 49) (h 51) (h 497) n p)) (h 51) (rX10_mates_51 (h 49) (h 51) (h 497) n p) := by
  have hn := iv_8 I
  unfold vX9_mates rX9_mates_0 vX10_mates rX10_mates_49 rX10_mates_51
  simp only [in_if, two_if, iv_p I, e_bit, e_week, e_bits hn]
  refine res_if (fun _ => (Or.inr (Or.inl ⟨rfl, rfl, rfl, rfl⟩))) (fun c1 => ?_)
  obtain ⟨Pp, hp, rfl⟩ := jj_persM hn c1
  rw [cl_ (show Pp < 8 by omega), c0_ (show Pp < 8 by omega)]
  refine res_ok (ok_e ?_) rfl
  rw [((iv_n I).2 Pp (by omega)).1, t_inDay (iv_n I) hn]
theorem q_hold {c : Nat → Nat} {T n m u t : Nat} {L : bL_} {h : hp_} (I : IV c T n m u t L h) (a b w : Int32) : res 2 (vX9_hold (h 0) (h 1) (h 2) (h 3) (h 6) (h 8) (h 38) (h 39) (h 41) m a b w) (h 0) (rX9_hold_0 (h 0) (h 1) (h 2) (h 3) (h 6) (h 8) (h 38) (h 39) (h 41) m a b w) ((rX10_hold_49 (h 8) (h 49) (h 51) (h 73) (h 497) (jj_gd h 64 8) n m a b w) 0) (.int (vX10_hold (h 8) (h 49) (h 51) (h 73) (h 497) (jj_gd h 64 8) n m a b w)) (h 51) (rX10_hold_51 (h 8) (h 49) (h 51) (h 73) (h 497) (jj_gd h 64 8) n m a b w) := by
  have hn := iv_8 I
  unfold vX9_hold rX9_hold_0 vX10_hold rX10_hold_49 rX10_hold_51
  simp only [in_if, two_if, iv_p I, e_bit, e_week, e_bits hn]
  refine res_if (fun _ => (Or.inr (Or.inl ⟨rfl, rfl, rfl, rfl⟩))) (fun c1 => ?_)
  refine res_if (fun _ => (Or.inr (Or.inl ⟨rfl, rfl, rfl, rfl⟩))) (fun c2 => ?_)
  refine res_if (fun _ => (Or.inr (Or.inr ⟨rfl, rfl, rfl, rfl⟩))) (fun c3 => ?_)
  refine res_if (fun _ => (Or.inr (Or.inr ⟨rfl, rfl, rfl, rfl⟩))) (fun c4 => ?_)
  obtain ⟨Pa, ha, rfl⟩ := jj_persM hn c1
  obtain ⟨Pb, hb, rfl⟩ := jj_persM hn c2
  exact res_ok (ok_e (e_hold (iv_n I) (iv_s I) hn ha hb w).symm) rfl
