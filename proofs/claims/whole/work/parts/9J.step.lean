/-! ===== one step of a WORK, of both ===== -/
theorem bx_or (x y : Int32) (i : Nat) : bt (x ||| y) i = (bt x i || bt y i) := by unfold bt; rw [Int32.toBitVec_or, BitVec.getLsbD_or]
theorem bx_and (x y : Int32) (i : Nat) : bt (x &&& y) i = (bt x i && bt y i) := by unfold bt; rw [Int32.toBitVec_and, BitVec.getLsbD_and]
theorem bx_xor (x y : Int32) (i : Nat) : bt (x ^^^ y) i = (bt x i ^^ bt y i) := by unfold bt; rw [Int32.toBitVec_xor, BitVec.getLsbD_xor]
theorem bx_m1 : ∀ i, i < 32 → bt (-1) i = true := by decide +kernel
theorem bx_ext {x y : Int32} (h : ∀ i, i < 32 → bt x i = bt y i) : x = y := Int32.toBitVec_inj.mp (BitVec.eq_of_getLsbD_eq (fun i hi => h i hi))
theorem or_bit {x : Int32} {a : Nat} (ha : a < 8) : x = x ||| (1 <<< (nI a &&& 31)) ↔ bt x a = true := by
  constructor
  · intro h
    rw [h, bx_or, bt_1s a ha a (by omega)]; simp
  · intro h
    refine bx_ext (fun i hi => ?_)
    rw [bx_or, bt_1s a ha i hi]
    by_cases e : i = a
    · rw [e, h]; rfl
    · rw [decide_eq_false e, Bool.or_false]
theorem and_bit {x : Int32} {a : Nat} (ha : a < 8) : x = x &&& ((1 <<< (nI a &&& 31)) ^^^ ((-1) : Int32)) ↔ bt x a = false := by
  constructor
  · intro h
    rw [h, bx_and, bx_xor, bt_1s a ha a (by omega), bx_m1 a (by omega)]; simp
  · intro h
    refine bx_ext (fun i hi => ?_)
    rw [bx_and, bx_xor, bt_1s a ha i hi, bx_m1 i hi]
    by_cases e : i = a
    · rw [e, h]; simp
    · rw [decide_eq_false e]; simp
section
variable {r2 r3 r4 r5 r6 r8 r22 r23 r24 r38 r39 r40 r41 r42 r73 r : Nat → Int32} {g64 g417 : Nat → Nat → Int32} {n m p a b B : Nat}
theorem cut_bt (ha : a < 8) : vX6_isCut_n r38 (nI a) = 0 ↔ bt (r38 2) a = false := by
  unfold vX6_isCut_n
  by_cases c : bt (r38 2) a = false
  · rw [if_pos ((and_bt ha).mpr c)]; exact ⟨fun _ => c, fun _ => rfl⟩
  · rw [if_neg (fun q => c ((and_bt ha).mp q))]; exact ⟨fun q => absurd q (by decide), fun q => absurd q c⟩
theorem s_cut (h : nn r38 r39 r40 r41 r42 r) (ha : a < 8) : (if vX10_becomes_c r ((r 32) ||| (1 <<< (nI a &&& 31))) = 0 then (0 : Int32) else 1) = vX8_cutLace r38 r40 (nI a) ∧ nn (rX8_cutLace_38 r38 r40 (nI a)) r39 (rX8_cutLace_40 r38 r40 (nI a)) r41 r42 (if vX10_becomes_c r ((r 32) ||| (1 <<< (nI a &&& 31))) = 0 then rX10_becomes_c_497 r ((r 32) ||| (1 <<< (nI a &&& 31))) else upd (rX10_becomes_c_497 r ((r 32) ||| (1 <<< (nI a &&& 31)))) ((8 + nI a : Int32)).toNatClampNeg 0) := by
  obtain ⟨⟨⟨h1, h2, h3⟩, h4⟩, ⟨T, h5, h6, h7⟩, h8⟩ := id h
  unfold vX10_becomes_c rX10_becomes_c_497 vX8_cutLace rX8_cutLace_38 rX8_cutLace_40
  rw [h3, c8_ ha, cl_ ha]
  by_cases c : bt (r38 2) a = false
  · have c1 : vX6_isCut_n r38 (nI a) = 0 := (cut_bt ha).mpr c
    have c2 : ¬ r38 2 = r38 2 ||| (1 <<< (nI a &&& 31)) := fun q => by rw [(or_bit ha).mp q] at c; cases c
    rw [if_neg c2, if_pos c1, if_pos c1, if_pos c1, if_neg (by decide), if_neg (by decide), if_neg c2]
    refine ⟨rfl, ⟨⟨by rw [jj_une (by omega), jj_une (by decide), jj_une (by decide)]; exact h1, by rw [jj_une (by omega), jj_une (by decide), jj_une (by decide)]; exact h2, by rw [jj_une (by omega), jj_ueq rfl, jj_ueq rfl]⟩, fun q hq => ?_⟩, ⟨T, h5, h6, h7⟩, fun q hq => ⟨?_, (h8 q hq).2⟩⟩
    · obtain ⟨x1, x2, x3, x4⟩ := h4 q hq
      refine ⟨by rw [jj_une (by omega), jj_une (by omega)]; exact x1, ?_, by rw [jj_une (by omega), jj_une (by omega)]; exact x3, by rw [jj_une (by omega), jj_une (by omega)]; exact x4⟩
      by_cases e : q = a
      · rw [jj_ueq (by omega), jj_ueq e]
      · rw [jj_une (by omega), jj_une (by omega), jj_une e]; exact x2
    · by_cases e : q = a
      · rw [jj_ueq e]; exact Or.inl rfl
      · rw [jj_une e]; exact (h8 q hq).1
  · have c1 : ¬ vX6_isCut_n r38 (nI a) = 0 := fun q => c ((cut_bt ha).mp q)
    have c2 : r38 2 = r38 2 ||| (1 <<< (nI a &&& 31)) := (or_bit ha).mpr (by simpa using c)
    rw [if_pos c2, if_neg c1, if_neg c1, if_neg c1, if_pos rfl, if_pos rfl, if_pos c2]
    exact ⟨rfl, h⟩
theorem s_mend (h : nn r38 r39 r40 r41 r42 r) (ha : a < 8) : vX10_becomes_c r ((r 32) &&& ((1 <<< (nI a &&& 31)) ^^^ ((-1) : Int32))) = vX8_mendLace r38 (nI a) ∧ nn (rX8_mendLace_38 r38 (nI a)) r39 r40 r41 r42 (rX10_becomes_c_497 r ((r 32) &&& ((1 <<< (nI a &&& 31)) ^^^ ((-1) : Int32)))) := by
  obtain ⟨⟨⟨h1, h2, h3⟩, h4⟩, ⟨T, h5, h6, h7⟩, h8⟩ := id h
  unfold vX10_becomes_c rX10_becomes_c_497 vX8_mendLace rX8_mendLace_38
  rw [h3]
  by_cases c : bt (r38 2) a = false
  · have c1 : vX6_isCut_n r38 (nI a) = 0 := (cut_bt ha).mpr c
    have c2 := (and_bit ha).mpr c
    rw [if_pos c2, if_pos c1, if_pos c1, if_pos c2]
    exact ⟨rfl, h⟩
  · have c1 : ¬ vX6_isCut_n r38 (nI a) = 0 := fun q => c ((cut_bt ha).mp q)
    have c2 := fun q => c ((and_bit (x := r38 2) ha).mp q)
    rw [if_neg c2, if_neg c1, if_neg c1, if_neg c2]
    refine ⟨rfl, ⟨⟨h1, h2, rfl⟩, fun q hq => ?_⟩, ⟨T, h5, h6, h7⟩, h8⟩
    rw [jj_une (by omega), jj_une (by omega), jj_une (by omega), jj_une (by omega)]
    exact h4 q hq
theorem s_undo (h : nn r38 r39 r40 r41 r42 r) (ha : a < 8) : vX10_becomes_t r (8 + nI a) = vX8_undoLace r40 (nI a) ∧ nn r38 r39 (rX8_undoLace_40 r40 (nI a)) r41 r42 (rX10_becomes_t_497 r (8 + nI a)) := by
  obtain ⟨⟨⟨h1, h2, h3⟩, h4⟩, ⟨T, h5, h6, h7⟩, h8⟩ := id h
  unfold vX10_becomes_t rX10_becomes_t_497 vX8_undoLace rX8_undoLace_40
  rw [c8_ ha, cl_ ha, (h4 a ha).2.1]
  by_cases c : r40 a = 0
  · rw [if_pos c, if_pos c, if_pos c]; exact ⟨rfl, h⟩
  · rw [if_neg c, if_neg c, if_neg c]
    refine ⟨rfl, ⟨⟨by rw [jj_une (by omega)]; exact h1, by rw [jj_une (by omega)]; exact h2, by rw [jj_une (by omega)]; exact h3⟩, fun q hq => ?_⟩, ⟨T, h5, h6, h7⟩, fun q hq => ⟨?_, (h8 q hq).2⟩⟩
    · obtain ⟨x1, x2, x3, x4⟩ := h4 q hq
      refine ⟨by rw [jj_une (by omega)]; exact x1, ?_, by rw [jj_une (by omega)]; exact x3, by rw [jj_une (by omega)]; exact x4⟩
      by_cases e : q = a
      · rw [jj_ueq (by omega), jj_ueq e]
      · rw [jj_une (by omega), jj_une e]; exact x2
    · by_cases e : q = a
      · rw [jj_ueq e]; exact Or.inl rfl
      · rw [jj_une e]; exact (h8 q hq).1
theorem s_day (h : nn r38 r39 r40 r41 r42 r) (hn : n ≤ 8) : (if r 33 < 900 then (1 : Int32) else 0) = vX8_endDay r38 r39 r40 n ∧ nn (rX8_endDay_38 r38 r39 r40 n) (rX8_endDay_39 r38 r39 r40 n) (rX8_endDay_40 r38 r39 r40 n) r41 r42 (if r 33 < 900 then rX10_dayEnds_n_497 r n else r) := by
  obtain ⟨h0, ⟨T, h5, h6, h7⟩, h8⟩ := id h
  unfold vX8_endDay rX8_endDay_38 rX8_endDay_39 rX8_endDay_40
  rw [h0.1.1]
  by_cases c : r38 0 < 900
  · simp only [if_pos c]
    have hT : T ≤ 899 := by
      rw [h5] at c
      rcases Nat.lt_or_ge T 900 with q | q
      · omega
      · exact absurd c (nI_nlt (b := 900) q (by omega))
    exact ⟨by first | rfl | trivial, e_day h0 (B := 899) ⟨⟨T, h5, hT, h7⟩, h8⟩ hn⟩
  · simp only [if_neg c]
    exact ⟨by first | rfl | trivial, h⟩
/-- one step of both -/
theorem e_step {z : wE_} (hz : smp n p z) (hp : p < 80) (hc : crl z (r22 p) (r23 p) (r24 p)) (hw : wrl z (g417 p)) (h : nn r38 r39 r40 r41 r42 r) (hs : srl n r2 r3 r4 r5 r6 r73 g64) (hn : n ≤ 8) :
    vX10_does r8 r73 r g64 g417 n m (nI p) = vX8_runStep r2 r3 r6 r8 r38 r39 r40 r41 r42 n m (r22 p) (r23 p) (r24 p) ∧ nn (rX8_runStep_38 r2 r3 r6 r8 r38 r39 r40 r41 r42 n m (r22 p) (r23 p) (r24 p)) (rX8_runStep_39 r2 r3 r6 r8 r38 r39 r40 r41 r42 n m (r22 p) (r23 p) (r24 p)) (rX8_runStep_40 r2 r3 r6 r8 r38 r39 r40 r41 r42 n m (r22 p) (r23 p) (r24 p)) (rX8_runStep_41 r2 r3 r6 r8 r38 r39 r40 r41 r42 n m (r22 p) (r23 p) (r24 p)) (rX8_runStep_42 r2 r3 r6 r8 r38 r39 r40 r41 r42 n m (r22 p) (r23 p) (r24 p)) (rX10_does_497 r8 r73 r g64 g417 n m (nI p)) ∧ ¬ r22 p = 6 ∧ ¬ g417 p 0 = 6 ∧ g417 p 3 = nI (p + 1) := by
  unfold vX10_does rX10_does_497 vX8_runStep rX8_runStep_38 rX8_runStep_39 rX8_runStep_40 rX8_runStep_41 rX8_runStep_42
  rw [nI_clamp (show p < 2 ^ 31 by omega)]
  obtain ⟨c1, c2, c3, _⟩ := hc
  obtain ⟨w1, w2, w3, w4⟩ := hw
  rcases hz with ⟨k, a, b, rfl, hk, ha, hb⟩ | ⟨k, a, rfl, hk, hk5, ha⟩ | rfl
  · have c1 : r22 p = nI k := c1
    have w1 : g417 p 0 = nI k := w1
    rw [c1, c2 a rfl, c3 b rfl, w1, w2 a rfl, w3 b rfl, w4 (p + 1) rfl]
    rcases (by omega : k = 0 ∨ k = 1) with rfl | rfl
    · rw [show nI 0 = 0 from rfl]
      simp only [if_true]
      have e := e_ties (m := m) (r8 := r8) h.1 h.2 hs hn ha hb (tw := 0) (Or.inl rfl)
      exact ⟨e.1, e.2, by decide, by decide, trivial⟩
    · rw [show nI 1 = 1 from rfl]
      simp only [if_true, if_neg (show ¬ (1 : Int32) = 0 by decide)]
      have e := e_ties (m := m) (r8 := r8) h.1 h.2 hs hn ha hb (tw := 1) (Or.inr rfl)
      exact ⟨e.1, e.2, by decide, by decide, trivial⟩
  · have c1 : r22 p = nI k := c1
    have w1 : g417 p 0 = nI k := w1
    rw [c1, c2 a rfl, w1, w2 a rfl, w4 (p + 1) rfl]
    rcases (by omega : k = 2 ∨ k = 3 ∨ k = 4) with rfl | rfl | rfl
    · rw [show nI 2 = 2 from rfl]
      simp only [if_true, if_neg (show ¬ (2 : Int32) = 0 by decide), if_neg (show ¬ (2 : Int32) = 1 by decide)]
      have e := s_cut (a := a) h (by omega)
      exact ⟨e.1, e.2, by decide, by decide, trivial⟩
    · rw [show nI 3 = 3 from rfl]
      simp only [if_true, if_neg (show ¬ (3 : Int32) = 0 by decide), if_neg (show ¬ (3 : Int32) = 1 by decide), if_neg (show ¬ (3 : Int32) = 2 by decide)]
      have e := s_mend (a := a) h (by omega)
      exact ⟨e.1, e.2, by decide, by decide, trivial⟩
    · rw [show nI 4 = 4 from rfl]
      simp only [if_true, if_neg (show ¬ (4 : Int32) = 0 by decide), if_neg (show ¬ (4 : Int32) = 1 by decide), if_neg (show ¬ (4 : Int32) = 2 by decide), if_neg (show ¬ (4 : Int32) = 3 by decide)]
      have e := s_undo (a := a) h (by omega)
      exact ⟨e.1, e.2, by decide, by decide, trivial⟩
  · have c1 : r22 p = 5 := c1
    have w1 : g417 p 0 = 5 := w1
    rw [c1, w1, w4 (p + 1) rfl]
    simp only [if_neg (show ¬ (5 : Int32) = 0 by decide), if_neg (show ¬ (5 : Int32) = 1 by decide), if_neg (show ¬ (5 : Int32) = 2 by decide), if_neg (show ¬ (5 : Int32) = 3 by decide), if_neg (show ¬ (5 : Int32) = 4 by decide)]
    have e := s_day h hn
    exact ⟨e.1, e.2, by decide, by decide, trivial⟩
end
