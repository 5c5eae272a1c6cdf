/-! ===== words by 27s ===== -/
def W27 (c : Nat → Nat) (a : Nat) : Nat → Nat
  | 0 => 0
  | k + 1 => if k < 6 then 27 * W27 c a k + (c (a + k) - 96) else W27 c a k
theorem let_b {x : Nat} (h : isL x = true) : 97 ≤ x ∧ x ≤ 122 := by
  unfold isL at h
  simp only [Bool.and_eq_true, decide_eq_true_eq] at h
  exact h
theorem W27_lt {c : Nat → Nat} {a : Nat} : ∀ k, (∀ i, i < k → isL (c (a + i)) = true) → W27 c a k < 27 ^ (min k 6)
  | 0, _ => (by decide : 0 < 27 ^ min 0 6)
  | k + 1, hl => by
    have ih := W27_lt k (fun i hi => hl i (by omega))
    have hb := let_b (hl k (by omega))
    rw [W27]
    by_cases q : k < 6
    · rw [if_pos q, Nat.min_eq_left (show k + 1 ≤ 6 by omega), Nat.pow_succ]
      rw [Nat.min_eq_left (show k ≤ 6 by omega)] at ih
      omega
    · rw [if_neg q, Nat.min_eq_right (show 6 ≤ k + 1 by omega)]
      rw [Nat.min_eq_right (show 6 ≤ k by omega)] at ih
      exact ih
theorem W27_le {c : Nat → Nat} {a k : Nat} (hl : ∀ i, i < k → isL (c (a + i)) = true) : W27 c a k < 387420489 := by
  have h := W27_lt (c := c) (a := a) k hl
  have h2 : 27 ^ (min k 6) ≤ 27 ^ 6 := Nat.pow_le_pow_right (by decide) (Nat.min_le_right _ _)
  have h3 : (27 : Nat) ^ 6 = 387420489 := by decide
  omega
theorem W27_lo {c : Nat → Nat} {a k : Nat} (hk : k < 6) (hl : ∀ i, i < k → isL (c (a + i)) = true) : 27 * W27 c a k + 26 < 387420489 := by
  have h := W27_lt (c := c) (a := a) k hl
  rw [Nat.min_eq_left (by omega)] at h
  have h2 : 27 ^ (k + 1) ≤ 27 ^ 6 := Nat.pow_le_pow_right (by decide) (by omega)
  rw [Nat.pow_succ] at h2
  have h3 : (27 : Nat) ^ 6 = 387420489 := by decide
  omega
theorem w_step {c : Nat → Nat} {a k : Nat} (hk : k < 6) (hc : isL (c (a + k)) = true) : nI (27 * W27 c a k) + nI (c (a + k)) - 97 + 1 = nI (W27 c a (k + 1)) := by
  have hb := let_b hc
  rw [nI_add, show (97 : Int32) = nI 97 from rfl, jj_nsub (by omega), nI_1, W27, if_pos hk]
  congr 1
  omega
theorem sp_whL {c : Nat → Nat} {e a d kc ks : Nat} {g : Nat → Nat → Int64} {Q : jj_Rs → jj_St → Prop}  (he : e ≤ 600) (n : Nat) : ∀ {k : Nat} {h : Nat → Nat → Int32}, e - (a + k) ≤ n → h 49 2 = nI e → h 49 4 = nI a → fedok (h 50) c → a + k ≤ 600 → (∀ i, i < k → isL (c (a + i)) = true) → jj_R mX10_wordHere (d + 1) kc ks (jj_S, 782, h, g) 61 [(0, .ref 49), (1, .int (nI (W27 c a (spn isL c e (a + k) - a)))), (2, .int (nI (spn isL c e (a + k) - a)))] [] Q → jj_R mX10_wordHere (d + 1) kc ks (jj_S, 782, h, g) 8 [(0, .ref 49), (1, .int (nI (W27 c a k))), (2, .int (nI k))] [] Q := by
  induction n with
  | zero =>
    intro k h hn hs ha hF hx hl kq
    refine rr_aload_n 0 rfl rfl dX10_wordHere_8 ?_
    refine rr_aload_n 0 rfl rfl dX10_wordHere_9 ?_
    refine rr_getI dX10_wordHere_10 fX10_104 lo_49 sh_49 rfl ?_
    rw [show (h 49) 4 = (nI a) from ha]
    refine rr_iload_n 2 rfl rfl dX10_wordHere_13 ?_
    refine rr_iadd dX10_wordHere_14 ?_
    rw [show ((nI a) + (nI k) : Int32) = (nI (a + k)) from nI_add (a) (k)]
    refine rr_callV (As := [.int (nI (a + k))]) (rest := []) (kc2 := 0) (ks2 := 0) dX10_wordHere_15 okX10_byteAt lX10_107 lo_49 sh_49 rfl rfl (Nat.le_of_ble_eq_true rfl) (Nat.le_of_ble_eq_true rfl) rfl (by omega) (by simp [jj_rk]) (by simp [jj_rk]) ?_
    refine sp_X10_byteAt (by_in he hs (by omega)) ?_
    show jj_R _ _ kc ks (jj_S, 782, h, g) 18 [(0, .ref 49), (1, .int (nI (W27 c a k))), (2, .int (nI k))] [.int (vX10_byteAt (h 49) (h 50) (nI (a + k)))] Q
    refine rr_callS (As := [.int (vX10_byteAt (h 49) (h 50) (nI (a + k)))]) (rest := []) (kc2 := 0) (ks2 := 0) dX10_wordHere_18 okX10_isSmall lX10_133 rfl (Nat.le_of_ble_eq_true rfl) (Nat.le_of_ble_eq_true rfl) rfl (by omega) (by simp [jj_rk]) (by simp [jj_rk]) ?_
    refine sp_X10_isSmall  ?_
    show jj_R _ _ kc ks (jj_S, 782, h, g) 21 [(0, .ref 49), (1, .int (nI (W27 c a k))), (2, .int (nI k))] [.int (vX10_isSmall (vX10_byteAt (h 49) (h 50) (nI (a + k))))] Q
    refine rr_if_eq dX10_wordHere_21 (fun c1 => ?_) (fun c1 => ?_)
    · skip
      have hc : ¬ (a + k < e ∧ isL (c (a + k)) = true) := fun q => by
        rw [by_at hF he (by omega) hs, by_L (fun q => (hF (a + k) (by omega)).2), if_pos q] at c1
        exact absurd c1 (by decide)
      rw [spn_no hc, Nat.add_sub_cancel_left] at kq
      exact kq
    · skip
      refine rr_iload_n 2 rfl rfl dX10_wordHere_24 ?_
      refine rr_bipush 6 rfl dX10_wordHere_25 ?_
      refine rr_icmp_ge dX10_wordHere_27 (fun c2 => ?_) (fun c2 => ?_)
      · skip
        refine rr_iload_n 1 rfl rfl dX10_wordHere_53 ?_
        refine rr_istore_n [(0, .ref 49), (1, .int (nI (W27 c a k))), (2, .int (nI k))] dX10_wordHere_54 rfl (by decide) rfl ?_
        refine rr_iinc 2 1 [(0, .ref 49), (1, .int (nI (W27 c a k))), (2, .int ((nI k) + 1))] dX10_wordHere_55 rfl rfl (by decide) rfl ?_
        refine rr_goto dX10_wordHere_58 ?_
        have hc : a + k < e ∧ isL (c (a + k)) = true := by
          rw [by_at hF he (by omega) hs, by_L (fun q => (hF (a + k) (by omega)).2)] at c1
          by_cases q : a + k < e ∧ isL (c (a + k)) = true
          · exact q
          · rw [if_neg q] at c1; exact absurd rfl c1
        exact absurd hc.1 (by omega)
      · skip
        refine rr_bipush 27 rfl dX10_wordHere_30 ?_
        refine rr_iload_n 1 rfl rfl dX10_wordHere_32 ?_
        refine rr_imul dX10_wordHere_33 ?_
        rw [show ((27 : Int32) * (nI (W27 c a k)) : Int32) = (nI (27 * (W27 c a k))) from jj_nm (27) ((W27 c a k))]
        refine rr_aload_n 0 rfl rfl dX10_wordHere_34 ?_
        refine rr_aload_n 0 rfl rfl dX10_wordHere_35 ?_
        refine rr_getI dX10_wordHere_36 fX10_104 lo_49 sh_49 rfl ?_
        rw [show (h 49) 4 = (nI a) from ha]
        refine rr_iload_n 2 rfl rfl dX10_wordHere_39 ?_
        refine rr_iadd dX10_wordHere_40 ?_
        rw [show ((nI a) + (nI k) : Int32) = (nI (a + k)) from nI_add (a) (k)]
        refine rr_callV (As := [.int (nI (a + k))]) (rest := [.int (nI (27 * (W27 c a k)))]) (kc2 := 0) (ks2 := 0) dX10_wordHere_41 okX10_byteAt lX10_107 lo_49 sh_49 rfl rfl (Nat.le_of_ble_eq_true rfl) (Nat.le_of_ble_eq_true rfl) rfl (by omega) (by simp [jj_rk]) (by simp [jj_rk]) ?_
        refine sp_X10_byteAt (by_in he hs (by omega)) ?_
        show jj_R _ _ kc ks (jj_S, 782, h, g) 44 [(0, .ref 49), (1, .int (nI (W27 c a k))), (2, .int (nI k))] [.int (vX10_byteAt (h 49) (h 50) (nI (a + k))), .int (nI (27 * (W27 c a k)))] Q
        refine rr_iadd dX10_wordHere_44 ?_
        refine rr_bipush 97 rfl dX10_wordHere_45 ?_
        refine rr_isub dX10_wordHere_47 ?_
        refine rr_iconst 1 rfl dX10_wordHere_48 ?_
        refine rr_iadd dX10_wordHere_49 ?_
        refine rr_goto dX10_wordHere_50 ?_
        refine rr_istore_n [(0, .ref 49), (1, .int ((((nI (27 * (W27 c a k))) + (vX10_byteAt (h 49) (h 50) (nI (a + k)))) - 97) + 1)), (2, .int (nI k))] dX10_wordHere_54 rfl (by decide) rfl ?_
        refine rr_iinc 2 1 [(0, .ref 49), (1, .int ((((nI (27 * (W27 c a k))) + (vX10_byteAt (h 49) (h 50) (nI (a + k)))) - 97) + 1)), (2, .int ((nI k) + 1))] dX10_wordHere_55 rfl rfl (by decide) rfl ?_
        refine rr_goto dX10_wordHere_58 ?_
        have hc : a + k < e ∧ isL (c (a + k)) = true := by
          rw [by_at hF he (by omega) hs, by_L (fun q => (hF (a + k) (by omega)).2)] at c1
          by_cases q : a + k < e ∧ isL (c (a + k)) = true
          · exact q
          · rw [if_neg q] at c1; exact absurd rfl c1
        exact absurd hc.1 (by omega)
  | succ n ih =>
    intro k h hn hs ha hF hx hl kq
    refine rr_aload_n 0 rfl rfl dX10_wordHere_8 ?_
    refine rr_aload_n 0 rfl rfl dX10_wordHere_9 ?_
    refine rr_getI dX10_wordHere_10 fX10_104 lo_49 sh_49 rfl ?_
    rw [show (h 49) 4 = (nI a) from ha]
    refine rr_iload_n 2 rfl rfl dX10_wordHere_13 ?_
    refine rr_iadd dX10_wordHere_14 ?_
    rw [show ((nI a) + (nI k) : Int32) = (nI (a + k)) from nI_add (a) (k)]
    refine rr_callV (As := [.int (nI (a + k))]) (rest := []) (kc2 := 0) (ks2 := 0) dX10_wordHere_15 okX10_byteAt lX10_107 lo_49 sh_49 rfl rfl (Nat.le_of_ble_eq_true rfl) (Nat.le_of_ble_eq_true rfl) rfl (by omega) (by simp [jj_rk]) (by simp [jj_rk]) ?_
    refine sp_X10_byteAt (by_in he hs (by omega)) ?_
    show jj_R _ _ kc ks (jj_S, 782, h, g) 18 [(0, .ref 49), (1, .int (nI (W27 c a k))), (2, .int (nI k))] [.int (vX10_byteAt (h 49) (h 50) (nI (a + k)))] Q
    refine rr_callS (As := [.int (vX10_byteAt (h 49) (h 50) (nI (a + k)))]) (rest := []) (kc2 := 0) (ks2 := 0) dX10_wordHere_18 okX10_isSmall lX10_133 rfl (Nat.le_of_ble_eq_true rfl) (Nat.le_of_ble_eq_true rfl) rfl (by omega) (by simp [jj_rk]) (by simp [jj_rk]) ?_
    refine sp_X10_isSmall  ?_
    show jj_R _ _ kc ks (jj_S, 782, h, g) 21 [(0, .ref 49), (1, .int (nI (W27 c a k))), (2, .int (nI k))] [.int (vX10_isSmall (vX10_byteAt (h 49) (h 50) (nI (a + k))))] Q
    refine rr_if_eq dX10_wordHere_21 (fun c1 => ?_) (fun c1 => ?_)
    · skip
      have hc : ¬ (a + k < e ∧ isL (c (a + k)) = true) := fun q => by
        rw [by_at hF he (by omega) hs, by_L (fun q => (hF (a + k) (by omega)).2), if_pos q] at c1
        exact absurd c1 (by decide)
      rw [spn_no hc, Nat.add_sub_cancel_left] at kq
      exact kq
    · skip
      refine rr_iload_n 2 rfl rfl dX10_wordHere_24 ?_
      refine rr_bipush 6 rfl dX10_wordHere_25 ?_
      refine rr_icmp_ge dX10_wordHere_27 (fun c2 => ?_) (fun c2 => ?_)
      · skip
        refine rr_iload_n 1 rfl rfl dX10_wordHere_53 ?_
        refine rr_istore_n [(0, .ref 49), (1, .int (nI (W27 c a k))), (2, .int (nI k))] dX10_wordHere_54 rfl (by decide) rfl ?_
        refine rr_iinc 2 1 [(0, .ref 49), (1, .int (nI (W27 c a k))), (2, .int ((nI k) + 1))] dX10_wordHere_55 rfl rfl (by decide) rfl ?_
        refine rr_goto dX10_wordHere_58 ?_
        have hc : a + k < e ∧ isL (c (a + k)) = true := by
          rw [by_at hF he (by omega) hs, by_L (fun q => (hF (a + k) (by omega)).2)] at c1
          by_cases q : a + k < e ∧ isL (c (a + k)) = true
          · exact q
          · rw [if_neg q] at c1; exact absurd rfl c1
        have hl2 : ∀ i, i < k + 1 → isL (c (a + i)) = true := fun i hi => by
          by_cases q : i = k
          · rw [q]; exact hc.2
          · exact hl i (by omega)
        rw [spn_yes hc.1 hc.2] at kq
        have hk : ¬ k < 6 := fun q => absurd c2 (nI_ge (a := k) (b := 6) q (by decide))
        have hv : W27 c a k = W27 c a (k + 1) := by rw [W27, if_neg hk]
        rw [nI_1, hv]
        exact ih (k := k + 1) (by omega) hs ha hF (by omega) hl2 kq
      · skip
        refine rr_bipush 27 rfl dX10_wordHere_30 ?_
        refine rr_iload_n 1 rfl rfl dX10_wordHere_32 ?_
        refine rr_imul dX10_wordHere_33 ?_
        rw [show ((27 : Int32) * (nI (W27 c a k)) : Int32) = (nI (27 * (W27 c a k))) from jj_nm (27) ((W27 c a k))]
        refine rr_aload_n 0 rfl rfl dX10_wordHere_34 ?_
        refine rr_aload_n 0 rfl rfl dX10_wordHere_35 ?_
        refine rr_getI dX10_wordHere_36 fX10_104 lo_49 sh_49 rfl ?_
        rw [show (h 49) 4 = (nI a) from ha]
        refine rr_iload_n 2 rfl rfl dX10_wordHere_39 ?_
        refine rr_iadd dX10_wordHere_40 ?_
        rw [show ((nI a) + (nI k) : Int32) = (nI (a + k)) from nI_add (a) (k)]
        refine rr_callV (As := [.int (nI (a + k))]) (rest := [.int (nI (27 * (W27 c a k)))]) (kc2 := 0) (ks2 := 0) dX10_wordHere_41 okX10_byteAt lX10_107 lo_49 sh_49 rfl rfl (Nat.le_of_ble_eq_true rfl) (Nat.le_of_ble_eq_true rfl) rfl (by omega) (by simp [jj_rk]) (by simp [jj_rk]) ?_
        refine sp_X10_byteAt (by_in he hs (by omega)) ?_
        show jj_R _ _ kc ks (jj_S, 782, h, g) 44 [(0, .ref 49), (1, .int (nI (W27 c a k))), (2, .int (nI k))] [.int (vX10_byteAt (h 49) (h 50) (nI (a + k))), .int (nI (27 * (W27 c a k)))] Q
        refine rr_iadd dX10_wordHere_44 ?_
        refine rr_bipush 97 rfl dX10_wordHere_45 ?_
        refine rr_isub dX10_wordHere_47 ?_
        refine rr_iconst 1 rfl dX10_wordHere_48 ?_
        refine rr_iadd dX10_wordHere_49 ?_
        refine rr_goto dX10_wordHere_50 ?_
        refine rr_istore_n [(0, .ref 49), (1, .int ((((nI (27 * (W27 c a k))) + (vX10_byteAt (h 49) (h 50) (nI (a + k)))) - 97) + 1)), (2, .int (nI k))] dX10_wordHere_54 rfl (by decide) rfl ?_
        refine rr_iinc 2 1 [(0, .ref 49), (1, .int ((((nI (27 * (W27 c a k))) + (vX10_byteAt (h 49) (h 50) (nI (a + k)))) - 97) + 1)), (2, .int ((nI k) + 1))] dX10_wordHere_55 rfl rfl (by decide) rfl ?_
        refine rr_goto dX10_wordHere_58 ?_
        have hc : a + k < e ∧ isL (c (a + k)) = true := by
          rw [by_at hF he (by omega) hs, by_L (fun q => (hF (a + k) (by omega)).2)] at c1
          by_cases q : a + k < e ∧ isL (c (a + k)) = true
          · exact q
          · rw [if_neg q] at c1; exact absurd rfl c1
        have hl2 : ∀ i, i < k + 1 → isL (c (a + i)) = true := fun i hi => by
          by_cases q : i = k
          · rw [q]; exact hc.2
          · exact hl i (by omega)
        rw [spn_yes hc.1 hc.2] at kq
        have hk : k < 6 := by
          rcases Nat.lt_or_ge k 6 with q | q
          · exact q
          · exact absurd (nI_le (a := 6) (b := k) q (by omega)) c2
        rw [by_at hF he (by omega) hs, if_pos hc.1, nI_1, w_step hk hc.2]
        exact ih (k := k + 1) (by omega) hs ha hF (by omega) hl2 kq
theorem sp_tsL {c : Nat → Nat} {e a d kc ks : Nat} {g : Nat → Nat → Int64} {Q : jj_Rs → jj_St → Prop} {wd : Int32} {ls : Int32} (he : e ≤ 600) (n : Nat) : ∀ {k : Nat} {h : Nat → Nat → Int32}, e - (a + k) ≤ n → h 49 2 = nI e → h 49 4 = nI a → fedok (h 50) c → a + k ≤ 600 → (∀ i, i < k → isL (c (a + i)) = true) → jj_R mX10_takesSeven (d + 1) kc ks (jj_S, 782, h, g) 65 [(0, .ref 49), (1, .int wd), (2, .int ls), (3, .int (nI (W27 c a (spn isL c e (a + k) - a)))), (4, .int (nI (spn isL c e (a + k) - a)))] [] Q → jj_R mX10_takesSeven (d + 1) kc ks (jj_S, 782, h, g) 9 [(0, .ref 49), (1, .int wd), (2, .int ls), (3, .int (nI (W27 c a k))), (4, .int (nI k))] [] Q := by
  induction n with
  | zero =>
    intro k h hn hs ha hF hx hl kq
    refine rr_aload_n 0 rfl rfl dX10_takesSeven_9 ?_
    refine rr_aload_n 0 rfl rfl dX10_takesSeven_10 ?_
    refine rr_getI dX10_takesSeven_11 fX10_104 lo_49 sh_49 rfl ?_
    rw [show (h 49) 4 = (nI a) from ha]
    refine rr_iload 4 rfl dX10_takesSeven_14 ?_
    refine rr_iadd dX10_takesSeven_16 ?_
    rw [show ((nI a) + (nI k) : Int32) = (nI (a + k)) from nI_add (a) (k)]
    refine rr_callV (As := [.int (nI (a + k))]) (rest := []) (kc2 := 0) (ks2 := 0) dX10_takesSeven_17 okX10_byteAt lX10_107 lo_49 sh_49 rfl rfl (Nat.le_of_ble_eq_true rfl) (Nat.le_of_ble_eq_true rfl) rfl (by omega) (by simp [jj_rk]) (by simp [jj_rk]) ?_
    refine sp_X10_byteAt (by_in he hs (by omega)) ?_
    show jj_R _ _ kc ks (jj_S, 782, h, g) 20 [(0, .ref 49), (1, .int wd), (2, .int ls), (3, .int (nI (W27 c a k))), (4, .int (nI k))] [.int (vX10_byteAt (h 49) (h 50) (nI (a + k)))] Q
    refine rr_callS (As := [.int (vX10_byteAt (h 49) (h 50) (nI (a + k)))]) (rest := []) (kc2 := 0) (ks2 := 0) dX10_takesSeven_20 okX10_isSmall lX10_133 rfl (Nat.le_of_ble_eq_true rfl) (Nat.le_of_ble_eq_true rfl) rfl (by omega) (by simp [jj_rk]) (by simp [jj_rk]) ?_
    refine sp_X10_isSmall  ?_
    show jj_R _ _ kc ks (jj_S, 782, h, g) 23 [(0, .ref 49), (1, .int wd), (2, .int ls), (3, .int (nI (W27 c a k))), (4, .int (nI k))] [.int (vX10_isSmall (vX10_byteAt (h 49) (h 50) (nI (a + k))))] Q
    refine rr_if_eq dX10_takesSeven_23 (fun c1 => ?_) (fun c1 => ?_)
    · skip
      have hc : ¬ (a + k < e ∧ isL (c (a + k)) = true) := fun q => by
        rw [by_at hF he (by omega) hs, by_L (fun q => (hF (a + k) (by omega)).2), if_pos q] at c1
        exact absurd c1 (by decide)
      rw [spn_no hc, Nat.add_sub_cancel_left] at kq
      exact kq
    · skip
      refine rr_iload 4 rfl dX10_takesSeven_26 ?_
      refine rr_bipush 6 rfl dX10_takesSeven_28 ?_
      refine rr_icmp_ge dX10_takesSeven_30 (fun c2 => ?_) (fun c2 => ?_)
      · skip
        refine rr_iload_n 3 rfl rfl dX10_takesSeven_57 ?_
        refine rr_istore_n [(0, .ref 49), (1, .int wd), (2, .int ls), (3, .int (nI (W27 c a k))), (4, .int (nI k))] dX10_takesSeven_58 rfl (by decide) rfl ?_
        refine rr_iinc 4 1 [(0, .ref 49), (1, .int wd), (2, .int ls), (3, .int (nI (W27 c a k))), (4, .int ((nI k) + 1))] dX10_takesSeven_59 rfl rfl (by decide) rfl ?_
        refine rr_goto dX10_takesSeven_62 ?_
        have hc : a + k < e ∧ isL (c (a + k)) = true := by
          rw [by_at hF he (by omega) hs, by_L (fun q => (hF (a + k) (by omega)).2)] at c1
          by_cases q : a + k < e ∧ isL (c (a + k)) = true
          · exact q
          · rw [if_neg q] at c1; exact absurd rfl c1
        exact absurd hc.1 (by omega)
      · skip
        refine rr_bipush 27 rfl dX10_takesSeven_33 ?_
        refine rr_iload_n 3 rfl rfl dX10_takesSeven_35 ?_
        refine rr_imul dX10_takesSeven_36 ?_
        rw [show ((27 : Int32) * (nI (W27 c a k)) : Int32) = (nI (27 * (W27 c a k))) from jj_nm (27) ((W27 c a k))]
        refine rr_aload_n 0 rfl rfl dX10_takesSeven_37 ?_
        refine rr_aload_n 0 rfl rfl dX10_takesSeven_38 ?_
        refine rr_getI dX10_takesSeven_39 fX10_104 lo_49 sh_49 rfl ?_
        rw [show (h 49) 4 = (nI a) from ha]
        refine rr_iload 4 rfl dX10_takesSeven_42 ?_
        refine rr_iadd dX10_takesSeven_44 ?_
        rw [show ((nI a) + (nI k) : Int32) = (nI (a + k)) from nI_add (a) (k)]
        refine rr_callV (As := [.int (nI (a + k))]) (rest := [.int (nI (27 * (W27 c a k)))]) (kc2 := 0) (ks2 := 0) dX10_takesSeven_45 okX10_byteAt lX10_107 lo_49 sh_49 rfl rfl (Nat.le_of_ble_eq_true rfl) (Nat.le_of_ble_eq_true rfl) rfl (by omega) (by simp [jj_rk]) (by simp [jj_rk]) ?_
        refine sp_X10_byteAt (by_in he hs (by omega)) ?_
        show jj_R _ _ kc ks (jj_S, 782, h, g) 48 [(0, .ref 49), (1, .int wd), (2, .int ls), (3, .int (nI (W27 c a k))), (4, .int (nI k))] [.int (vX10_byteAt (h 49) (h 50) (nI (a + k))), .int (nI (27 * (W27 c a k)))] Q
        refine rr_iadd dX10_takesSeven_48 ?_
        refine rr_bipush 97 rfl dX10_takesSeven_49 ?_
        refine rr_isub dX10_takesSeven_51 ?_
        refine rr_iconst 1 rfl dX10_takesSeven_52 ?_
        refine rr_iadd dX10_takesSeven_53 ?_
        refine rr_goto dX10_takesSeven_54 ?_
        refine rr_istore_n [(0, .ref 49), (1, .int wd), (2, .int ls), (3, .int ((((nI (27 * (W27 c a k))) + (vX10_byteAt (h 49) (h 50) (nI (a + k)))) - 97) + 1)), (4, .int (nI k))] dX10_takesSeven_58 rfl (by decide) rfl ?_
        refine rr_iinc 4 1 [(0, .ref 49), (1, .int wd), (2, .int ls), (3, .int ((((nI (27 * (W27 c a k))) + (vX10_byteAt (h 49) (h 50) (nI (a + k)))) - 97) + 1)), (4, .int ((nI k) + 1))] dX10_takesSeven_59 rfl rfl (by decide) rfl ?_
        refine rr_goto dX10_takesSeven_62 ?_
        have hc : a + k < e ∧ isL (c (a + k)) = true := by
          rw [by_at hF he (by omega) hs, by_L (fun q => (hF (a + k) (by omega)).2)] at c1
          by_cases q : a + k < e ∧ isL (c (a + k)) = true
          · exact q
          · rw [if_neg q] at c1; exact absurd rfl c1
        exact absurd hc.1 (by omega)
  | succ n ih =>
    intro k h hn hs ha hF hx hl kq
    refine rr_aload_n 0 rfl rfl dX10_takesSeven_9 ?_
    refine rr_aload_n 0 rfl rfl dX10_takesSeven_10 ?_
    refine rr_getI dX10_takesSeven_11 fX10_104 lo_49 sh_49 rfl ?_
    rw [show (h 49) 4 = (nI a) from ha]
    refine rr_iload 4 rfl dX10_takesSeven_14 ?_
    refine rr_iadd dX10_takesSeven_16 ?_
    rw [show ((nI a) + (nI k) : Int32) = (nI (a + k)) from nI_add (a) (k)]
    refine rr_callV (As := [.int (nI (a + k))]) (rest := []) (kc2 := 0) (ks2 := 0) dX10_takesSeven_17 okX10_byteAt lX10_107 lo_49 sh_49 rfl rfl (Nat.le_of_ble_eq_true rfl) (Nat.le_of_ble_eq_true rfl) rfl (by omega) (by simp [jj_rk]) (by simp [jj_rk]) ?_
    refine sp_X10_byteAt (by_in he hs (by omega)) ?_
    show jj_R _ _ kc ks (jj_S, 782, h, g) 20 [(0, .ref 49), (1, .int wd), (2, .int ls), (3, .int (nI (W27 c a k))), (4, .int (nI k))] [.int (vX10_byteAt (h 49) (h 50) (nI (a + k)))] Q
    refine rr_callS (As := [.int (vX10_byteAt (h 49) (h 50) (nI (a + k)))]) (rest := []) (kc2 := 0) (ks2 := 0) dX10_takesSeven_20 okX10_isSmall lX10_133 rfl (Nat.le_of_ble_eq_true rfl) (Nat.le_of_ble_eq_true rfl) rfl (by omega) (by simp [jj_rk]) (by simp [jj_rk]) ?_
    refine sp_X10_isSmall  ?_
    show jj_R _ _ kc ks (jj_S, 782, h, g) 23 [(0, .ref 49), (1, .int wd), (2, .int ls), (3, .int (nI (W27 c a k))), (4, .int (nI k))] [.int (vX10_isSmall (vX10_byteAt (h 49) (h 50) (nI (a + k))))] Q
    refine rr_if_eq dX10_takesSeven_23 (fun c1 => ?_) (fun c1 => ?_)
    · skip
      have hc : ¬ (a + k < e ∧ isL (c (a + k)) = true) := fun q => by
        rw [by_at hF he (by omega) hs, by_L (fun q => (hF (a + k) (by omega)).2), if_pos q] at c1
        exact absurd c1 (by decide)
      rw [spn_no hc, Nat.add_sub_cancel_left] at kq
      exact kq
    · skip
      refine rr_iload 4 rfl dX10_takesSeven_26 ?_
      refine rr_bipush 6 rfl dX10_takesSeven_28 ?_
      refine rr_icmp_ge dX10_takesSeven_30 (fun c2 => ?_) (fun c2 => ?_)
      · skip
        refine rr_iload_n 3 rfl rfl dX10_takesSeven_57 ?_
        refine rr_istore_n [(0, .ref 49), (1, .int wd), (2, .int ls), (3, .int (nI (W27 c a k))), (4, .int (nI k))] dX10_takesSeven_58 rfl (by decide) rfl ?_
        refine rr_iinc 4 1 [(0, .ref 49), (1, .int wd), (2, .int ls), (3, .int (nI (W27 c a k))), (4, .int ((nI k) + 1))] dX10_takesSeven_59 rfl rfl (by decide) rfl ?_
        refine rr_goto dX10_takesSeven_62 ?_
        have hc : a + k < e ∧ isL (c (a + k)) = true := by
          rw [by_at hF he (by omega) hs, by_L (fun q => (hF (a + k) (by omega)).2)] at c1
          by_cases q : a + k < e ∧ isL (c (a + k)) = true
          · exact q
          · rw [if_neg q] at c1; exact absurd rfl c1
        have hl2 : ∀ i, i < k + 1 → isL (c (a + i)) = true := fun i hi => by
          by_cases q : i = k
          · rw [q]; exact hc.2
          · exact hl i (by omega)
        rw [spn_yes hc.1 hc.2] at kq
        have hk : ¬ k < 6 := fun q => absurd c2 (nI_ge (a := k) (b := 6) q (by decide))
        have hv : W27 c a k = W27 c a (k + 1) := by rw [W27, if_neg hk]
        rw [nI_1, hv]
        exact ih (k := k + 1) (by omega) hs ha hF (by omega) hl2 kq
      · skip
        refine rr_bipush 27 rfl dX10_takesSeven_33 ?_
        refine rr_iload_n 3 rfl rfl dX10_takesSeven_35 ?_
        refine rr_imul dX10_takesSeven_36 ?_
        rw [show ((27 : Int32) * (nI (W27 c a k)) : Int32) = (nI (27 * (W27 c a k))) from jj_nm (27) ((W27 c a k))]
        refine rr_aload_n 0 rfl rfl dX10_takesSeven_37 ?_
        refine rr_aload_n 0 rfl rfl dX10_takesSeven_38 ?_
        refine rr_getI dX10_takesSeven_39 fX10_104 lo_49 sh_49 rfl ?_
        rw [show (h 49) 4 = (nI a) from ha]
        refine rr_iload 4 rfl dX10_takesSeven_42 ?_
        refine rr_iadd dX10_takesSeven_44 ?_
        rw [show ((nI a) + (nI k) : Int32) = (nI (a + k)) from nI_add (a) (k)]
        refine rr_callV (As := [.int (nI (a + k))]) (rest := [.int (nI (27 * (W27 c a k)))]) (kc2 := 0) (ks2 := 0) dX10_takesSeven_45 okX10_byteAt lX10_107 lo_49 sh_49 rfl rfl (Nat.le_of_ble_eq_true rfl) (Nat.le_of_ble_eq_true rfl) rfl (by omega) (by simp [jj_rk]) (by simp [jj_rk]) ?_
        refine sp_X10_byteAt (by_in he hs (by omega)) ?_
        show jj_R _ _ kc ks (jj_S, 782, h, g) 48 [(0, .ref 49), (1, .int wd), (2, .int ls), (3, .int (nI (W27 c a k))), (4, .int (nI k))] [.int (vX10_byteAt (h 49) (h 50) (nI (a + k))), .int (nI (27 * (W27 c a k)))] Q
        refine rr_iadd dX10_takesSeven_48 ?_
        refine rr_bipush 97 rfl dX10_takesSeven_49 ?_
        refine rr_isub dX10_takesSeven_51 ?_
        refine rr_iconst 1 rfl dX10_takesSeven_52 ?_
        refine rr_iadd dX10_takesSeven_53 ?_
        refine rr_goto dX10_takesSeven_54 ?_
        refine rr_istore_n [(0, .ref 49), (1, .int wd), (2, .int ls), (3, .int ((((nI (27 * (W27 c a k))) + (vX10_byteAt (h 49) (h 50) (nI (a + k)))) - 97) + 1)), (4, .int (nI k))] dX10_takesSeven_58 rfl (by decide) rfl ?_
        refine rr_iinc 4 1 [(0, .ref 49), (1, .int wd), (2, .int ls), (3, .int ((((nI (27 * (W27 c a k))) + (vX10_byteAt (h 49) (h 50) (nI (a + k)))) - 97) + 1)), (4, .int ((nI k) + 1))] dX10_takesSeven_59 rfl rfl (by decide) rfl ?_
        refine rr_goto dX10_takesSeven_62 ?_
        have hc : a + k < e ∧ isL (c (a + k)) = true := by
          rw [by_at hF he (by omega) hs, by_L (fun q => (hF (a + k) (by omega)).2)] at c1
          by_cases q : a + k < e ∧ isL (c (a + k)) = true
          · exact q
          · rw [if_neg q] at c1; exact absurd rfl c1
        have hl2 : ∀ i, i < k + 1 → isL (c (a + i)) = true := fun i hi => by
          by_cases q : i = k
          · rw [q]; exact hc.2
          · exact hl i (by omega)
        rw [spn_yes hc.1 hc.2] at kq
        have hk : k < 6 := by
          rcases Nat.lt_or_ge k 6 with q | q
          · exact q
          · exact absurd (nI_le (a := 6) (b := k) q (by omega)) c2
        rw [by_at hF he (by omega) hs, if_pos hc.1, nI_1, w_step hk hc.2]
        exact ih (k := k + 1) (by omega) hs ha hF (by omega) hl2 kq
