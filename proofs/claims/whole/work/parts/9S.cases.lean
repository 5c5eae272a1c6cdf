/-! ===== the law's cases ===== -/
/-- the law over a script of len ints xs -/
abbrev mLw (len : Nat) (xs : Nat → Int32) : jj_Mt := (yL_law_, cL_law_, 8, (some .boolean), [], some (len, xs))
theorem sc_in {len p j : Nat} {x : Int32} (hl : len < 2 ^ 31) (hp : p + 9 ≤ len) (hx : x = nI j) (hj : j ≤ 8) : vp_in (nI p + x) len := by
  rw [hx, nI_add]
  exact vp_in_nI (by omega) hl
theorem lg_same (x : Int64) : lg_cmp x x = 0 := by
  rw [lg_cmp_eq]
theorem u3_out {g : Nat → Nat → Int64} {v : Int64} : jj_u3 g 781 (0 : Int32).toNatClampNeg v 781 (0 : Int32).toNatClampNeg = v := if_pos ⟨rfl, rfl⟩
set_option maxHeartbeats 1000000 in
theorem ca_told {len p d kc ks : Nat} {xs : Nat → Int32} {h : hp_} {g : Nat → Nat → Int64} {Q : jj_Rs → jj_St → Prop} (hl : len < 2 ^ 31) (hp : p + 9 ≤ len) (I : IVx h) (k : ∀ h2 g2, IVx h2 → jj_R (mLw len xs) (d + 66) kc ks (jj_S, 782, h2, g2) 2808 [(0, .ref 999998), (1, .ref 0), (2, .ref 49), (3, .ref 781), (4, .int (nI p))] [] Q) : jj_R (mLw len xs) (d + 66) (kc + 4) (ks + 24) (jj_S, 782, h, g) 559 [(0, .ref 999998), (1, .ref 0), (2, .ref 49), (3, .ref 781), (4, .int (nI p))] [] Q := by
  obtain ⟨_, _, _, _, _, _, _, I⟩ := I
  refine rr_aload_n 1 rfl rfl dL_law__559 ?_
  refine rr_aload_n 0 rfl rfl dL_law__560 ?_
  refine rr_iload 4 rfl dL_law__561 ?_
  refine rr_iconst 1 rfl dL_law__563 ?_
  refine rr_iadd dL_law__564 ?_
  refine rr_siaload (len := len) (xs := xs) rfl dL_law__565 (sc_in (j := 1) hl hp rfl (by decide)) ?_
  refine rr_aload_n 3 rfl rfl dL_law__566 ?_
  obtain ⟨mid, k1, k2⟩ := dual_2 (du_told I (xs (nI p + 1).toNatClampNeg))
  refine rr_callSW (As := [.ref 0, .int (xs (nI p + 1).toNatClampNeg), .ref 781]) (rest := []) (kc2 := 4) (ks2 := 24) dL_law__567 okL_told lL_162 rfl (Nat.le_of_ble_eq_true rfl) (Nat.le_of_ble_eq_true rfl) rfl (by omega) (by simp [jj_rk]) (by simp [jj_rk]) ?_
  refine w_told (fun Q2 hq => k1 (d + 24) 0 0 g Q2 (fun r h1 mm => hq r _ ?_))
  obtain ⟨v, th, lk, kr⟩ := k2 r h1 mm
  have tail : ∀ (cd : Int32) (g' : Nat → Nat → Int64), (cd = 0 → g' 781 (0 : Int32).toNatClampNeg = v.toInt64) → th = cd → jj_R (mLw len xs) (d + 66) (kc + 4 - 4) (ks + 24 - 24) (jj_S, 782, h1, g') 570 [(0, .ref 999998), (1, .ref 0), (2, .ref 49), (3, .ref 781), (4, .int (nI p))] [.int cd] Q := fun cd g' hg hth => by
    refine rr_istore [(0, .ref 999998), (1, .ref 0), (2, .ref 49), (3, .ref 781), (4, .int (nI p)), (5, .int cd)] dL_law__570 (Nat.le_of_ble_eq_true rfl) rfl ?_
    refine rr_aload_n 2 rfl rfl dL_law__572 ?_
    refine rr_aload_n 0 rfl rfl dL_law__573 ?_
    refine rr_iload 4 rfl dL_law__574 ?_
    refine rr_iconst 1 rfl dL_law__576 ?_
    refine rr_iadd dL_law__577 ?_
    refine rr_siaload (len := len) (xs := xs) rfl dL_law__578 (sc_in (j := 1) hl hp rfl (by decide)) ?_
    refine rr_callV (As := [.int (xs (nI p + 1).toNatClampNeg)]) (rest := []) (kc2 := 0) (ks2 := 0) dL_law__579 okX10_told lL_164 lo_49 sh_49 rfl rfl (Nat.le_of_ble_eq_true rfl) (Nat.le_of_ble_eq_true rfl) rfl (by omega) (by simp [jj_rk]) (by simp [jj_rk]) ?_
    refine kr (d + 1) 0 0 g' _ (fun h2 i2 t2 => ?_)
    show jj_R (mLw len xs) (d + 66) _ _ (jj_S, 782, h2, g') 582 [(0, .ref 999998), (1, .ref 0), (2, .ref 49), (3, .ref 781), (4, .int (nI p)), (5, .int cd)] [.int v] Q
    refine rr_istore [(0, .ref 999998), (1, .ref 0), (2, .ref 49), (3, .ref 781), (4, .int (nI p)), (5, .int cd), (6, .int v)] dL_law__582 (Nat.le_of_ble_eq_true rfl) rfl ?_
    refine rr_aload_n 2 rfl rfl dL_law__584 ?_
    refine rr_callV (As := []) (rest := []) (kc2 := 0) (ks2 := 0) dL_law__585 okX10_thrown lL_141 lo_49 sh_49 rfl rfl (Nat.le_of_ble_eq_true rfl) (Nat.le_of_ble_eq_true rfl) rfl (by omega) (by simp [jj_rk]) (by simp [jj_rk]) ?_
    refine sp_X10_thrown (d := d + 65) ?_
    show jj_R (mLw len xs) (d + 66) _ _ (jj_S, 782, h2, g') 588 [(0, .ref 999998), (1, .ref 0), (2, .ref 49), (3, .ref 781), (4, .int (nI p)), (5, .int cd), (6, .int v)] [.int (h2 49 0)] Q
    refine rr_iload 5 rfl dL_law__588 ?_
    refine rr_icmp_eq dL_law__590 (fun _ => ?_) (fun q => absurd (t2.trans hth) q)
    have fin : jj_R (mLw len xs) (d + 66) (kc + 4 - 4 - 0 - 0) (ks + 24 - 24 - 0 - 0) (jj_S, 782, h2, g') 612 [(0, .ref 999998), (1, .ref 0), (2, .ref 49), (3, .ref 781), (4, .int (nI p)), (5, .int cd), (6, .int v)] [] Q := by
      refine rr_goto dL_law__612 ?_
      refine rr_drop (ls := [(0, .ref 999998), (1, .ref 0), (2, .ref 49), (3, .ref 781), (4, .int (nI p))]) [0, 1, 2, 3, 4] rfl ?_
      exact k h2 g' i2
    refine rr_iload 5 rfl dL_law__595 ?_
    refine rr_if_ne dL_law__597 (fun _ => fin) (fun q => ?_)
    refine rr_aload_n 3 rfl rfl dL_law__600 ?_
    refine rr_iconst 0 rfl dL_law__601 ?_
    refine rr_laload dL_law__602 lo_781 sh_781 vp01 ?_
    refine rr_iload 6 rfl dL_law__603 ?_
    refine rr_i2l dL_law__605 ?_
    refine rr_lcmp dL_law__606 ?_
    refine rr_if_eq dL_law__607 (fun _ => fin) (fun z => absurd (by rw [hg q]; exact lg_same _) z)
  rcases lk with ⟨rfl, rfl⟩ | ⟨b0, rfl, rfl⟩ | ⟨b0, rfl, rfl⟩
  · exact ⟨h1, g, rfl, Or.inl ⟨v, rfl, tail 0 _ (fun _ => u3_out) rfl⟩⟩
  · cases b0
  · exact ⟨h1, g, rfl, Or.inr (Or.inr ⟨rfl, rfl, tail _ g (fun z => absurd z (by decide)) rfl⟩)⟩
set_option maxHeartbeats 1000000 in
theorem ca_person {len p d kc ks : Nat} {xs : Nat → Int32} {h : hp_} {g : Nat → Nat → Int64} {Q : jj_Rs → jj_St → Prop} (hl : len < 2 ^ 31) (hp : p + 9 ≤ len) (I : IVx h) (k : ∀ h2 g2, IVx h2 → jj_R (mLw len xs) (d + 66) kc ks (jj_S, 782, h2, g2) 2808 [(0, .ref 999998), (1, .ref 0), (2, .ref 49), (3, .ref 781), (4, .int (nI p))] [] Q) : jj_R (mLw len xs) (d + 66) (kc + 4) (ks + 24) (jj_S, 782, h, g) 615 [(0, .ref 999998), (1, .ref 0), (2, .ref 49), (3, .ref 781), (4, .int (nI p))] [] Q := by
  obtain ⟨_, _, _, _, _, _, _, I⟩ := I
  refine rr_aload_n 1 rfl rfl dL_law__615 ?_
  refine rr_aload_n 0 rfl rfl dL_law__616 ?_
  refine rr_iload 4 rfl dL_law__617 ?_
  refine rr_iconst 1 rfl dL_law__619 ?_
  refine rr_iadd dL_law__620 ?_
  refine rr_siaload (len := len) (xs := xs) rfl dL_law__621 (sc_in (j := 1) hl hp rfl (by decide)) ?_
  refine rr_aload_n 0 rfl rfl dL_law__622 ?_
  refine rr_iload 4 rfl dL_law__623 ?_
  refine rr_iconst 2 rfl dL_law__625 ?_
  refine rr_iadd dL_law__626 ?_
  refine rr_siaload (len := len) (xs := xs) rfl dL_law__627 (sc_in (j := 2) hl hp rfl (by decide)) ?_
  refine rr_aload_n 3 rfl rfl dL_law__628 ?_
  obtain ⟨mid, k1, k2⟩ := dual_2 (du_person I (xs (nI p + 1).toNatClampNeg) (xs (nI p + 2).toNatClampNeg))
  refine rr_callSW (As := [.ref 0, .int (xs (nI p + 1).toNatClampNeg), .int (xs (nI p + 2).toNatClampNeg), .ref 781]) (rest := []) (kc2 := 4) (ks2 := 24) dL_law__629 okL_person lL_165 rfl (Nat.le_of_ble_eq_true rfl) (Nat.le_of_ble_eq_true rfl) rfl (by omega) (by simp [jj_rk]) (by simp [jj_rk]) ?_
  refine w_person (fun Q2 hq => k1 (d + 24) 0 0 g Q2 (fun r h1 mm => hq r _ ?_))
  obtain ⟨v, th, lk, kr⟩ := k2 r h1 mm
  have tail : ∀ (cd : Int32) (g' : Nat → Nat → Int64), (cd = 0 → g' 781 (0 : Int32).toNatClampNeg = v.toInt64) → th = cd → jj_R (mLw len xs) (d + 66) (kc + 4 - 4) (ks + 24 - 24) (jj_S, 782, h1, g') 632 [(0, .ref 999998), (1, .ref 0), (2, .ref 49), (3, .ref 781), (4, .int (nI p))] [.int cd] Q := fun cd g' hg hth => by
    refine rr_istore [(0, .ref 999998), (1, .ref 0), (2, .ref 49), (3, .ref 781), (4, .int (nI p)), (5, .int cd)] dL_law__632 (Nat.le_of_ble_eq_true rfl) rfl ?_
    refine rr_aload_n 2 rfl rfl dL_law__634 ?_
    refine rr_aload_n 0 rfl rfl dL_law__635 ?_
    refine rr_iload 4 rfl dL_law__636 ?_
    refine rr_iconst 1 rfl dL_law__638 ?_
    refine rr_iadd dL_law__639 ?_
    refine rr_siaload (len := len) (xs := xs) rfl dL_law__640 (sc_in (j := 1) hl hp rfl (by decide)) ?_
    refine rr_aload_n 0 rfl rfl dL_law__641 ?_
    refine rr_iload 4 rfl dL_law__642 ?_
    refine rr_iconst 2 rfl dL_law__644 ?_
    refine rr_iadd dL_law__645 ?_
    refine rr_siaload (len := len) (xs := xs) rfl dL_law__646 (sc_in (j := 2) hl hp rfl (by decide)) ?_
    refine rr_callV (As := [.int (xs (nI p + 1).toNatClampNeg), .int (xs (nI p + 2).toNatClampNeg)]) (rest := []) (kc2 := 0) (ks2 := 0) dL_law__647 okX10_person lL_168 lo_49 sh_49 rfl rfl (Nat.le_of_ble_eq_true rfl) (Nat.le_of_ble_eq_true rfl) rfl (by omega) (by simp [jj_rk]) (by simp [jj_rk]) ?_
    refine kr (d + 1) 0 0 g' _ (fun h2 i2 t2 => ?_)
    show jj_R (mLw len xs) (d + 66) _ _ (jj_S, 782, h2, g') 650 [(0, .ref 999998), (1, .ref 0), (2, .ref 49), (3, .ref 781), (4, .int (nI p)), (5, .int cd)] [.int v] Q
    refine rr_istore [(0, .ref 999998), (1, .ref 0), (2, .ref 49), (3, .ref 781), (4, .int (nI p)), (5, .int cd), (6, .int v)] dL_law__650 (Nat.le_of_ble_eq_true rfl) rfl ?_
    refine rr_aload_n 2 rfl rfl dL_law__652 ?_
    refine rr_callV (As := []) (rest := []) (kc2 := 0) (ks2 := 0) dL_law__653 okX10_thrown lL_141 lo_49 sh_49 rfl rfl (Nat.le_of_ble_eq_true rfl) (Nat.le_of_ble_eq_true rfl) rfl (by omega) (by simp [jj_rk]) (by simp [jj_rk]) ?_
    refine sp_X10_thrown (d := d + 65) ?_
    show jj_R (mLw len xs) (d + 66) _ _ (jj_S, 782, h2, g') 656 [(0, .ref 999998), (1, .ref 0), (2, .ref 49), (3, .ref 781), (4, .int (nI p)), (5, .int cd), (6, .int v)] [.int (h2 49 0)] Q
    refine rr_iload 5 rfl dL_law__656 ?_
    refine rr_icmp_eq dL_law__658 (fun _ => ?_) (fun q => absurd (t2.trans hth) q)
    have fin : jj_R (mLw len xs) (d + 66) (kc + 4 - 4 - 0 - 0) (ks + 24 - 24 - 0 - 0) (jj_S, 782, h2, g') 680 [(0, .ref 999998), (1, .ref 0), (2, .ref 49), (3, .ref 781), (4, .int (nI p)), (5, .int cd), (6, .int v)] [] Q := by
      refine rr_goto dL_law__680 ?_
      refine rr_drop (ls := [(0, .ref 999998), (1, .ref 0), (2, .ref 49), (3, .ref 781), (4, .int (nI p))]) [0, 1, 2, 3, 4] rfl ?_
      exact k h2 g' i2
    refine rr_iload 5 rfl dL_law__663 ?_
    refine rr_if_ne dL_law__665 (fun _ => fin) (fun q => ?_)
    refine rr_aload_n 3 rfl rfl dL_law__668 ?_
    refine rr_iconst 0 rfl dL_law__669 ?_
    refine rr_laload dL_law__670 lo_781 sh_781 vp01 ?_
    refine rr_iload 6 rfl dL_law__671 ?_
    refine rr_i2l dL_law__673 ?_
    refine rr_lcmp dL_law__674 ?_
    refine rr_if_eq dL_law__675 (fun _ => fin) (fun z => absurd (by rw [hg q]; exact lg_same _) z)
  rcases lk with ⟨rfl, rfl⟩ | ⟨b0, rfl, rfl⟩ | ⟨b0, rfl, rfl⟩
  · exact ⟨h1, g, rfl, Or.inl ⟨v, rfl, tail 0 _ (fun _ => u3_out) rfl⟩⟩
  · exact ⟨h1, g, rfl, Or.inr (Or.inl ⟨rfl, rfl, tail 1 g (fun z => absurd z (by decide)) rfl⟩)⟩
  · exact ⟨h1, g, rfl, Or.inr (Or.inr ⟨rfl, rfl, tail _ g (fun z => absurd z (by decide)) rfl⟩)⟩
set_option maxHeartbeats 1000000 in
theorem ca_street {len p d kc ks : Nat} {xs : Nat → Int32} {h : hp_} {g : Nat → Nat → Int64} {Q : jj_Rs → jj_St → Prop} (hl : len < 2 ^ 31) (hp : p + 9 ≤ len) (I : IVx h) (k : ∀ h2 g2, IVx h2 → jj_R (mLw len xs) (d + 66) kc ks (jj_S, 782, h2, g2) 2808 [(0, .ref 999998), (1, .ref 0), (2, .ref 49), (3, .ref 781), (4, .int (nI p))] [] Q) : jj_R (mLw len xs) (d + 66) (kc + 4) (ks + 24) (jj_S, 782, h, g) 309 [(0, .ref 999998), (1, .ref 0), (2, .ref 49), (3, .ref 781), (4, .int (nI p))] [] Q := by
  obtain ⟨_, _, _, _, _, _, _, I⟩ := I
  refine rr_aload_n 1 rfl rfl dL_law__309 ?_
  refine rr_aload_n 0 rfl rfl dL_law__310 ?_
  refine rr_iload 4 rfl dL_law__311 ?_
  refine rr_iconst 1 rfl dL_law__313 ?_
  refine rr_iadd dL_law__314 ?_
  refine rr_siaload (len := len) (xs := xs) rfl dL_law__315 (sc_in (j := 1) hl hp rfl (by decide)) ?_
  refine rr_aload_n 3 rfl rfl dL_law__316 ?_
  obtain ⟨mid, k1, k2⟩ := du_street I (xs (nI p + 1).toNatClampNeg)
  refine rr_callSW (As := [.ref 0, .int (xs (nI p + 1).toNatClampNeg), .ref 781]) (rest := []) (kc2 := 4) (ks2 := 24) dL_law__317 okL_street lL_135 rfl (Nat.le_of_ble_eq_true rfl) (Nat.le_of_ble_eq_true rfl) rfl (by omega) (by simp [jj_rk]) (by simp [jj_rk]) ?_
  refine w_street (fun Q2 hq => k1 (d + 24) 0 0 g Q2 (fun r h1 mm => hq r _ ?_))
  obtain ⟨v, th, lk, kr⟩ := k2 r h1 mm
  have tail : ∀ (cd : Int32) (g' : Nat → Nat → Int64), (cd = 0 → g' 781 (0 : Int32).toNatClampNeg = v.toInt64) → th = cd → jj_R (mLw len xs) (d + 66) (kc + 4 - 4) (ks + 24 - 24) (jj_S, 782, h1, g') 320 [(0, .ref 999998), (1, .ref 0), (2, .ref 49), (3, .ref 781), (4, .int (nI p))] [.int cd] Q := fun cd g' hg hth => by
    refine rr_istore [(0, .ref 999998), (1, .ref 0), (2, .ref 49), (3, .ref 781), (4, .int (nI p)), (5, .int cd)] dL_law__320 (Nat.le_of_ble_eq_true rfl) rfl ?_
    refine rr_aload_n 2 rfl rfl dL_law__322 ?_
    refine rr_aload_n 0 rfl rfl dL_law__323 ?_
    refine rr_iload 4 rfl dL_law__324 ?_
    refine rr_iconst 1 rfl dL_law__326 ?_
    refine rr_iadd dL_law__327 ?_
    refine rr_siaload (len := len) (xs := xs) rfl dL_law__328 (sc_in (j := 1) hl hp rfl (by decide)) ?_
    refine rr_callV (As := [.int (xs (nI p + 1).toNatClampNeg)]) (rest := []) (kc2 := 0) (ks2 := 0) dL_law__329 okX10_street lL_140 lo_49 sh_49 rfl rfl (Nat.le_of_ble_eq_true rfl) (Nat.le_of_ble_eq_true rfl) rfl (by omega) (by simp [jj_rk]) (by simp [jj_rk]) ?_
    refine kr (d + 1) 0 0 g' _ (fun h2 i2 t2 => ?_)
    show jj_R (mLw len xs) (d + 66) _ _ (jj_S, 782, h2, g') 332 [(0, .ref 999998), (1, .ref 0), (2, .ref 49), (3, .ref 781), (4, .int (nI p)), (5, .int cd)] [.int v] Q
    refine rr_istore [(0, .ref 999998), (1, .ref 0), (2, .ref 49), (3, .ref 781), (4, .int (nI p)), (5, .int cd), (6, .int v)] dL_law__332 (Nat.le_of_ble_eq_true rfl) rfl ?_
    refine rr_aload_n 2 rfl rfl dL_law__334 ?_
    refine rr_callV (As := []) (rest := []) (kc2 := 0) (ks2 := 0) dL_law__335 okX10_thrown lL_141 lo_49 sh_49 rfl rfl (Nat.le_of_ble_eq_true rfl) (Nat.le_of_ble_eq_true rfl) rfl (by omega) (by simp [jj_rk]) (by simp [jj_rk]) ?_
    refine sp_X10_thrown (d := d + 65) ?_
    show jj_R (mLw len xs) (d + 66) _ _ (jj_S, 782, h2, g') 338 [(0, .ref 999998), (1, .ref 0), (2, .ref 49), (3, .ref 781), (4, .int (nI p)), (5, .int cd), (6, .int v)] [.int (h2 49 0)] Q
    refine rr_iload 5 rfl dL_law__338 ?_
    refine rr_icmp_eq dL_law__340 (fun _ => ?_) (fun q => absurd (t2.trans hth) q)
    have fin : jj_R (mLw len xs) (d + 66) (kc + 4 - 4 - 0 - 0) (ks + 24 - 24 - 0 - 0) (jj_S, 782, h2, g') 362 [(0, .ref 999998), (1, .ref 0), (2, .ref 49), (3, .ref 781), (4, .int (nI p)), (5, .int cd), (6, .int v)] [] Q := by
      refine rr_goto dL_law__362 ?_
      refine rr_drop (ls := [(0, .ref 999998), (1, .ref 0), (2, .ref 49), (3, .ref 781), (4, .int (nI p))]) [0, 1, 2, 3, 4] rfl ?_
      exact k h2 g' i2
    refine rr_iload 5 rfl dL_law__345 ?_
    refine rr_if_ne dL_law__347 (fun _ => fin) (fun q => ?_)
    refine rr_aload_n 3 rfl rfl dL_law__350 ?_
    refine rr_iconst 0 rfl dL_law__351 ?_
    refine rr_laload dL_law__352 lo_781 sh_781 vp01 ?_
    refine rr_iload 6 rfl dL_law__353 ?_
    refine rr_i2l dL_law__355 ?_
    refine rr_lcmp dL_law__356 ?_
    refine rr_if_eq dL_law__357 (fun _ => fin) (fun z => absurd (by rw [hg q]; exact lg_same _) z)
  rcases lk with ⟨rfl, rfl⟩ | ⟨b0, rfl, rfl⟩ | ⟨b0, rfl, rfl⟩
  · exact ⟨h1, g, rfl, Or.inl ⟨v, rfl, tail 0 _ (fun _ => u3_out) rfl⟩⟩
  · cases b0
  · exact ⟨h1, g, rfl, Or.inr (Or.inr ⟨rfl, rfl, tail _ g (fun z => absurd z (by decide)) rfl⟩)⟩
