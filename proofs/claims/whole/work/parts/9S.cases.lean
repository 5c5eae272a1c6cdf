/-! ===== the law's cases ===== -/
/-- the law over a script of len ints xs -/
abbrev mLw (len : Nat) (xs : Nat → Int32) : jj_Mt := (yL_law_, cL_law_, 8, (some .boolean), [], some (len, xs))
theorem sc_in {len p j : Nat} {x : Int32} (hl : len < 2 ^ 31) (hp : p + 9 ≤ len) (hx : x = nI j) (hj : j ≤ 8) : vp_in (nI p + x) len := by
  rw [hx, nI_add]
  exact vp_in_nI (by omega) hl
theorem lg_same (x : Int64) : lg_cmp x x = 0 := by
  rw [lg_cmp_eq]
theorem u3_out {g : Nat → Nat → Int64} {v : Int64} : jj_u3 g 781 (0 : Int32).toNatClampNeg v 781 (0 : Int32).toNatClampNeg = v := if_pos ⟨rfl, rfl⟩
set_option maxHeartbeats 1000000 in
theorem ca_street {len p d kc ks : Nat} {xs : Nat → Int32} {h : hp_} {g : Nat → Nat → Int64} {Q : jj_Rs → jj_St → Prop} (hl : len < 2 ^ 31) (hp : p + 9 ≤ len) (I : IVx h) (k : ∀ h2 g2, IVx h2 → jj_R (mLw len xs) (d + 66) kc ks (jj_S, 782, h2, g2) 2808 [(0, .ref 999998), (1, .ref 0), (2, .ref 49), (3, .ref 781), (4, .int (nI p))] [] Q) : jj_R (mLw len xs) (d + 66) (kc + 4) (ks + 24) (jj_S, 782, h, g) 309 [(0, .ref 999998), (1, .ref 0), (2, .ref 49), (3, .ref 781), (4, .int (nI p))] [] Q := by
  obtain ⟨_, _, _, _, _, _, _, I⟩ := I
  refine rr_aload_n 1 rfl rfl dL_law__309 ?_
  refine rr_aload_n 0 rfl rfl dL_law__310 ?_
  refine rr_iload 4 rfl dL_law__311 ?_
  refine rr_iconst 1 rfl dL_law__313 ?_
  refine rr_iadd dL_law__314 ?_
  refine rr_siaload (len := len) (xs := xs) rfl dL_law__315 (sc_in (j := 1) hl hp rfl (by decide)) ?_
  refine rr_aload_n 3 rfl rfl dL_law__316 ?_
  obtain ⟨mid, k1, k2⟩ := du_street I (xs (nI p + 1).toNatClampNeg)
  refine rr_callSW (As := [.ref 0, .int (xs (nI p + 1).toNatClampNeg), .ref 781]) (rest := []) (kc2 := 4) (ks2 := 24) dL_law__317 okL_street lL_135 rfl (Nat.le_of_ble_eq_true rfl) (Nat.le_of_ble_eq_true rfl) rfl (by omega) (by simp [jj_rk]) (by simp [jj_rk]) ?_
  refine w_street (fun Q2 hq => k1 (d + 24) 0 0 g Q2 (fun r h1 mm => hq r _ ?_))
  obtain ⟨v, th, lk, kr⟩ := k2 r h1 mm
  have tail : ∀ (cd : Int32) (g' : Nat → Nat → Int64), (cd = 0 → g' 781 (0 : Int32).toNatClampNeg = v.toInt64) → th = cd → jj_R (mLw len xs) (d + 66) (kc + 4 - 4) (ks + 24 - 24) (jj_S, 782, h1, g') 320 [(0, .ref 999998), (1, .ref 0), (2, .ref 49), (3, .ref 781), (4, .int (nI p))] [.int cd] Q := fun cd g' hg hth => by
    refine rr_istore [(0, .ref 999998), (1, .ref 0), (2, .ref 49), (3, .ref 781), (4, .int (nI p)), (5, .int cd)] dL_law__320 (Nat.le_of_ble_eq_true rfl) rfl ?_
    refine rr_aload_n 2 rfl rfl dL_law__322 ?_
    refine rr_aload_n 0 rfl rfl dL_law__323 ?_
    refine rr_iload 4 rfl dL_law__324 ?_
    refine rr_iconst 1 rfl dL_law__326 ?_
    refine rr_iadd dL_law__327 ?_
    refine rr_siaload (len := len) (xs := xs) rfl dL_law__328 (sc_in (j := 1) hl hp rfl (by decide)) ?_
    refine rr_callV (As := [.int (xs (nI p + 1).toNatClampNeg)]) (rest := []) (kc2 := 0) (ks2 := 0) dL_law__329 okX10_street lL_140 lo_49 sh_49 rfl rfl (Nat.le_of_ble_eq_true rfl) (Nat.le_of_ble_eq_true rfl) rfl (by omega) (by simp [jj_rk]) (by simp [jj_rk]) ?_
    refine kr (d + 1) 0 0 g' _ (fun h2 i2 t2 => ?_)
    show jj_R (mLw len xs) (d + 66) _ _ (jj_S, 782, h2, g') 332 [(0, .ref 999998), (1, .ref 0), (2, .ref 49), (3, .ref 781), (4, .int (nI p)), (5, .int cd)] [.int v] Q
    refine rr_istore [(0, .ref 999998), (1, .ref 0), (2, .ref 49), (3, .ref 781), (4, .int (nI p)), (5, .int cd), (6, .int v)] dL_law__332 (Nat.le_of_ble_eq_true rfl) rfl ?_
    refine rr_aload_n 2 rfl rfl dL_law__334 ?_
    refine rr_callV (As := []) (rest := []) (kc2 := 0) (ks2 := 0) dL_law__335 okX10_thrown lL_141 lo_49 sh_49 rfl rfl (Nat.le_of_ble_eq_true rfl) (Nat.le_of_ble_eq_true rfl) rfl (by omega) (by simp [jj_rk]) (by simp [jj_rk]) ?_
    refine sp_X10_thrown (d := d + 65) ?_
    show jj_R (mLw len xs) (d + 66) _ _ (jj_S, 782, h2, g') 338 [(0, .ref 999998), (1, .ref 0), (2, .ref 49), (3, .ref 781), (4, .int (nI p)), (5, .int cd), (6, .int v)] [.int (h2 49 0)] Q
    refine rr_iload 5 rfl dL_law__338 ?_
    refine rr_icmp_eq dL_law__340 (fun _ => ?_) (fun q => absurd (t2.trans hth) q)
    have fin : jj_R (mLw len xs) (d + 66) (kc + 4 - 4 - 0 - 0) (ks + 24 - 24 - 0 - 0) (jj_S, 782, h2, g') 362 [(0, .ref 999998), (1, .ref 0), (2, .ref 49), (3, .ref 781), (4, .int (nI p)), (5, .int cd), (6, .int v)] [] Q := by
      refine rr_goto dL_law__362 ?_
      refine rr_drop (ls := [(0, .ref 999998), (1, .ref 0), (2, .ref 49), (3, .ref 781), (4, .int (nI p))]) [0, 1, 2, 3, 4] rfl ?_
      exact k h2 g' i2
    refine rr_iload 5 rfl dL_law__345 ?_
    refine rr_if_ne dL_law__347 (fun _ => fin) (fun q => ?_)
    refine rr_aload_n 3 rfl rfl dL_law__350 ?_
    refine rr_iconst 0 rfl dL_law__351 ?_
    refine rr_laload dL_law__352 lo_781 sh_781 vp01 ?_
    refine rr_iload 6 rfl dL_law__353 ?_
    refine rr_i2l dL_law__355 ?_
    refine rr_lcmp dL_law__356 ?_
    refine rr_if_eq dL_law__357 (fun _ => fin) (fun z => absurd (by rw [hg q]; exact lg_same _) z)
  rcases lk with ⟨rfl, rfl⟩ | ⟨b0, rfl, rfl⟩ | ⟨b0, rfl, rfl⟩
  · exact ⟨h1, g, rfl, Or.inl ⟨v, rfl, tail 0 _ (fun _ => u3_out) rfl⟩⟩
  · cases b0
  · exact ⟨h1, g, rfl, Or.inr (Or.inr ⟨rfl, rfl, tail _ g (fun z => absurd z (by decide)) rfl⟩)⟩
set_option maxHeartbeats 1000000 in
theorem ca_law {len p d kc ks : Nat} {xs : Nat → Int32} {h : hp_} {g : Nat → Nat → Int64} {Q : jj_Rs → jj_St → Prop} (hl : len < 2 ^ 31) (hp : p + 9 ≤ len) (I : IVx h) (k : ∀ h2 g2, IVx h2 → jj_R (mLw len xs) (d + 66) kc ks (jj_S, 782, h2, g2) 2808 [(0, .ref 999998), (1, .ref 0), (2, .ref 49), (3, .ref 781), (4, .int (nI p))] [] Q) : jj_R (mLw len xs) (d + 66) (kc + 4) (ks + 24) (jj_S, 782, h, g) 365 [(0, .ref 999998), (1, .ref 0), (2, .ref 49), (3, .ref 781), (4, .int (nI p))] [] Q := by
  obtain ⟨_, _, _, _, _, _, _, I⟩ := I
  refine rr_aload_n 1 rfl rfl dL_law__365 ?_
  refine rr_aload_n 0 rfl rfl dL_law__366 ?_
  refine rr_iload 4 rfl dL_law__367 ?_
  refine rr_iconst 1 rfl dL_law__369 ?_
  refine rr_iadd dL_law__370 ?_
  refine rr_siaload (len := len) (xs := xs) rfl dL_law__371 (sc_in (j := 1) hl hp rfl (by decide)) ?_
  refine rr_aload_n 3 rfl rfl dL_law__372 ?_
  obtain ⟨mid, k1, k2⟩ := du_law I (xs (nI p + 1).toNatClampNeg)
  refine rr_callSW (As := [.ref 0, .int (xs (nI p + 1).toNatClampNeg), .ref 781]) (rest := []) (kc2 := 4) (ks2 := 24) dL_law__373 okL_law lL_145 rfl (Nat.le_of_ble_eq_true rfl) (Nat.le_of_ble_eq_true rfl) rfl (by omega) (by simp [jj_rk]) (by simp [jj_rk]) ?_
  refine w_law (fun Q2 hq => k1 (d + 24) 0 0 g Q2 (fun r h1 mm => hq r _ ?_))
  obtain ⟨v, th, lk, kr⟩ := k2 r h1 mm
  have tail : ∀ (cd : Int32) (g' : Nat → Nat → Int64), (cd = 0 → g' 781 (0 : Int32).toNatClampNeg = v.toInt64) → th = cd → jj_R (mLw len xs) (d + 66) (kc + 4 - 4) (ks + 24 - 24) (jj_S, 782, h1, g') 376 [(0, .ref 999998), (1, .ref 0), (2, .ref 49), (3, .ref 781), (4, .int (nI p))] [.int cd] Q := fun cd g' hg hth => by
    refine rr_istore [(0, .ref 999998), (1, .ref 0), (2, .ref 49), (3, .ref 781), (4, .int (nI p)), (5, .int cd)] dL_law__376 (Nat.le_of_ble_eq_true rfl) rfl ?_
    refine rr_aload_n 2 rfl rfl dL_law__378 ?_
    refine rr_aload_n 0 rfl rfl dL_law__379 ?_
    refine rr_iload 4 rfl dL_law__380 ?_
    refine rr_iconst 1 rfl dL_law__382 ?_
    refine rr_iadd dL_law__383 ?_
    refine rr_siaload (len := len) (xs := xs) rfl dL_law__384 (sc_in (j := 1) hl hp rfl (by decide)) ?_
    refine rr_callV (As := [.int (xs (nI p + 1).toNatClampNeg)]) (rest := []) (kc2 := 0) (ks2 := 0) dL_law__385 okX10_law lL_147 lo_49 sh_49 rfl rfl (Nat.le_of_ble_eq_true rfl) (Nat.le_of_ble_eq_true rfl) rfl (by omega) (by simp [jj_rk]) (by simp [jj_rk]) ?_
    refine kr (d + 1) 0 0 g' _ (fun h2 i2 t2 => ?_)
    show jj_R (mLw len xs) (d + 66) _ _ (jj_S, 782, h2, g') 388 [(0, .ref 999998), (1, .ref 0), (2, .ref 49), (3, .ref 781), (4, .int (nI p)), (5, .int cd)] [.int v] Q
    refine rr_istore [(0, .ref 999998), (1, .ref 0), (2, .ref 49), (3, .ref 781), (4, .int (nI p)), (5, .int cd), (6, .int v)] dL_law__388 (Nat.le_of_ble_eq_true rfl) rfl ?_
    refine rr_aload_n 2 rfl rfl dL_law__390 ?_
    refine rr_callV (As := []) (rest := []) (kc2 := 0) (ks2 := 0) dL_law__391 okX10_thrown lL_141 lo_49 sh_49 rfl rfl (Nat.le_of_ble_eq_true rfl) (Nat.le_of_ble_eq_true rfl) rfl (by omega) (by simp [jj_rk]) (by simp [jj_rk]) ?_
    refine sp_X10_thrown (d := d + 65) ?_
    show jj_R (mLw len xs) (d + 66) _ _ (jj_S, 782, h2, g') 394 [(0, .ref 999998), (1, .ref 0), (2, .ref 49), (3, .ref 781), (4, .int (nI p)), (5, .int cd), (6, .int v)] [.int (h2 49 0)] Q
    refine rr_iload 5 rfl dL_law__394 ?_
    refine rr_icmp_eq dL_law__396 (fun _ => ?_) (fun q => absurd (t2.trans hth) q)
    have fin : jj_R (mLw len xs) (d + 66) (kc + 4 - 4 - 0 - 0) (ks + 24 - 24 - 0 - 0) (jj_S, 782, h2, g') 418 [(0, .ref 999998), (1, .ref 0), (2, .ref 49), (3, .ref 781), (4, .int (nI p)), (5, .int cd), (6, .int v)] [] Q := by
      refine rr_goto dL_law__418 ?_
      refine rr_drop (ls := [(0, .ref 999998), (1, .ref 0), (2, .ref 49), (3, .ref 781), (4, .int (nI p))]) [0, 1, 2, 3, 4] rfl ?_
      exact k h2 g' i2
    refine rr_iload 5 rfl dL_law__401 ?_
    refine rr_if_ne dL_law__403 (fun _ => fin) (fun q => ?_)
    refine rr_aload_n 3 rfl rfl dL_law__406 ?_
    refine rr_iconst 0 rfl dL_law__407 ?_
    refine rr_laload dL_law__408 lo_781 sh_781 vp01 ?_
    refine rr_iload 6 rfl dL_law__409 ?_
    refine rr_i2l dL_law__411 ?_
    refine rr_lcmp dL_law__412 ?_
    refine rr_if_eq dL_law__413 (fun _ => fin) (fun z => absurd (by rw [hg q]; exact lg_same _) z)
  rcases lk with ⟨rfl, rfl⟩ | ⟨b0, rfl, rfl⟩ | ⟨b0, rfl, rfl⟩
  · exact ⟨h1, g, rfl, Or.inl ⟨v, rfl, tail 0 _ (fun _ => u3_out) rfl⟩⟩
  · cases b0
  · exact ⟨h1, g, rfl, Or.inr (Or.inr ⟨rfl, rfl, tail _ g (fun z => absurd z (by decide)) rfl⟩)⟩
set_option maxHeartbeats 1000000 in
theorem ca_work {len p d kc ks : Nat} {xs : Nat → Int32} {h : hp_} {g : Nat → Nat → Int64} {Q : jj_Rs → jj_St → Prop} (hl : len < 2 ^ 31) (hp : p + 9 ≤ len) (I : IVx h) (k : ∀ h2 g2, IVx h2 → jj_R (mLw len xs) (d + 66) kc ks (jj_S, 782, h2, g2) 2808 [(0, .ref 999998), (1, .ref 0), (2, .ref 49), (3, .ref 781), (4, .int (nI p))] [] Q) : jj_R (mLw len xs) (d + 66) (kc + 4) (ks + 24) (jj_S, 782, h, g) 421 [(0, .ref 999998), (1, .ref 0), (2, .ref 49), (3, .ref 781), (4, .int (nI p))] [] Q := by
  obtain ⟨_, _, _, _, _, _, _, I⟩ := I
  refine rr_aload_n 1 rfl rfl dL_law__421 ?_
  refine rr_aload_n 0 rfl rfl dL_law__422 ?_
  refine rr_iload 4 rfl dL_law__423 ?_
  refine rr_iconst 1 rfl dL_law__425 ?_
  refine rr_iadd dL_law__426 ?_
  refine rr_siaload (len := len) (xs := xs) rfl dL_law__427 (sc_in (j := 1) hl hp rfl (by decide)) ?_
  refine rr_aload_n 3 rfl rfl dL_law__428 ?_
  obtain ⟨mid, k1, k2⟩ := du_work I (xs (nI p + 1).toNatClampNeg)
  refine rr_callSW (As := [.ref 0, .int (xs (nI p + 1).toNatClampNeg), .ref 781]) (rest := []) (kc2 := 4) (ks2 := 24) dL_law__429 okL_work lL_148 rfl (Nat.le_of_ble_eq_true rfl) (Nat.le_of_ble_eq_true rfl) rfl (by omega) (by simp [jj_rk]) (by simp [jj_rk]) ?_
  refine w_work (fun Q2 hq => k1 (d + 24) 0 0 g Q2 (fun r h1 mm => hq r _ ?_))
  obtain ⟨v, th, lk, kr⟩ := k2 r h1 mm
  have tail : ∀ (cd : Int32) (g' : Nat → Nat → Int64), (cd = 0 → g' 781 (0 : Int32).toNatClampNeg = v.toInt64) → th = cd → jj_R (mLw len xs) (d + 66) (kc + 4 - 4) (ks + 24 - 24) (jj_S, 782, h1, g') 432 [(0, .ref 999998), (1, .ref 0), (2, .ref 49), (3, .ref 781), (4, .int (nI p))] [.int cd] Q := fun cd g' hg hth => by
    refine rr_istore [(0, .ref 999998), (1, .ref 0), (2, .ref 49), (3, .ref 781), (4, .int (nI p)), (5, .int cd)] dL_law__432 (Nat.le_of_ble_eq_true rfl) rfl ?_
    refine rr_aload_n 2 rfl rfl dL_law__434 ?_
    refine rr_aload_n 0 rfl rfl dL_law__435 ?_
    refine rr_iload 4 rfl dL_law__436 ?_
    refine rr_iconst 1 rfl dL_law__438 ?_
    refine rr_iadd dL_law__439 ?_
    refine rr_siaload (len := len) (xs := xs) rfl dL_law__440 (sc_in (j := 1) hl hp rfl (by decide)) ?_
    refine rr_callV (As := [.int (xs (nI p + 1).toNatClampNeg)]) (rest := []) (kc2 := 0) (ks2 := 0) dL_law__441 okX10_work lL_150 lo_49 sh_49 rfl rfl (Nat.le_of_ble_eq_true rfl) (Nat.le_of_ble_eq_true rfl) rfl (by omega) (by simp [jj_rk]) (by simp [jj_rk]) ?_
    refine kr (d + 1) 0 0 g' _ (fun h2 i2 t2 => ?_)
    show jj_R (mLw len xs) (d + 66) _ _ (jj_S, 782, h2, g') 444 [(0, .ref 999998), (1, .ref 0), (2, .ref 49), (3, .ref 781), (4, .int (nI p)), (5, .int cd)] [.int v] Q
    refine rr_istore [(0, .ref 999998), (1, .ref 0), (2, .ref 49), (3, .ref 781), (4, .int (nI p)), (5, .int cd), (6, .int v)] dL_law__444 (Nat.le_of_ble_eq_true rfl) rfl ?_
    refine rr_aload_n 2 rfl rfl dL_law__446 ?_
    refine rr_callV (As := []) (rest := []) (kc2 := 0) (ks2 := 0) dL_law__447 okX10_thrown lL_141 lo_49 sh_49 rfl rfl (Nat.le_of_ble_eq_true rfl) (Nat.le_of_ble_eq_true rfl) rfl (by omega) (by simp [jj_rk]) (by simp [jj_rk]) ?_
    refine sp_X10_thrown (d := d + 65) ?_
    show jj_R (mLw len xs) (d + 66) _ _ (jj_S, 782, h2, g') 450 [(0, .ref 999998), (1, .ref 0), (2, .ref 49), (3, .ref 781), (4, .int (nI p)), (5, .int cd), (6, .int v)] [.int (h2 49 0)] Q
    refine rr_iload 5 rfl dL_law__450 ?_
    refine rr_icmp_eq dL_law__452 (fun _ => ?_) (fun q => absurd (t2.trans hth) q)
    have fin : jj_R (mLw len xs) (d + 66) (kc + 4 - 4 - 0 - 0) (ks + 24 - 24 - 0 - 0) (jj_S, 782, h2, g') 474 [(0, .ref 999998), (1, .ref 0), (2, .ref 49), (3, .ref 781), (4, .int (nI p)), (5, .int cd), (6, .int v)] [] Q := by
      refine rr_goto dL_law__474 ?_
      refine rr_drop (ls := [(0, .ref 999998), (1, .ref 0), (2, .ref 49), (3, .ref 781), (4, .int (nI p))]) [0, 1, 2, 3, 4] rfl ?_
      exact k h2 g' i2
    refine rr_iload 5 rfl dL_law__457 ?_
    refine rr_if_ne dL_law__459 (fun _ => fin) (fun q => ?_)
    refine rr_aload_n 3 rfl rfl dL_law__462 ?_
    refine rr_iconst 0 rfl dL_law__463 ?_
    refine rr_laload dL_law__464 lo_781 sh_781 vp01 ?_
    refine rr_iload 6 rfl dL_law__465 ?_
    refine rr_i2l dL_law__467 ?_
    refine rr_lcmp dL_law__468 ?_
    refine rr_if_eq dL_law__469 (fun _ => fin) (fun z => absurd (by rw [hg q]; exact lg_same _) z)
  rcases lk with ⟨rfl, rfl⟩ | ⟨b0, rfl, rfl⟩ | ⟨b0, rfl, rfl⟩
  · exact ⟨h1, g, rfl, Or.inl ⟨v, rfl, tail 0 _ (fun _ => u3_out) rfl⟩⟩
  · cases b0
  · exact ⟨h1, g, rfl, Or.inr (Or.inr ⟨rfl, rfl, tail _ g (fun z => absurd z (by decide)) rfl⟩)⟩
set_option maxHeartbeats 1000000 in
theorem ca_book {len p d kc ks : Nat} {xs : Nat → Int32} {h : hp_} {g : Nat → Nat → Int64} {Q : jj_Rs → jj_St → Prop} (hl : len < 2 ^ 31) (hp : p + 9 ≤ len) (I : IVx h) (k : ∀ h2 g2, IVx h2 → jj_R (mLw len xs) (d + 66) kc ks (jj_S, 782, h2, g2) 2808 [(0, .ref 999998), (1, .ref 0), (2, .ref 49), (3, .ref 781), (4, .int (nI p))] [] Q) : jj_R (mLw len xs) (d + 66) (kc + 4) (ks + 24) (jj_S, 782, h, g) 477 [(0, .ref 999998), (1, .ref 0), (2, .ref 49), (3, .ref 781), (4, .int (nI p))] [] Q := by
  obtain ⟨_, _, _, _, _, _, _, I⟩ := I
  refine rr_aload_n 1 rfl rfl dL_law__477 ?_
  refine rr_aload_n 0 rfl rfl dL_law__478 ?_
  refine rr_iload 4 rfl dL_law__479 ?_
  refine rr_iconst 1 rfl dL_law__481 ?_
  refine rr_iadd dL_law__482 ?_
  refine rr_siaload (len := len) (xs := xs) rfl dL_law__483 (sc_in (j := 1) hl hp rfl (by decide)) ?_
  refine rr_aload_n 3 rfl rfl dL_law__484 ?_
  obtain ⟨mid, k1, k2⟩ := du_book I (xs (nI p + 1).toNatClampNeg)
  refine rr_callSW (As := [.ref 0, .int (xs (nI p + 1).toNatClampNeg), .ref 781]) (rest := []) (kc2 := 4) (ks2 := 24) dL_law__485 okL_book lL_151 rfl (Nat.le_of_ble_eq_true rfl) (Nat.le_of_ble_eq_true rfl) rfl (by omega) (by simp [jj_rk]) (by simp [jj_rk]) ?_
  refine w_book (fun Q2 hq => k1 (d + 24) 0 0 g Q2 (fun r h1 mm => hq r _ ?_))
  obtain ⟨v, th, lk, kr⟩ := k2 r h1 mm
  have tail : ∀ (cd : Int32) (g' : Nat → Nat → Int64), (cd = 0 → g' 781 (0 : Int32).toNatClampNeg = v.toInt64) → th = cd → jj_R (mLw len xs) (d + 66) (kc + 4 - 4) (ks + 24 - 24) (jj_S, 782, h1, g') 488 [(0, .ref 999998), (1, .ref 0), (2, .ref 49), (3, .ref 781), (4, .int (nI p))] [.int cd] Q := fun cd g' hg hth => by
    refine rr_istore [(0, .ref 999998), (1, .ref 0), (2, .ref 49), (3, .ref 781), (4, .int (nI p)), (5, .int cd)] dL_law__488 (Nat.le_of_ble_eq_true rfl) rfl ?_
    refine rr_aload_n 2 rfl rfl dL_law__490 ?_
    refine rr_aload_n 0 rfl rfl dL_law__491 ?_
    refine rr_iload 4 rfl dL_law__492 ?_
    refine rr_iconst 1 rfl dL_law__494 ?_
    refine rr_iadd dL_law__495 ?_
    refine rr_siaload (len := len) (xs := xs) rfl dL_law__496 (sc_in (j := 1) hl hp rfl (by decide)) ?_
    refine rr_callV (As := [.int (xs (nI p + 1).toNatClampNeg)]) (rest := []) (kc2 := 0) (ks2 := 0) dL_law__497 okX10_book lL_153 lo_49 sh_49 rfl rfl (Nat.le_of_ble_eq_true rfl) (Nat.le_of_ble_eq_true rfl) rfl (by omega) (by simp [jj_rk]) (by simp [jj_rk]) ?_
    refine kr (d + 1) 0 0 g' _ (fun h2 i2 t2 => ?_)
    show jj_R (mLw len xs) (d + 66) _ _ (jj_S, 782, h2, g') 500 [(0, .ref 999998), (1, .ref 0), (2, .ref 49), (3, .ref 781), (4, .int (nI p)), (5, .int cd)] [.int v] Q
    refine rr_istore [(0, .ref 999998), (1, .ref 0), (2, .ref 49), (3, .ref 781), (4, .int (nI p)), (5, .int cd), (6, .int v)] dL_law__500 (Nat.le_of_ble_eq_true rfl) rfl ?_
    refine rr_aload_n 2 rfl rfl dL_law__502 ?_
    refine rr_callV (As := []) (rest := []) (kc2 := 0) (ks2 := 0) dL_law__503 okX10_thrown lL_141 lo_49 sh_49 rfl rfl (Nat.le_of_ble_eq_true rfl) (Nat.le_of_ble_eq_true rfl) rfl (by omega) (by simp [jj_rk]) (by simp [jj_rk]) ?_
    refine sp_X10_thrown (d := d + 65) ?_
    show jj_R (mLw len xs) (d + 66) _ _ (jj_S, 782, h2, g') 506 [(0, .ref 999998), (1, .ref 0), (2, .ref 49), (3, .ref 781), (4, .int (nI p)), (5, .int cd), (6, .int v)] [.int (h2 49 0)] Q
    refine rr_iload 5 rfl dL_law__506 ?_
    refine rr_icmp_eq dL_law__508 (fun _ => ?_) (fun q => absurd (t2.trans hth) q)
    have fin : jj_R (mLw len xs) (d + 66) (kc + 4 - 4 - 0 - 0) (ks + 24 - 24 - 0 - 0) (jj_S, 782, h2, g') 530 [(0, .ref 999998), (1, .ref 0), (2, .ref 49), (3, .ref 781), (4, .int (nI p)), (5, .int cd), (6, .int v)] [] Q := by
      refine rr_goto dL_law__530 ?_
      refine rr_drop (ls := [(0, .ref 999998), (1, .ref 0), (2, .ref 49), (3, .ref 781), (4, .int (nI p))]) [0, 1, 2, 3, 4] rfl ?_
      exact k h2 g' i2
    refine rr_iload 5 rfl dL_law__513 ?_
    refine rr_if_ne dL_law__515 (fun _ => fin) (fun q => ?_)
    refine rr_aload_n 3 rfl rfl dL_law__518 ?_
    refine rr_iconst 0 rfl dL_law__519 ?_
    refine rr_laload dL_law__520 lo_781 sh_781 vp01 ?_
    refine rr_iload 6 rfl dL_law__521 ?_
    refine rr_i2l dL_law__523 ?_
    refine rr_lcmp dL_law__524 ?_
    refine rr_if_eq dL_law__525 (fun _ => fin) (fun z => absurd (by rw [hg q]; exact lg_same _) z)
  rcases lk with ⟨rfl, rfl⟩ | ⟨b0, rfl, rfl⟩ | ⟨b0, rfl, rfl⟩
  · exact ⟨h1, g, rfl, Or.inl ⟨v, rfl, tail 0 _ (fun _ => u3_out) rfl⟩⟩
  · cases b0
  · exact ⟨h1, g, rfl, Or.inr (Or.inr ⟨rfl, rfl, tail _ g (fun z => absurd z (by decide)) rfl⟩)⟩
set_option maxHeartbeats 1000000 in
theorem ca_told {len p d kc ks : Nat} {xs : Nat → Int32} {h : hp_} {g : Nat → Nat → Int64} {Q : jj_Rs → jj_St → Prop} (hl : len < 2 ^ 31) (hp : p + 9 ≤ len) (I : IVx h) (k : ∀ h2 g2, IVx h2 → jj_R (mLw len xs) (d + 66) kc ks (jj_S, 782, h2, g2) 2808 [(0, .ref 999998), (1, .ref 0), (2, .ref 49), (3, .ref 781), (4, .int (nI p))] [] Q) : jj_R (mLw len xs) (d + 66) (kc + 4) (ks + 24) (jj_S, 782, h, g) 559 [(0, .ref 999998), (1, .ref 0), (2, .ref 49), (3, .ref 781), (4, .int (nI p))] [] Q := by
  obtain ⟨_, _, _, _, _, _, _, I⟩ := I
  refine rr_aload_n 1 rfl rfl dL_law__559 ?_
  refine rr_aload_n 0 rfl rfl dL_law__560 ?_
  refine rr_iload 4 rfl dL_law__561 ?_
  refine rr_iconst 1 rfl dL_law__563 ?_
  refine rr_iadd dL_law__564 ?_
  refine rr_siaload (len := len) (xs := xs) rfl dL_law__565 (sc_in (j := 1) hl hp rfl (by decide)) ?_
  refine rr_aload_n 3 rfl rfl dL_law__566 ?_
  obtain ⟨mid, k1, k2⟩ := dual_2 (du_told I (xs (nI p + 1).toNatClampNeg))
  refine rr_callSW (As := [.ref 0, .int (xs (nI p + 1).toNatClampNeg), .ref 781]) (rest := []) (kc2 := 4) (ks2 := 24) dL_law__567 okL_told lL_162 rfl (Nat.le_of_ble_eq_true rfl) (Nat.le_of_ble_eq_true rfl) rfl (by omega) (by simp [jj_rk]) (by simp [jj_rk]) ?_
  refine w_told (fun Q2 hq => k1 (d + 24) 0 0 g Q2 (fun r h1 mm => hq r _ ?_))
  obtain ⟨v, th, lk, kr⟩ := k2 r h1 mm
  have tail : ∀ (cd : Int32) (g' : Nat → Nat → Int64), (cd = 0 → g' 781 (0 : Int32).toNatClampNeg = v.toInt64) → th = cd → jj_R (mLw len xs) (d + 66) (kc + 4 - 4) (ks + 24 - 24) (jj_S, 782, h1, g') 570 [(0, .ref 999998), (1, .ref 0), (2, .ref 49), (3, .ref 781), (4, .int (nI p))] [.int cd] Q := fun cd g' hg hth => by
    refine rr_istore [(0, .ref 999998), (1, .ref 0), (2, .ref 49), (3, .ref 781), (4, .int (nI p)), (5, .int cd)] dL_law__570 (Nat.le_of_ble_eq_true rfl) rfl ?_
    refine rr_aload_n 2 rfl rfl dL_law__572 ?_
    refine rr_aload_n 0 rfl rfl dL_law__573 ?_
    refine rr_iload 4 rfl dL_law__574 ?_
    refine rr_iconst 1 rfl dL_law__576 ?_
    refine rr_iadd dL_law__577 ?_
    refine rr_siaload (len := len) (xs := xs) rfl dL_law__578 (sc_in (j := 1) hl hp rfl (by decide)) ?_
    refine rr_callV (As := [.int (xs (nI p + 1).toNatClampNeg)]) (rest := []) (kc2 := 0) (ks2 := 0) dL_law__579 okX10_told lL_164 lo_49 sh_49 rfl rfl (Nat.le_of_ble_eq_true rfl) (Nat.le_of_ble_eq_true rfl) rfl (by omega) (by simp [jj_rk]) (by simp [jj_rk]) ?_
    refine kr (d + 1) 0 0 g' _ (fun h2 i2 t2 => ?_)
    show jj_R (mLw len xs) (d + 66) _ _ (jj_S, 782, h2, g') 582 [(0, .ref 999998), (1, .ref 0), (2, .ref 49), (3, .ref 781), (4, .int (nI p)), (5, .int cd)] [.int v] Q
    refine rr_istore [(0, .ref 999998), (1, .ref 0), (2, .ref 49), (3, .ref 781), (4, .int (nI p)), (5, .int cd), (6, .int v)] dL_law__582 (Nat.le_of_ble_eq_true rfl) rfl ?_
    refine rr_aload_n 2 rfl rfl dL_law__584 ?_
    refine rr_callV (As := []) (rest := []) (kc2 := 0) (ks2 := 0) dL_law__585 okX10_thrown lL_141 lo_49 sh_49 rfl rfl (Nat.le_of_ble_eq_true rfl) (Nat.le_of_ble_eq_true rfl) rfl (by omega) (by simp [jj_rk]) (by simp [jj_rk]) ?_
    refine sp_X10_thrown (d := d + 65) ?_
    show jj_R (mLw len xs) (d + 66) _ _ (jj_S, 782, h2, g') 588 [(0, .ref 999998), (1, .ref 0), (2, .ref 49), (3, .ref 781), (4, .int (nI p)), (5, .int cd), (6, .int v)] [.int (h2 49 0)] Q
    refine rr_iload 5 rfl dL_law__588 ?_
    refine rr_icmp_eq dL_law__590 (fun _ => ?_) (fun q => absurd (t2.trans hth) q)
    have fin : jj_R (mLw len xs) (d + 66) (kc + 4 - 4 - 0 - 0) (ks + 24 - 24 - 0 - 0) (jj_S, 782, h2, g') 612 [(0, .ref 999998), (1, .ref 0), (2, .ref 49), (3, .ref 781), (4, .int (nI p)), (5, .int cd), (6, .int v)] [] Q := by
      refine rr_goto dL_law__612 ?_
      refine rr_drop (ls := [(0, .ref 999998), (1, .ref 0), (2, .ref 49), (3, .ref 781), (4, .int (nI p))]) [0, 1, 2, 3, 4] rfl ?_
      exact k h2 g' i2
    refine rr_iload 5 rfl dL_law__595 ?_
    refine rr_if_ne dL_law__597 (fun _ => fin) (fun q => ?_)
    refine rr_aload_n 3 rfl rfl dL_law__600 ?_
    refine rr_iconst 0 rfl dL_law__601 ?_
    refine rr_laload dL_law__602 lo_781 sh_781 vp01 ?_
    refine rr_iload 6 rfl dL_law__603 ?_
    refine rr_i2l dL_law__605 ?_
    refine rr_lcmp dL_law__606 ?_
    refine rr_if_eq dL_law__607 (fun _ => fin) (fun z => absurd (by rw [hg q]; exact lg_same _) z)
  rcases lk with ⟨rfl, rfl⟩ | ⟨b0, rfl, rfl⟩ | ⟨b0, rfl, rfl⟩
  · exact ⟨h1, g, rfl, Or.inl ⟨v, rfl, tail 0 _ (fun _ => u3_out) rfl⟩⟩
  · cases b0
  · exact ⟨h1, g, rfl, Or.inr (Or.inr ⟨rfl, rfl, tail _ g (fun z => absurd z (by decide)) rfl⟩)⟩
set_option maxHeartbeats 1000000 in
theorem ca_person {len p d kc ks : Nat} {xs : Nat → Int32} {h : hp_} {g : Nat → Nat → Int64} {Q : jj_Rs → jj_St → Prop} (hl : len < 2 ^ 31) (hp : p + 9 ≤ len) (I : IVx h) (k : ∀ h2 g2, IVx h2 → jj_R (mLw len xs) (d + 66) kc ks (jj_S, 782, h2, g2) 2808 [(0, .ref 999998), (1, .ref 0), (2, .ref 49), (3, .ref 781), (4, .int (nI p))] [] Q) : jj_R (mLw len xs) (d + 66) (kc + 4) (ks + 24) (jj_S, 782, h, g) 615 [(0, .ref 999998), (1, .ref 0), (2, .ref 49), (3, .ref 781), (4, .int (nI p))] [] Q := by
  obtain ⟨_, _, _, _, _, _, _, I⟩ := I
  refine rr_aload_n 1 rfl rfl dL_law__615 ?_
  refine rr_aload_n 0 rfl rfl dL_law__616 ?_
  refine rr_iload 4 rfl dL_law__617 ?_
  refine rr_iconst 1 rfl dL_law__619 ?_
  refine rr_iadd dL_law__620 ?_
  refine rr_siaload (len := len) (xs := xs) rfl dL_law__621 (sc_in (j := 1) hl hp rfl (by decide)) ?_
  refine rr_aload_n 0 rfl rfl dL_law__622 ?_
  refine rr_iload 4 rfl dL_law__623 ?_
  refine rr_iconst 2 rfl dL_law__625 ?_
  refine rr_iadd dL_law__626 ?_
  refine rr_siaload (len := len) (xs := xs) rfl dL_law__627 (sc_in (j := 2) hl hp rfl (by decide)) ?_
  refine rr_aload_n 3 rfl rfl dL_law__628 ?_
  obtain ⟨mid, k1, k2⟩ := dual_2 (du_person I (xs (nI p + 1).toNatClampNeg) (xs (nI p + 2).toNatClampNeg))
  refine rr_callSW (As := [.ref 0, .int (xs (nI p + 1).toNatClampNeg), .int (xs (nI p + 2).toNatClampNeg), .ref 781]) (rest := []) (kc2 := 4) (ks2 := 24) dL_law__629 okL_person lL_165 rfl (Nat.le_of_ble_eq_true rfl) (Nat.le_of_ble_eq_true rfl) rfl (by omega) (by simp [jj_rk]) (by simp [jj_rk]) ?_
  refine w_person (fun Q2 hq => k1 (d + 24) 0 0 g Q2 (fun r h1 mm => hq r _ ?_))
  obtain ⟨v, th, lk, kr⟩ := k2 r h1 mm
  have tail : ∀ (cd : Int32) (g' : Nat → Nat → Int64), (cd = 0 → g' 781 (0 : Int32).toNatClampNeg = v.toInt64) → th = cd → jj_R (mLw len xs) (d + 66) (kc + 4 - 4) (ks + 24 - 24) (jj_S, 782, h1, g') 632 [(0, .ref 999998), (1, .ref 0), (2, .ref 49), (3, .ref 781), (4, .int (nI p))] [.int cd] Q := fun cd g' hg hth => by
    refine rr_istore [(0, .ref 999998), (1, .ref 0), (2, .ref 49), (3, .ref 781), (4, .int (nI p)), (5, .int cd)] dL_law__632 (Nat.le_of_ble_eq_true rfl) rfl ?_
    refine rr_aload_n 2 rfl rfl dL_law__634 ?_
    refine rr_aload_n 0 rfl rfl dL_law__635 ?_
    refine rr_iload 4 rfl dL_law__636 ?_
    refine rr_iconst 1 rfl dL_law__638 ?_
    refine rr_iadd dL_law__639 ?_
    refine rr_siaload (len := len) (xs := xs) rfl dL_law__640 (sc_in (j := 1) hl hp rfl (by decide)) ?_
    refine rr_aload_n 0 rfl rfl dL_law__641 ?_
    refine rr_iload 4 rfl dL_law__642 ?_
    refine rr_iconst 2 rfl dL_law__644 ?_
    refine rr_iadd dL_law__645 ?_
    refine rr_siaload (len := len) (xs := xs) rfl dL_law__646 (sc_in (j := 2) hl hp rfl (by decide)) ?_
    refine rr_callV (As := [.int (xs (nI p + 1).toNatClampNeg), .int (xs (nI p + 2).toNatClampNeg)]) (rest := []) (kc2 := 0) (ks2 := 0) dL_law__647 okX10_person lL_168 lo_49 sh_49 rfl rfl (Nat.le_of_ble_eq_true rfl) (Nat.le_of_ble_eq_true rfl) rfl (by omega) (by simp [jj_rk]) (by simp [jj_rk]) ?_
    refine kr (d + 1) 0 0 g' _ (fun h2 i2 t2 => ?_)
    show jj_R (mLw len xs) (d + 66) _ _ (jj_S, 782, h2, g') 650 [(0, .ref 999998), (1, .ref 0), (2, .ref 49), (3, .ref 781), (4, .int (nI p)), (5, .int cd)] [.int v] Q
    refine rr_istore [(0, .ref 999998), (1, .ref 0), (2, .ref 49), (3, .ref 781), (4, .int (nI p)), (5, .int cd), (6, .int v)] dL_law__650 (Nat.le_of_ble_eq_true rfl) rfl ?_
    refine rr_aload_n 2 rfl rfl dL_law__652 ?_
    refine rr_callV (As := []) (rest := []) (kc2 := 0) (ks2 := 0) dL_law__653 okX10_thrown lL_141 lo_49 sh_49 rfl rfl (Nat.le_of_ble_eq_true rfl) (Nat.le_of_ble_eq_true rfl) rfl (by omega) (by simp [jj_rk]) (by simp [jj_rk]) ?_
    refine sp_X10_thrown (d := d + 65) ?_
    show jj_R (mLw len xs) (d + 66) _ _ (jj_S, 782, h2, g') 656 [(0, .ref 999998), (1, .ref 0), (2, .ref 49), (3, .ref 781), (4, .int (nI p)), (5, .int cd), (6, .int v)] [.int (h2 49 0)] Q
    refine rr_iload 5 rfl dL_law__656 ?_
    refine rr_icmp_eq dL_law__658 (fun _ => ?_) (fun q => absurd (t2.trans hth) q)
    have fin : jj_R (mLw len xs) (d + 66) (kc + 4 - 4 - 0 - 0) (ks + 24 - 24 - 0 - 0) (jj_S, 782, h2, g') 680 [(0, .ref 999998), (1, .ref 0), (2, .ref 49), (3, .ref 781), (4, .int (nI p)), (5, .int cd), (6, .int v)] [] Q := by
      refine rr_goto dL_law__680 ?_
      refine rr_drop (ls := [(0, .ref 999998), (1, .ref 0), (2, .ref 49), (3, .ref 781), (4, .int (nI p))]) [0, 1, 2, 3, 4] rfl ?_
      exact k h2 g' i2
    refine rr_iload 5 rfl dL_law__663 ?_
    refine rr_if_ne dL_law__665 (fun _ => fin) (fun q => ?_)
    refine rr_aload_n 3 rfl rfl dL_law__668 ?_
    refine rr_iconst 0 rfl dL_law__669 ?_
    refine rr_laload dL_law__670 lo_781 sh_781 vp01 ?_
    refine rr_iload 6 rfl dL_law__671 ?_
    refine rr_i2l dL_law__673 ?_
    refine rr_lcmp dL_law__674 ?_
    refine rr_if_eq dL_law__675 (fun _ => fin) (fun z => absurd (by rw [hg q]; exact lg_same _) z)
  rcases lk with ⟨rfl, rfl⟩ | ⟨b0, rfl, rfl⟩ | ⟨b0, rfl, rfl⟩
  · exact ⟨h1, g, rfl, Or.inl ⟨v, rfl, tail 0 _ (fun _ => u3_out) rfl⟩⟩
  · exact ⟨h1, g, rfl, Or.inr (Or.inl ⟨rfl, rfl, tail 1 g (fun z => absurd z (by decide)) rfl⟩)⟩
  · exact ⟨h1, g, rfl, Or.inr (Or.inr ⟨rfl, rfl, tail _ g (fun z => absurd z (by decide)) rfl⟩)⟩
set_option maxHeartbeats 1000000 in
theorem ca_far {len p d kc ks : Nat} {xs : Nat → Int32} {h : hp_} {g : Nat → Nat → Int64} {Q : jj_Rs → jj_St → Prop} (hl : len < 2 ^ 31) (hp : p + 9 ≤ len) (I : IVx h) (k : ∀ h2 g2, IVx h2 → jj_R (mLw len xs) (d + 66) kc ks (jj_S, 782, h2, g2) 2808 [(0, .ref 999998), (1, .ref 0), (2, .ref 49), (3, .ref 781), (4, .int (nI p))] [] Q) : jj_R (mLw len xs) (d + 66) (kc + 4) (ks + 24) (jj_S, 782, h, g) 1108 [(0, .ref 999998), (1, .ref 0), (2, .ref 49), (3, .ref 781), (4, .int (nI p))] [] Q := by
  obtain ⟨_, _, _, _, _, _, _, I⟩ := I
  refine rr_aload_n 1 rfl rfl dL_law__1108 ?_
  refine rr_aload_n 0 rfl rfl dL_law__1109 ?_
  refine rr_iload 4 rfl dL_law__1110 ?_
  refine rr_iconst 1 rfl dL_law__1112 ?_
  refine rr_iadd dL_law__1113 ?_
  refine rr_siaload (len := len) (xs := xs) rfl dL_law__1114 (sc_in (j := 1) hl hp rfl (by decide)) ?_
  refine rr_aload_n 0 rfl rfl dL_law__1115 ?_
  refine rr_iload 4 rfl dL_law__1116 ?_
  refine rr_iconst 2 rfl dL_law__1118 ?_
  refine rr_iadd dL_law__1119 ?_
  refine rr_siaload (len := len) (xs := xs) rfl dL_law__1120 (sc_in (j := 2) hl hp rfl (by decide)) ?_
  refine rr_aload_n 3 rfl rfl dL_law__1121 ?_
  obtain ⟨mid, k1, k2⟩ := dual_2 (du_far I (xs (nI p + 1).toNatClampNeg) (xs (nI p + 2).toNatClampNeg))
  refine rr_callSW (As := [.ref 0, .int (xs (nI p + 1).toNatClampNeg), .int (xs (nI p + 2).toNatClampNeg), .ref 781]) (rest := []) (kc2 := 4) (ks2 := 24) dL_law__1122 okL_far lL_186 rfl (Nat.le_of_ble_eq_true rfl) (Nat.le_of_ble_eq_true rfl) rfl (by omega) (by simp [jj_rk]) (by simp [jj_rk]) ?_
  refine w_far (fun Q2 hq => k1 (d + 24) 0 0 g Q2 (fun r h1 mm => hq r _ ?_))
  obtain ⟨v, th, lk, kr⟩ := k2 r h1 mm
  have tail : ∀ (cd : Int32) (g' : Nat → Nat → Int64), (cd = 0 → g' 781 (0 : Int32).toNatClampNeg = v.toInt64) → th = cd → jj_R (mLw len xs) (d + 66) (kc + 4 - 4) (ks + 24 - 24) (jj_S, 782, h1, g') 1125 [(0, .ref 999998), (1, .ref 0), (2, .ref 49), (3, .ref 781), (4, .int (nI p))] [.int cd] Q := fun cd g' hg hth => by
    refine rr_istore [(0, .ref 999998), (1, .ref 0), (2, .ref 49), (3, .ref 781), (4, .int (nI p)), (5, .int cd)] dL_law__1125 (Nat.le_of_ble_eq_true rfl) rfl ?_
    refine rr_aload_n 2 rfl rfl dL_law__1127 ?_
    refine rr_aload_n 0 rfl rfl dL_law__1128 ?_
    refine rr_iload 4 rfl dL_law__1129 ?_
    refine rr_iconst 1 rfl dL_law__1131 ?_
    refine rr_iadd dL_law__1132 ?_
    refine rr_siaload (len := len) (xs := xs) rfl dL_law__1133 (sc_in (j := 1) hl hp rfl (by decide)) ?_
    refine rr_aload_n 0 rfl rfl dL_law__1134 ?_
    refine rr_iload 4 rfl dL_law__1135 ?_
    refine rr_iconst 2 rfl dL_law__1137 ?_
    refine rr_iadd dL_law__1138 ?_
    refine rr_siaload (len := len) (xs := xs) rfl dL_law__1139 (sc_in (j := 2) hl hp rfl (by decide)) ?_
    refine rr_callV (As := [.int (xs (nI p + 1).toNatClampNeg), .int (xs (nI p + 2).toNatClampNeg)]) (rest := []) (kc2 := 0) (ks2 := 0) dL_law__1140 okX10_far lL_188 lo_49 sh_49 rfl rfl (Nat.le_of_ble_eq_true rfl) (Nat.le_of_ble_eq_true rfl) rfl (by omega) (by simp [jj_rk]) (by simp [jj_rk]) ?_
    refine kr (d + 1) 0 0 g' _ (fun h2 i2 t2 => ?_)
    show jj_R (mLw len xs) (d + 66) _ _ (jj_S, 782, h2, g') 1143 [(0, .ref 999998), (1, .ref 0), (2, .ref 49), (3, .ref 781), (4, .int (nI p)), (5, .int cd)] [.int v] Q
    refine rr_istore [(0, .ref 999998), (1, .ref 0), (2, .ref 49), (3, .ref 781), (4, .int (nI p)), (5, .int cd), (6, .int v)] dL_law__1143 (Nat.le_of_ble_eq_true rfl) rfl ?_
    refine rr_aload_n 2 rfl rfl dL_law__1145 ?_
    refine rr_callV (As := []) (rest := []) (kc2 := 0) (ks2 := 0) dL_law__1146 okX10_thrown lL_141 lo_49 sh_49 rfl rfl (Nat.le_of_ble_eq_true rfl) (Nat.le_of_ble_eq_true rfl) rfl (by omega) (by simp [jj_rk]) (by simp [jj_rk]) ?_
    refine sp_X10_thrown (d := d + 65) ?_
    show jj_R (mLw len xs) (d + 66) _ _ (jj_S, 782, h2, g') 1149 [(0, .ref 999998), (1, .ref 0), (2, .ref 49), (3, .ref 781), (4, .int (nI p)), (5, .int cd), (6, .int v)] [.int (h2 49 0)] Q
    refine rr_iload 5 rfl dL_law__1149 ?_
    refine rr_icmp_eq dL_law__1151 (fun _ => ?_) (fun q => absurd (t2.trans hth) q)
    have fin : jj_R (mLw len xs) (d + 66) (kc + 4 - 4 - 0 - 0) (ks + 24 - 24 - 0 - 0) (jj_S, 782, h2, g') 1173 [(0, .ref 999998), (1, .ref 0), (2, .ref 49), (3, .ref 781), (4, .int (nI p)), (5, .int cd), (6, .int v)] [] Q := by
      refine rr_goto dL_law__1173 ?_
      refine rr_drop (ls := [(0, .ref 999998), (1, .ref 0), (2, .ref 49), (3, .ref 781), (4, .int (nI p))]) [0, 1, 2, 3, 4] rfl ?_
      exact k h2 g' i2
    refine rr_iload 5 rfl dL_law__1156 ?_
    refine rr_if_ne dL_law__1158 (fun _ => fin) (fun q => ?_)
    refine rr_aload_n 3 rfl rfl dL_law__1161 ?_
    refine rr_iconst 0 rfl dL_law__1162 ?_
    refine rr_laload dL_law__1163 lo_781 sh_781 vp01 ?_
    refine rr_iload 6 rfl dL_law__1164 ?_
    refine rr_i2l dL_law__1166 ?_
    refine rr_lcmp dL_law__1167 ?_
    refine rr_if_eq dL_law__1168 (fun _ => fin) (fun z => absurd (by rw [hg q]; exact lg_same _) z)
  rcases lk with ⟨rfl, rfl⟩ | ⟨b0, rfl, rfl⟩ | ⟨b0, rfl, rfl⟩
  · exact ⟨h1, g, rfl, Or.inl ⟨v, rfl, tail 0 _ (fun _ => u3_out) rfl⟩⟩
  · exact ⟨h1, g, rfl, Or.inr (Or.inl ⟨rfl, rfl, tail 1 g (fun z => absurd z (by decide)) rfl⟩)⟩
  · cases b0
set_option maxHeartbeats 1000000 in
theorem ca_gap {len p d kc ks : Nat} {xs : Nat → Int32} {h : hp_} {g : Nat → Nat → Int64} {Q : jj_Rs → jj_St → Prop} (hl : len < 2 ^ 31) (hp : p + 9 ≤ len) (I : IVx h) (k : ∀ h2 g2, IVx h2 → jj_R (mLw len xs) (d + 66) kc ks (jj_S, 782, h2, g2) 2808 [(0, .ref 999998), (1, .ref 0), (2, .ref 49), (3, .ref 781), (4, .int (nI p))] [] Q) : jj_R (mLw len xs) (d + 66) (kc + 4) (ks + 24) (jj_S, 782, h, g) 2149 [(0, .ref 999998), (1, .ref 0), (2, .ref 49), (3, .ref 781), (4, .int (nI p))] [] Q := by
  obtain ⟨_, _, _, _, _, _, _, I⟩ := I
  refine rr_aload_n 1 rfl rfl dL_law__2149 ?_
  refine rr_aload_n 0 rfl rfl dL_law__2150 ?_
  refine rr_iload 4 rfl dL_law__2151 ?_
  refine rr_iconst 1 rfl dL_law__2153 ?_
  refine rr_iadd dL_law__2154 ?_
  refine rr_siaload (len := len) (xs := xs) rfl dL_law__2155 (sc_in (j := 1) hl hp rfl (by decide)) ?_
  refine rr_aload_n 0 rfl rfl dL_law__2156 ?_
  refine rr_iload 4 rfl dL_law__2157 ?_
  refine rr_iconst 2 rfl dL_law__2159 ?_
  refine rr_iadd dL_law__2160 ?_
  refine rr_siaload (len := len) (xs := xs) rfl dL_law__2161 (sc_in (j := 2) hl hp rfl (by decide)) ?_
  refine rr_aload_n 3 rfl rfl dL_law__2162 ?_
  obtain ⟨mid, k1, k2⟩ := dual_2 (du_gap I (xs (nI p + 1).toNatClampNeg) (xs (nI p + 2).toNatClampNeg))
  refine rr_callSW (As := [.ref 0, .int (xs (nI p + 1).toNatClampNeg), .int (xs (nI p + 2).toNatClampNeg), .ref 781]) (rest := []) (kc2 := 4) (ks2 := 24) dL_law__2163 okL_gap lL_243 rfl (Nat.le_of_ble_eq_true rfl) (Nat.le_of_ble_eq_true rfl) rfl (by omega) (by simp [jj_rk]) (by simp [jj_rk]) ?_
  refine w_gap (fun Q2 hq => k1 (d + 24) 0 0 g Q2 (fun r h1 mm => hq r _ ?_))
  obtain ⟨v, th, lk, kr⟩ := k2 r h1 mm
  have tail : ∀ (cd : Int32) (g' : Nat → Nat → Int64), (cd = 0 → g' 781 (0 : Int32).toNatClampNeg = v.toInt64) → th = cd → jj_R (mLw len xs) (d + 66) (kc + 4 - 4) (ks + 24 - 24) (jj_S, 782, h1, g') 2166 [(0, .ref 999998), (1, .ref 0), (2, .ref 49), (3, .ref 781), (4, .int (nI p))] [.int cd] Q := fun cd g' hg hth => by
    refine rr_istore [(0, .ref 999998), (1, .ref 0), (2, .ref 49), (3, .ref 781), (4, .int (nI p)), (5, .int cd)] dL_law__2166 (Nat.le_of_ble_eq_true rfl) rfl ?_
    refine rr_aload_n 2 rfl rfl dL_law__2168 ?_
    refine rr_aload_n 0 rfl rfl dL_law__2169 ?_
    refine rr_iload 4 rfl dL_law__2170 ?_
    refine rr_iconst 1 rfl dL_law__2172 ?_
    refine rr_iadd dL_law__2173 ?_
    refine rr_siaload (len := len) (xs := xs) rfl dL_law__2174 (sc_in (j := 1) hl hp rfl (by decide)) ?_
    refine rr_aload_n 0 rfl rfl dL_law__2175 ?_
    refine rr_iload 4 rfl dL_law__2176 ?_
    refine rr_iconst 2 rfl dL_law__2178 ?_
    refine rr_iadd dL_law__2179 ?_
    refine rr_siaload (len := len) (xs := xs) rfl dL_law__2180 (sc_in (j := 2) hl hp rfl (by decide)) ?_
    refine rr_callV (As := [.int (xs (nI p + 1).toNatClampNeg), .int (xs (nI p + 2).toNatClampNeg)]) (rest := []) (kc2 := 0) (ks2 := 0) dL_law__2181 okX10_gap lL_245 lo_49 sh_49 rfl rfl (Nat.le_of_ble_eq_true rfl) (Nat.le_of_ble_eq_true rfl) rfl (by omega) (by simp [jj_rk]) (by simp [jj_rk]) ?_
    refine kr (d + 1) 0 0 g' _ (fun h2 i2 t2 => ?_)
    show jj_R (mLw len xs) (d + 66) _ _ (jj_S, 782, h2, g') 2184 [(0, .ref 999998), (1, .ref 0), (2, .ref 49), (3, .ref 781), (4, .int (nI p)), (5, .int cd)] [.int v] Q
    refine rr_istore [(0, .ref 999998), (1, .ref 0), (2, .ref 49), (3, .ref 781), (4, .int (nI p)), (5, .int cd), (6, .int v)] dL_law__2184 (Nat.le_of_ble_eq_true rfl) rfl ?_
    refine rr_aload_n 2 rfl rfl dL_law__2186 ?_
    refine rr_callV (As := []) (rest := []) (kc2 := 0) (ks2 := 0) dL_law__2187 okX10_thrown lL_141 lo_49 sh_49 rfl rfl (Nat.le_of_ble_eq_true rfl) (Nat.le_of_ble_eq_true rfl) rfl (by omega) (by simp [jj_rk]) (by simp [jj_rk]) ?_
    refine sp_X10_thrown (d := d + 65) ?_
    show jj_R (mLw len xs) (d + 66) _ _ (jj_S, 782, h2, g') 2190 [(0, .ref 999998), (1, .ref 0), (2, .ref 49), (3, .ref 781), (4, .int (nI p)), (5, .int cd), (6, .int v)] [.int (h2 49 0)] Q
    refine rr_iload 5 rfl dL_law__2190 ?_
    refine rr_icmp_eq dL_law__2192 (fun _ => ?_) (fun q => absurd (t2.trans hth) q)
    have fin : jj_R (mLw len xs) (d + 66) (kc + 4 - 4 - 0 - 0) (ks + 24 - 24 - 0 - 0) (jj_S, 782, h2, g') 2214 [(0, .ref 999998), (1, .ref 0), (2, .ref 49), (3, .ref 781), (4, .int (nI p)), (5, .int cd), (6, .int v)] [] Q := by
      refine rr_goto dL_law__2214 ?_
      refine rr_drop (ls := [(0, .ref 999998), (1, .ref 0), (2, .ref 49), (3, .ref 781), (4, .int (nI p))]) [0, 1, 2, 3, 4] rfl ?_
      exact k h2 g' i2
    refine rr_iload 5 rfl dL_law__2197 ?_
    refine rr_if_ne dL_law__2199 (fun _ => fin) (fun q => ?_)
    refine rr_aload_n 3 rfl rfl dL_law__2202 ?_
    refine rr_iconst 0 rfl dL_law__2203 ?_
    refine rr_laload dL_law__2204 lo_781 sh_781 vp01 ?_
    refine rr_iload 6 rfl dL_law__2205 ?_
    refine rr_i2l dL_law__2207 ?_
    refine rr_lcmp dL_law__2208 ?_
    refine rr_if_eq dL_law__2209 (fun _ => fin) (fun z => absurd (by rw [hg q]; exact lg_same _) z)
  rcases lk with ⟨rfl, rfl⟩ | ⟨b0, rfl, rfl⟩ | ⟨b0, rfl, rfl⟩
  · exact ⟨h1, g, rfl, Or.inl ⟨v, rfl, tail 0 _ (fun _ => u3_out) rfl⟩⟩
  · exact ⟨h1, g, rfl, Or.inr (Or.inl ⟨rfl, rfl, tail 1 g (fun z => absurd z (by decide)) rfl⟩)⟩
  · cases b0
set_option maxHeartbeats 1000000 in
theorem ca_within {len p d kc ks : Nat} {xs : Nat → Int32} {h : hp_} {g : Nat → Nat → Int64} {Q : jj_Rs → jj_St → Prop} (hl : len < 2 ^ 31) (hp : p + 9 ≤ len) (I : IVx h) (k : ∀ h2 g2, IVx h2 → jj_R (mLw len xs) (d + 66) kc ks (jj_S, 782, h2, g2) 2808 [(0, .ref 999998), (1, .ref 0), (2, .ref 49), (3, .ref 781), (4, .int (nI p))] [] Q) : jj_R (mLw len xs) (d + 66) (kc + 4) (ks + 24) (jj_S, 782, h, g) 1955 [(0, .ref 999998), (1, .ref 0), (2, .ref 49), (3, .ref 781), (4, .int (nI p))] [] Q := by
  obtain ⟨_, _, _, _, _, _, _, I⟩ := I
  refine rr_aload_n 1 rfl rfl dL_law__1955 ?_
  refine rr_aload_n 0 rfl rfl dL_law__1956 ?_
  refine rr_iload 4 rfl dL_law__1957 ?_
  refine rr_iconst 1 rfl dL_law__1959 ?_
  refine rr_iadd dL_law__1960 ?_
  refine rr_siaload (len := len) (xs := xs) rfl dL_law__1961 (sc_in (j := 1) hl hp rfl (by decide)) ?_
  refine rr_aload_n 3 rfl rfl dL_law__1962 ?_
  obtain ⟨mid, k1, k2⟩ := dual_2 (du_within I (xs (nI p + 1).toNatClampNeg))
  refine rr_callSW (As := [.ref 0, .int (xs (nI p + 1).toNatClampNeg), .ref 781]) (rest := []) (kc2 := 4) (ks2 := 24) dL_law__1963 okL_within lL_226 rfl (Nat.le_of_ble_eq_true rfl) (Nat.le_of_ble_eq_true rfl) rfl (by omega) (by simp [jj_rk]) (by simp [jj_rk]) ?_
  refine w_within (fun Q2 hq => k1 (d + 24) 0 0 g Q2 (fun r h1 mm => hq r _ ?_))
  obtain ⟨v, th, lk, kr⟩ := k2 r h1 mm
  have tail : ∀ (cd : Int32) (g' : Nat → Nat → Int64), (cd = 0 → g' 781 (0 : Int32).toNatClampNeg = v.toInt64) → th = cd → jj_R (mLw len xs) (d + 66) (kc + 4 - 4) (ks + 24 - 24) (jj_S, 782, h1, g') 1966 [(0, .ref 999998), (1, .ref 0), (2, .ref 49), (3, .ref 781), (4, .int (nI p))] [.int cd] Q := fun cd g' hg hth => by
    refine rr_istore [(0, .ref 999998), (1, .ref 0), (2, .ref 49), (3, .ref 781), (4, .int (nI p)), (5, .int cd)] dL_law__1966 (Nat.le_of_ble_eq_true rfl) rfl ?_
    refine rr_aload_n 2 rfl rfl dL_law__1968 ?_
    refine rr_aload_n 0 rfl rfl dL_law__1969 ?_
    refine rr_iload 4 rfl dL_law__1970 ?_
    refine rr_iconst 1 rfl dL_law__1972 ?_
    refine rr_iadd dL_law__1973 ?_
    refine rr_siaload (len := len) (xs := xs) rfl dL_law__1974 (sc_in (j := 1) hl hp rfl (by decide)) ?_
    refine rr_callV (As := [.int (xs (nI p + 1).toNatClampNeg)]) (rest := []) (kc2 := 0) (ks2 := 0) dL_law__1975 okX10_within lL_228 lo_49 sh_49 rfl rfl (Nat.le_of_ble_eq_true rfl) (Nat.le_of_ble_eq_true rfl) rfl (by omega) (by simp [jj_rk]) (by simp [jj_rk]) ?_
    refine kr (d + 1) 0 0 g' _ (fun h2 i2 t2 => ?_)
    show jj_R (mLw len xs) (d + 66) _ _ (jj_S, 782, h2, g') 1978 [(0, .ref 999998), (1, .ref 0), (2, .ref 49), (3, .ref 781), (4, .int (nI p)), (5, .int cd)] [.int v] Q
    refine rr_istore [(0, .ref 999998), (1, .ref 0), (2, .ref 49), (3, .ref 781), (4, .int (nI p)), (5, .int cd), (6, .int v)] dL_law__1978 (Nat.le_of_ble_eq_true rfl) rfl ?_
    refine rr_aload_n 2 rfl rfl dL_law__1980 ?_
    refine rr_callV (As := []) (rest := []) (kc2 := 0) (ks2 := 0) dL_law__1981 okX10_thrown lL_141 lo_49 sh_49 rfl rfl (Nat.le_of_ble_eq_true rfl) (Nat.le_of_ble_eq_true rfl) rfl (by omega) (by simp [jj_rk]) (by simp [jj_rk]) ?_
    refine sp_X10_thrown (d := d + 65) ?_
    show jj_R (mLw len xs) (d + 66) _ _ (jj_S, 782, h2, g') 1984 [(0, .ref 999998), (1, .ref 0), (2, .ref 49), (3, .ref 781), (4, .int (nI p)), (5, .int cd), (6, .int v)] [.int (h2 49 0)] Q
    refine rr_iload 5 rfl dL_law__1984 ?_
    refine rr_icmp_eq dL_law__1986 (fun _ => ?_) (fun q => absurd (t2.trans hth) q)
    have fin : jj_R (mLw len xs) (d + 66) (kc + 4 - 4 - 0 - 0) (ks + 24 - 24 - 0 - 0) (jj_S, 782, h2, g') 2008 [(0, .ref 999998), (1, .ref 0), (2, .ref 49), (3, .ref 781), (4, .int (nI p)), (5, .int cd), (6, .int v)] [] Q := by
      refine rr_goto dL_law__2008 ?_
      refine rr_drop (ls := [(0, .ref 999998), (1, .ref 0), (2, .ref 49), (3, .ref 781), (4, .int (nI p))]) [0, 1, 2, 3, 4] rfl ?_
      exact k h2 g' i2
    refine rr_iload 5 rfl dL_law__1991 ?_
    refine rr_if_ne dL_law__1993 (fun _ => fin) (fun q => ?_)
    refine rr_aload_n 3 rfl rfl dL_law__1996 ?_
    refine rr_iconst 0 rfl dL_law__1997 ?_
    refine rr_laload dL_law__1998 lo_781 sh_781 vp01 ?_
    refine rr_iload 6 rfl dL_law__1999 ?_
    refine rr_i2l dL_law__2001 ?_
    refine rr_lcmp dL_law__2002 ?_
    refine rr_if_eq dL_law__2003 (fun _ => fin) (fun z => absurd (by rw [hg q]; exact lg_same _) z)
  rcases lk with ⟨rfl, rfl⟩ | ⟨b0, rfl, rfl⟩ | ⟨b0, rfl, rfl⟩
  · exact ⟨h1, g, rfl, Or.inl ⟨v, rfl, tail 0 _ (fun _ => u3_out) rfl⟩⟩
  · cases b0
  · exact ⟨h1, g, rfl, Or.inr (Or.inr ⟨rfl, rfl, tail _ g (fun z => absurd z (by decide)) rfl⟩)⟩
set_option maxHeartbeats 1000000 in
theorem ca_mates {len p d kc ks : Nat} {xs : Nat → Int32} {h : hp_} {g : Nat → Nat → Int64} {Q : jj_Rs → jj_St → Prop} (hl : len < 2 ^ 31) (hp : p + 9 ≤ len) (I : IVx h) (k : ∀ h2 g2, IVx h2 → jj_R (mLw len xs) (d + 66) kc ks (jj_S, 782, h2, g2) 2808 [(0, .ref 999998), (1, .ref 0), (2, .ref 49), (3, .ref 781), (4, .int (nI p))] [] Q) : jj_R (mLw len xs) (d + 66) (kc + 4) (ks + 24) (jj_S, 782, h, g) 2410 [(0, .ref 999998), (1, .ref 0), (2, .ref 49), (3, .ref 781), (4, .int (nI p))] [] Q := by
  obtain ⟨_, _, _, _, _, _, _, I⟩ := I
  refine rr_aload_n 1 rfl rfl dL_law__2410 ?_
  refine rr_aload_n 0 rfl rfl dL_law__2411 ?_
  refine rr_iload 4 rfl dL_law__2412 ?_
  refine rr_iconst 1 rfl dL_law__2414 ?_
  refine rr_iadd dL_law__2415 ?_
  refine rr_siaload (len := len) (xs := xs) rfl dL_law__2416 (sc_in (j := 1) hl hp rfl (by decide)) ?_
  refine rr_aload_n 3 rfl rfl dL_law__2417 ?_
  obtain ⟨mid, k1, k2⟩ := dual_2 (du_mates I (xs (nI p + 1).toNatClampNeg))
  refine rr_callSW (As := [.ref 0, .int (xs (nI p + 1).toNatClampNeg), .ref 781]) (rest := []) (kc2 := 4) (ks2 := 24) dL_law__2418 okL_mates lL_259 rfl (Nat.le_of_ble_eq_true rfl) (Nat.le_of_ble_eq_true rfl) rfl (by omega) (by simp [jj_rk]) (by simp [jj_rk]) ?_
  refine w_mates (fun Q2 hq => k1 (d + 24) 0 0 g Q2 (fun r h1 mm => hq r _ ?_))
  obtain ⟨v, th, lk, kr⟩ := k2 r h1 mm
  have tail : ∀ (cd : Int32) (g' : Nat → Nat → Int64), (cd = 0 → g' 781 (0 : Int32).toNatClampNeg = v.toInt64) → th = cd → jj_R (mLw len xs) (d + 66) (kc + 4 - 4) (ks + 24 - 24) (jj_S, 782, h1, g') 2421 [(0, .ref 999998), (1, .ref 0), (2, .ref 49), (3, .ref 781), (4, .int (nI p))] [.int cd] Q := fun cd g' hg hth => by
    refine rr_istore [(0, .ref 999998), (1, .ref 0), (2, .ref 49), (3, .ref 781), (4, .int (nI p)), (5, .int cd)] dL_law__2421 (Nat.le_of_ble_eq_true rfl) rfl ?_
    refine rr_aload_n 2 rfl rfl dL_law__2423 ?_
    refine rr_aload_n 0 rfl rfl dL_law__2424 ?_
    refine rr_iload 4 rfl dL_law__2425 ?_
    refine rr_iconst 1 rfl dL_law__2427 ?_
    refine rr_iadd dL_law__2428 ?_
    refine rr_siaload (len := len) (xs := xs) rfl dL_law__2429 (sc_in (j := 1) hl hp rfl (by decide)) ?_
    refine rr_callV (As := [.int (xs (nI p + 1).toNatClampNeg)]) (rest := []) (kc2 := 0) (ks2 := 0) dL_law__2430 okX10_mates lL_261 lo_49 sh_49 rfl rfl (Nat.le_of_ble_eq_true rfl) (Nat.le_of_ble_eq_true rfl) rfl (by omega) (by simp [jj_rk]) (by simp [jj_rk]) ?_
    refine kr (d + 1) 0 0 g' _ (fun h2 i2 t2 => ?_)
    show jj_R (mLw len xs) (d + 66) _ _ (jj_S, 782, h2, g') 2433 [(0, .ref 999998), (1, .ref 0), (2, .ref 49), (3, .ref 781), (4, .int (nI p)), (5, .int cd)] [.int v] Q
    refine rr_istore [(0, .ref 999998), (1, .ref 0), (2, .ref 49), (3, .ref 781), (4, .int (nI p)), (5, .int cd), (6, .int v)] dL_law__2433 (Nat.le_of_ble_eq_true rfl) rfl ?_
    refine rr_aload_n 2 rfl rfl dL_law__2435 ?_
    refine rr_callV (As := []) (rest := []) (kc2 := 0) (ks2 := 0) dL_law__2436 okX10_thrown lL_141 lo_49 sh_49 rfl rfl (Nat.le_of_ble_eq_true rfl) (Nat.le_of_ble_eq_true rfl) rfl (by omega) (by simp [jj_rk]) (by simp [jj_rk]) ?_
    refine sp_X10_thrown (d := d + 65) ?_
    show jj_R (mLw len xs) (d + 66) _ _ (jj_S, 782, h2, g') 2439 [(0, .ref 999998), (1, .ref 0), (2, .ref 49), (3, .ref 781), (4, .int (nI p)), (5, .int cd), (6, .int v)] [.int (h2 49 0)] Q
    refine rr_iload 5 rfl dL_law__2439 ?_
    refine rr_icmp_eq dL_law__2441 (fun _ => ?_) (fun q => absurd (t2.trans hth) q)
    have fin : jj_R (mLw len xs) (d + 66) (kc + 4 - 4 - 0 - 0) (ks + 24 - 24 - 0 - 0) (jj_S, 782, h2, g') 2463 [(0, .ref 999998), (1, .ref 0), (2, .ref 49), (3, .ref 781), (4, .int (nI p)), (5, .int cd), (6, .int v)] [] Q := by
      refine rr_goto dL_law__2463 ?_
      refine rr_drop (ls := [(0, .ref 999998), (1, .ref 0), (2, .ref 49), (3, .ref 781), (4, .int (nI p))]) [0, 1, 2, 3, 4] rfl ?_
      exact k h2 g' i2
    refine rr_iload 5 rfl dL_law__2446 ?_
    refine rr_if_ne dL_law__2448 (fun _ => fin) (fun q => ?_)
    refine rr_aload_n 3 rfl rfl dL_law__2451 ?_
    refine rr_iconst 0 rfl dL_law__2452 ?_
    refine rr_laload dL_law__2453 lo_781 sh_781 vp01 ?_
    refine rr_iload 6 rfl dL_law__2454 ?_
    refine rr_i2l dL_law__2456 ?_
    refine rr_lcmp dL_law__2457 ?_
    refine rr_if_eq dL_law__2458 (fun _ => fin) (fun z => absurd (by rw [hg q]; exact lg_same _) z)
  rcases lk with ⟨rfl, rfl⟩ | ⟨b0, rfl, rfl⟩ | ⟨b0, rfl, rfl⟩
  · exact ⟨h1, g, rfl, Or.inl ⟨v, rfl, tail 0 _ (fun _ => u3_out) rfl⟩⟩
  · exact ⟨h1, g, rfl, Or.inr (Or.inl ⟨rfl, rfl, tail 1 g (fun z => absurd z (by decide)) rfl⟩)⟩
  · cases b0
set_option maxHeartbeats 1000000 in
theorem ca_hold {len p d kc ks : Nat} {xs : Nat → Int32} {h : hp_} {g : Nat → Nat → Int64} {Q : jj_Rs → jj_St → Prop} (hl : len < 2 ^ 31) (hp : p + 9 ≤ len) (I : IVx h) (k : ∀ h2 g2, IVx h2 → jj_R (mLw len xs) (d + 66) kc ks (jj_S, 782, h2, g2) 2808 [(0, .ref 999998), (1, .ref 0), (2, .ref 49), (3, .ref 781), (4, .int (nI p))] [] Q) : jj_R (mLw len xs) (d + 66) (kc + 4) (ks + 24) (jj_S, 782, h, g) 683 [(0, .ref 999998), (1, .ref 0), (2, .ref 49), (3, .ref 781), (4, .int (nI p))] [] Q := by
  obtain ⟨_, _, _, _, _, _, _, I⟩ := I
  refine rr_aload_n 1 rfl rfl dL_law__683 ?_
  refine rr_aload_n 0 rfl rfl dL_law__684 ?_
  refine rr_iload 4 rfl dL_law__685 ?_
  refine rr_iconst 1 rfl dL_law__687 ?_
  refine rr_iadd dL_law__688 ?_
  refine rr_siaload (len := len) (xs := xs) rfl dL_law__689 (sc_in (j := 1) hl hp rfl (by decide)) ?_
  refine rr_aload_n 0 rfl rfl dL_law__690 ?_
  refine rr_iload 4 rfl dL_law__691 ?_
  refine rr_iconst 2 rfl dL_law__693 ?_
  refine rr_iadd dL_law__694 ?_
  refine rr_siaload (len := len) (xs := xs) rfl dL_law__695 (sc_in (j := 2) hl hp rfl (by decide)) ?_
  refine rr_aload_n 0 rfl rfl dL_law__696 ?_
  refine rr_iload 4 rfl dL_law__697 ?_
  refine rr_iconst 3 rfl dL_law__699 ?_
  refine rr_iadd dL_law__700 ?_
  refine rr_siaload (len := len) (xs := xs) rfl dL_law__701 (sc_in (j := 3) hl hp rfl (by decide)) ?_
  refine rr_aload_n 3 rfl rfl dL_law__702 ?_
  obtain ⟨mid, k1, k2⟩ := dual_2 (du_hold I (xs (nI p + 1).toNatClampNeg) (xs (nI p + 2).toNatClampNeg) (xs (nI p + 3).toNatClampNeg))
  refine rr_callSW (As := [.ref 0, .int (xs (nI p + 1).toNatClampNeg), .int (xs (nI p + 2).toNatClampNeg), .int (xs (nI p + 3).toNatClampNeg), .ref 781]) (rest := []) (kc2 := 4) (ks2 := 24) dL_law__703 okL_hold lL_169 rfl (Nat.le_of_ble_eq_true rfl) (Nat.le_of_ble_eq_true rfl) rfl (by omega) (by simp [jj_rk]) (by simp [jj_rk]) ?_
  refine w_hold (fun Q2 hq => k1 (d + 24) 0 0 g Q2 (fun r h1 mm => hq r _ ?_))
  obtain ⟨v, th, lk, kr⟩ := k2 r h1 mm
  have tail : ∀ (cd : Int32) (g' : Nat → Nat → Int64), (cd = 0 → g' 781 (0 : Int32).toNatClampNeg = v.toInt64) → th = cd → jj_R (mLw len xs) (d + 66) (kc + 4 - 4) (ks + 24 - 24) (jj_S, 782, h1, g') 706 [(0, .ref 999998), (1, .ref 0), (2, .ref 49), (3, .ref 781), (4, .int (nI p))] [.int cd] Q := fun cd g' hg hth => by
    refine rr_istore [(0, .ref 999998), (1, .ref 0), (2, .ref 49), (3, .ref 781), (4, .int (nI p)), (5, .int cd)] dL_law__706 (Nat.le_of_ble_eq_true rfl) rfl ?_
    refine rr_aload_n 2 rfl rfl dL_law__708 ?_
    refine rr_aload_n 0 rfl rfl dL_law__709 ?_
    refine rr_iload 4 rfl dL_law__710 ?_
    refine rr_iconst 1 rfl dL_law__712 ?_
    refine rr_iadd dL_law__713 ?_
    refine rr_siaload (len := len) (xs := xs) rfl dL_law__714 (sc_in (j := 1) hl hp rfl (by decide)) ?_
    refine rr_aload_n 0 rfl rfl dL_law__715 ?_
    refine rr_iload 4 rfl dL_law__716 ?_
    refine rr_iconst 2 rfl dL_law__718 ?_
    refine rr_iadd dL_law__719 ?_
    refine rr_siaload (len := len) (xs := xs) rfl dL_law__720 (sc_in (j := 2) hl hp rfl (by decide)) ?_
    refine rr_aload_n 0 rfl rfl dL_law__721 ?_
    refine rr_iload 4 rfl dL_law__722 ?_
    refine rr_iconst 3 rfl dL_law__724 ?_
    refine rr_iadd dL_law__725 ?_
    refine rr_siaload (len := len) (xs := xs) rfl dL_law__726 (sc_in (j := 3) hl hp rfl (by decide)) ?_
    refine rr_callV (As := [.int (xs (nI p + 1).toNatClampNeg), .int (xs (nI p + 2).toNatClampNeg), .int (xs (nI p + 3).toNatClampNeg)]) (rest := []) (kc2 := 0) (ks2 := 0) dL_law__727 okX10_hold lL_172 lo_49 sh_49 rfl rfl (Nat.le_of_ble_eq_true rfl) (Nat.le_of_ble_eq_true rfl) rfl (by omega) (by simp [jj_rk]) (by simp [jj_rk]) ?_
    refine kr (d + 1) 0 0 g' _ (fun h2 i2 t2 => ?_)
    show jj_R (mLw len xs) (d + 66) _ _ (jj_S, 782, h2, g') 730 [(0, .ref 999998), (1, .ref 0), (2, .ref 49), (3, .ref 781), (4, .int (nI p)), (5, .int cd)] [.int v] Q
    refine rr_istore [(0, .ref 999998), (1, .ref 0), (2, .ref 49), (3, .ref 781), (4, .int (nI p)), (5, .int cd), (6, .int v)] dL_law__730 (Nat.le_of_ble_eq_true rfl) rfl ?_
    refine rr_aload_n 2 rfl rfl dL_law__732 ?_
    refine rr_callV (As := []) (rest := []) (kc2 := 0) (ks2 := 0) dL_law__733 okX10_thrown lL_141 lo_49 sh_49 rfl rfl (Nat.le_of_ble_eq_true rfl) (Nat.le_of_ble_eq_true rfl) rfl (by omega) (by simp [jj_rk]) (by simp [jj_rk]) ?_
    refine sp_X10_thrown (d := d + 65) ?_
    show jj_R (mLw len xs) (d + 66) _ _ (jj_S, 782, h2, g') 736 [(0, .ref 999998), (1, .ref 0), (2, .ref 49), (3, .ref 781), (4, .int (nI p)), (5, .int cd), (6, .int v)] [.int (h2 49 0)] Q
    refine rr_iload 5 rfl dL_law__736 ?_
    refine rr_icmp_eq dL_law__738 (fun _ => ?_) (fun q => absurd (t2.trans hth) q)
    have fin : jj_R (mLw len xs) (d + 66) (kc + 4 - 4 - 0 - 0) (ks + 24 - 24 - 0 - 0) (jj_S, 782, h2, g') 760 [(0, .ref 999998), (1, .ref 0), (2, .ref 49), (3, .ref 781), (4, .int (nI p)), (5, .int cd), (6, .int v)] [] Q := by
      refine rr_goto dL_law__760 ?_
      refine rr_drop (ls := [(0, .ref 999998), (1, .ref 0), (2, .ref 49), (3, .ref 781), (4, .int (nI p))]) [0, 1, 2, 3, 4] rfl ?_
      exact k h2 g' i2
    refine rr_iload 5 rfl dL_law__743 ?_
    refine rr_if_ne dL_law__745 (fun _ => fin) (fun q => ?_)
    refine rr_aload_n 3 rfl rfl dL_law__748 ?_
    refine rr_iconst 0 rfl dL_law__749 ?_
    refine rr_laload dL_law__750 lo_781 sh_781 vp01 ?_
    refine rr_iload 6 rfl dL_law__751 ?_
    refine rr_i2l dL_law__753 ?_
    refine rr_lcmp dL_law__754 ?_
    refine rr_if_eq dL_law__755 (fun _ => fin) (fun z => absurd (by rw [hg q]; exact lg_same _) z)
  rcases lk with ⟨rfl, rfl⟩ | ⟨b0, rfl, rfl⟩ | ⟨b0, rfl, rfl⟩
  · exact ⟨h1, g, rfl, Or.inl ⟨v, rfl, tail 0 _ (fun _ => u3_out) rfl⟩⟩
  · exact ⟨h1, g, rfl, Or.inr (Or.inl ⟨rfl, rfl, tail 1 g (fun z => absurd z (by decide)) rfl⟩)⟩
  · exact ⟨h1, g, rfl, Or.inr (Or.inr ⟨rfl, rfl, tail _ g (fun z => absurd z (by decide)) rfl⟩)⟩
set_option maxHeartbeats 1000000 in
theorem ca_ahead {len p d kc ks : Nat} {xs : Nat → Int32} {h : hp_} {g : Nat → Nat → Int64} {Q : jj_Rs → jj_St → Prop} (hl : len < 2 ^ 31) (hp : p + 9 ≤ len) (I : IVx h) (k : ∀ h2 g2, IVx h2 → jj_R (mLw len xs) (d + 66) kc ks (jj_S, 782, h2, g2) 2808 [(0, .ref 999998), (1, .ref 0), (2, .ref 49), (3, .ref 781), (4, .int (nI p))] [] Q) : jj_R (mLw len xs) (d + 66) (kc + 4) (ks + 24) (jj_S, 782, h, g) 984 [(0, .ref 999998), (1, .ref 0), (2, .ref 49), (3, .ref 781), (4, .int (nI p))] [] Q := by
  obtain ⟨_, _, _, _, _, _, _, I⟩ := I
  refine rr_aload_n 1 rfl rfl dL_law__984 ?_
  refine rr_aload_n 0 rfl rfl dL_law__985 ?_
  refine rr_iload 4 rfl dL_law__986 ?_
  refine rr_iconst 1 rfl dL_law__988 ?_
  refine rr_iadd dL_law__989 ?_
  refine rr_siaload (len := len) (xs := xs) rfl dL_law__990 (sc_in (j := 1) hl hp rfl (by decide)) ?_
  refine rr_aload_n 0 rfl rfl dL_law__991 ?_
  refine rr_iload 4 rfl dL_law__992 ?_
  refine rr_iconst 2 rfl dL_law__994 ?_
  refine rr_iadd dL_law__995 ?_
  refine rr_siaload (len := len) (xs := xs) rfl dL_law__996 (sc_in (j := 2) hl hp rfl (by decide)) ?_
  refine rr_aload_n 3 rfl rfl dL_law__997 ?_
  obtain ⟨mid, k1, k2⟩ := dual_2 (du_ahead I (xs (nI p + 1).toNatClampNeg) (xs (nI p + 2).toNatClampNeg))
  refine rr_callSW (As := [.ref 0, .int (xs (nI p + 1).toNatClampNeg), .int (xs (nI p + 2).toNatClampNeg), .ref 781]) (rest := []) (kc2 := 4) (ks2 := 24) dL_law__998 okL_ahead lL_180 rfl (Nat.le_of_ble_eq_true rfl) (Nat.le_of_ble_eq_true rfl) rfl (by omega) (by simp [jj_rk]) (by simp [jj_rk]) ?_
  refine w_ahead (fun Q2 hq => k1 (d + 24) 0 0 g Q2 (fun r h1 mm => hq r _ ?_))
  obtain ⟨v, th, lk, kr⟩ := k2 r h1 mm
  have tail : ∀ (cd : Int32) (g' : Nat → Nat → Int64), (cd = 0 → g' 781 (0 : Int32).toNatClampNeg = v.toInt64) → th = cd → jj_R (mLw len xs) (d + 66) (kc + 4 - 4) (ks + 24 - 24) (jj_S, 782, h1, g') 1001 [(0, .ref 999998), (1, .ref 0), (2, .ref 49), (3, .ref 781), (4, .int (nI p))] [.int cd] Q := fun cd g' hg hth => by
    refine rr_istore [(0, .ref 999998), (1, .ref 0), (2, .ref 49), (3, .ref 781), (4, .int (nI p)), (5, .int cd)] dL_law__1001 (Nat.le_of_ble_eq_true rfl) rfl ?_
    refine rr_aload_n 2 rfl rfl dL_law__1003 ?_
    refine rr_aload_n 0 rfl rfl dL_law__1004 ?_
    refine rr_iload 4 rfl dL_law__1005 ?_
    refine rr_iconst 1 rfl dL_law__1007 ?_
    refine rr_iadd dL_law__1008 ?_
    refine rr_siaload (len := len) (xs := xs) rfl dL_law__1009 (sc_in (j := 1) hl hp rfl (by decide)) ?_
    refine rr_aload_n 0 rfl rfl dL_law__1010 ?_
    refine rr_iload 4 rfl dL_law__1011 ?_
    refine rr_iconst 2 rfl dL_law__1013 ?_
    refine rr_iadd dL_law__1014 ?_
    refine rr_siaload (len := len) (xs := xs) rfl dL_law__1015 (sc_in (j := 2) hl hp rfl (by decide)) ?_
    refine rr_callV (As := [.int (xs (nI p + 1).toNatClampNeg), .int (xs (nI p + 2).toNatClampNeg)]) (rest := []) (kc2 := 0) (ks2 := 0) dL_law__1016 okX10_ahead lL_182 lo_49 sh_49 rfl rfl (Nat.le_of_ble_eq_true rfl) (Nat.le_of_ble_eq_true rfl) rfl (by omega) (by simp [jj_rk]) (by simp [jj_rk]) ?_
    refine kr (d + 1) 0 0 g' _ (fun h2 i2 t2 => ?_)
    show jj_R (mLw len xs) (d + 66) _ _ (jj_S, 782, h2, g') 1019 [(0, .ref 999998), (1, .ref 0), (2, .ref 49), (3, .ref 781), (4, .int (nI p)), (5, .int cd)] [.int v] Q
    refine rr_istore [(0, .ref 999998), (1, .ref 0), (2, .ref 49), (3, .ref 781), (4, .int (nI p)), (5, .int cd), (6, .int v)] dL_law__1019 (Nat.le_of_ble_eq_true rfl) rfl ?_
    refine rr_aload_n 2 rfl rfl dL_law__1021 ?_
    refine rr_callV (As := []) (rest := []) (kc2 := 0) (ks2 := 0) dL_law__1022 okX10_thrown lL_141 lo_49 sh_49 rfl rfl (Nat.le_of_ble_eq_true rfl) (Nat.le_of_ble_eq_true rfl) rfl (by omega) (by simp [jj_rk]) (by simp [jj_rk]) ?_
    refine sp_X10_thrown (d := d + 65) ?_
    show jj_R (mLw len xs) (d + 66) _ _ (jj_S, 782, h2, g') 1025 [(0, .ref 999998), (1, .ref 0), (2, .ref 49), (3, .ref 781), (4, .int (nI p)), (5, .int cd), (6, .int v)] [.int (h2 49 0)] Q
    refine rr_iload 5 rfl dL_law__1025 ?_
    refine rr_icmp_eq dL_law__1027 (fun _ => ?_) (fun q => absurd (t2.trans hth) q)
    have fin : jj_R (mLw len xs) (d + 66) (kc + 4 - 4 - 0 - 0) (ks + 24 - 24 - 0 - 0) (jj_S, 782, h2, g') 1049 [(0, .ref 999998), (1, .ref 0), (2, .ref 49), (3, .ref 781), (4, .int (nI p)), (5, .int cd), (6, .int v)] [] Q := by
      refine rr_goto dL_law__1049 ?_
      refine rr_drop (ls := [(0, .ref 999998), (1, .ref 0), (2, .ref 49), (3, .ref 781), (4, .int (nI p))]) [0, 1, 2, 3, 4] rfl ?_
      exact k h2 g' i2
    refine rr_iload 5 rfl dL_law__1032 ?_
    refine rr_if_ne dL_law__1034 (fun _ => fin) (fun q => ?_)
    refine rr_aload_n 3 rfl rfl dL_law__1037 ?_
    refine rr_iconst 0 rfl dL_law__1038 ?_
    refine rr_laload dL_law__1039 lo_781 sh_781 vp01 ?_
    refine rr_iload 6 rfl dL_law__1040 ?_
    refine rr_i2l dL_law__1042 ?_
    refine rr_lcmp dL_law__1043 ?_
    refine rr_if_eq dL_law__1044 (fun _ => fin) (fun z => absurd (by rw [hg q]; exact lg_same _) z)
  rcases lk with ⟨rfl, rfl⟩ | ⟨b0, rfl, rfl⟩ | ⟨b0, rfl, rfl⟩
  · exact ⟨h1, g, rfl, Or.inl ⟨v, rfl, tail 0 _ (fun _ => u3_out) rfl⟩⟩
  · cases b0
  · exact ⟨h1, g, rfl, Or.inr (Or.inr ⟨rfl, rfl, tail _ g (fun z => absurd z (by decide)) rfl⟩)⟩
set_option maxHeartbeats 1000000 in
theorem ca_later {len p d kc ks : Nat} {xs : Nat → Int32} {h : hp_} {g : Nat → Nat → Int64} {Q : jj_Rs → jj_St → Prop} (hl : len < 2 ^ 31) (hp : p + 9 ≤ len) (I : IVx h) (k : ∀ h2 g2, IVx h2 → jj_R (mLw len xs) (d + 66) kc ks (jj_S, 782, h2, g2) 2808 [(0, .ref 999998), (1, .ref 0), (2, .ref 49), (3, .ref 781), (4, .int (nI p))] [] Q) : jj_R (mLw len xs) (d + 66) (kc + 4) (ks + 24) (jj_S, 782, h, g) 2273 [(0, .ref 999998), (1, .ref 0), (2, .ref 49), (3, .ref 781), (4, .int (nI p))] [] Q := by
  obtain ⟨_, _, _, _, _, _, _, I⟩ := I
  refine rr_aload_n 1 rfl rfl dL_law__2273 ?_
  refine rr_aload_n 0 rfl rfl dL_law__2274 ?_
  refine rr_iload 4 rfl dL_law__2275 ?_
  refine rr_iconst 1 rfl dL_law__2277 ?_
  refine rr_iadd dL_law__2278 ?_
  refine rr_siaload (len := len) (xs := xs) rfl dL_law__2279 (sc_in (j := 1) hl hp rfl (by decide)) ?_
  refine rr_aload_n 0 rfl rfl dL_law__2280 ?_
  refine rr_iload 4 rfl dL_law__2281 ?_
  refine rr_iconst 2 rfl dL_law__2283 ?_
  refine rr_iadd dL_law__2284 ?_
  refine rr_siaload (len := len) (xs := xs) rfl dL_law__2285 (sc_in (j := 2) hl hp rfl (by decide)) ?_
  refine rr_aload_n 3 rfl rfl dL_law__2286 ?_
  obtain ⟨mid, k1, k2⟩ := dual_2 (du_later I (xs (nI p + 1).toNatClampNeg) (xs (nI p + 2).toNatClampNeg))
  refine rr_callSW (As := [.ref 0, .int (xs (nI p + 1).toNatClampNeg), .int (xs (nI p + 2).toNatClampNeg), .ref 781]) (rest := []) (kc2 := 4) (ks2 := 24) dL_law__2287 okL_later lL_249 rfl (Nat.le_of_ble_eq_true rfl) (Nat.le_of_ble_eq_true rfl) rfl (by omega) (by simp [jj_rk]) (by simp [jj_rk]) ?_
  refine w_later (fun Q2 hq => k1 (d + 24) 0 0 g Q2 (fun r h1 mm => hq r _ ?_))
  obtain ⟨v, th, lk, kr⟩ := k2 r h1 mm
  have tail : ∀ (cd : Int32) (g' : Nat → Nat → Int64), (cd = 0 → g' 781 (0 : Int32).toNatClampNeg = v.toInt64) → th = cd → jj_R (mLw len xs) (d + 66) (kc + 4 - 4) (ks + 24 - 24) (jj_S, 782, h1, g') 2290 [(0, .ref 999998), (1, .ref 0), (2, .ref 49), (3, .ref 781), (4, .int (nI p))] [.int cd] Q := fun cd g' hg hth => by
    refine rr_istore [(0, .ref 999998), (1, .ref 0), (2, .ref 49), (3, .ref 781), (4, .int (nI p)), (5, .int cd)] dL_law__2290 (Nat.le_of_ble_eq_true rfl) rfl ?_
    refine rr_aload_n 2 rfl rfl dL_law__2292 ?_
    refine rr_aload_n 0 rfl rfl dL_law__2293 ?_
    refine rr_iload 4 rfl dL_law__2294 ?_
    refine rr_iconst 1 rfl dL_law__2296 ?_
    refine rr_iadd dL_law__2297 ?_
    refine rr_siaload (len := len) (xs := xs) rfl dL_law__2298 (sc_in (j := 1) hl hp rfl (by decide)) ?_
    refine rr_aload_n 0 rfl rfl dL_law__2299 ?_
    refine rr_iload 4 rfl dL_law__2300 ?_
    refine rr_iconst 2 rfl dL_law__2302 ?_
    refine rr_iadd dL_law__2303 ?_
    refine rr_siaload (len := len) (xs := xs) rfl dL_law__2304 (sc_in (j := 2) hl hp rfl (by decide)) ?_
    refine rr_callV (As := [.int (xs (nI p + 1).toNatClampNeg), .int (xs (nI p + 2).toNatClampNeg)]) (rest := []) (kc2 := 0) (ks2 := 0) dL_law__2305 okX10_later lL_251 lo_49 sh_49 rfl rfl (Nat.le_of_ble_eq_true rfl) (Nat.le_of_ble_eq_true rfl) rfl (by omega) (by simp [jj_rk]) (by simp [jj_rk]) ?_
    refine kr (d + 1) 0 0 g' _ (fun h2 i2 t2 => ?_)
    show jj_R (mLw len xs) (d + 66) _ _ (jj_S, 782, h2, g') 2308 [(0, .ref 999998), (1, .ref 0), (2, .ref 49), (3, .ref 781), (4, .int (nI p)), (5, .int cd)] [.int v] Q
    refine rr_istore [(0, .ref 999998), (1, .ref 0), (2, .ref 49), (3, .ref 781), (4, .int (nI p)), (5, .int cd), (6, .int v)] dL_law__2308 (Nat.le_of_ble_eq_true rfl) rfl ?_
    refine rr_aload_n 2 rfl rfl dL_law__2310 ?_
    refine rr_callV (As := []) (rest := []) (kc2 := 0) (ks2 := 0) dL_law__2311 okX10_thrown lL_141 lo_49 sh_49 rfl rfl (Nat.le_of_ble_eq_true rfl) (Nat.le_of_ble_eq_true rfl) rfl (by omega) (by simp [jj_rk]) (by simp [jj_rk]) ?_
    refine sp_X10_thrown (d := d + 65) ?_
    show jj_R (mLw len xs) (d + 66) _ _ (jj_S, 782, h2, g') 2314 [(0, .ref 999998), (1, .ref 0), (2, .ref 49), (3, .ref 781), (4, .int (nI p)), (5, .int cd), (6, .int v)] [.int (h2 49 0)] Q
    refine rr_iload 5 rfl dL_law__2314 ?_
    refine rr_icmp_eq dL_law__2316 (fun _ => ?_) (fun q => absurd (t2.trans hth) q)
    have fin : jj_R (mLw len xs) (d + 66) (kc + 4 - 4 - 0 - 0) (ks + 24 - 24 - 0 - 0) (jj_S, 782, h2, g') 2338 [(0, .ref 999998), (1, .ref 0), (2, .ref 49), (3, .ref 781), (4, .int (nI p)), (5, .int cd), (6, .int v)] [] Q := by
      refine rr_goto dL_law__2338 ?_
      refine rr_drop (ls := [(0, .ref 999998), (1, .ref 0), (2, .ref 49), (3, .ref 781), (4, .int (nI p))]) [0, 1, 2, 3, 4] rfl ?_
      exact k h2 g' i2
    refine rr_iload 5 rfl dL_law__2321 ?_
    refine rr_if_ne dL_law__2323 (fun _ => fin) (fun q => ?_)
    refine rr_aload_n 3 rfl rfl dL_law__2326 ?_
    refine rr_iconst 0 rfl dL_law__2327 ?_
    refine rr_laload dL_law__2328 lo_781 sh_781 vp01 ?_
    refine rr_iload 6 rfl dL_law__2329 ?_
    refine rr_i2l dL_law__2331 ?_
    refine rr_lcmp dL_law__2332 ?_
    refine rr_if_eq dL_law__2333 (fun _ => fin) (fun z => absurd (by rw [hg q]; exact lg_same _) z)
  rcases lk with ⟨rfl, rfl⟩ | ⟨b0, rfl, rfl⟩ | ⟨b0, rfl, rfl⟩
  · exact ⟨h1, g, rfl, Or.inl ⟨v, rfl, tail 0 _ (fun _ => u3_out) rfl⟩⟩
  · exact ⟨h1, g, rfl, Or.inr (Or.inl ⟨rfl, rfl, tail 1 g (fun z => absurd z (by decide)) rfl⟩)⟩
  · exact ⟨h1, g, rfl, Or.inr (Or.inr ⟨rfl, rfl, tail _ g (fun z => absurd z (by decide)) rfl⟩)⟩
set_option maxHeartbeats 1000000 in
theorem ca_helpers {len p d kc ks : Nat} {xs : Nat → Int32} {h : hp_} {g : Nat → Nat → Int64} {Q : jj_Rs → jj_St → Prop} (hl : len < 2 ^ 31) (hp : p + 9 ≤ len) (I : IVx h) (k : ∀ h2 g2, IVx h2 → jj_R (mLw len xs) (d + 66) kc ks (jj_S, 782, h2, g2) 2808 [(0, .ref 999998), (1, .ref 0), (2, .ref 49), (3, .ref 781), (4, .int (nI p))] [] Q) : jj_R (mLw len xs) (d + 66) (kc + 4) (ks + 24) (jj_S, 782, h, g) 1843 [(0, .ref 999998), (1, .ref 0), (2, .ref 49), (3, .ref 781), (4, .int (nI p))] [] Q := by
  obtain ⟨_, _, _, _, _, _, _, I⟩ := I
  refine rr_aload_n 1 rfl rfl dL_law__1843 ?_
  refine rr_aload_n 0 rfl rfl dL_law__1844 ?_
  refine rr_iload 4 rfl dL_law__1845 ?_
  refine rr_iconst 1 rfl dL_law__1847 ?_
  refine rr_iadd dL_law__1848 ?_
  refine rr_siaload (len := len) (xs := xs) rfl dL_law__1849 (sc_in (j := 1) hl hp rfl (by decide)) ?_
  refine rr_aload_n 3 rfl rfl dL_law__1850 ?_
  obtain ⟨mid, k1, k2⟩ := dual_2 (du_helpers I (xs (nI p + 1).toNatClampNeg))
  refine rr_callSW (As := [.ref 0, .int (xs (nI p + 1).toNatClampNeg), .ref 781]) (rest := []) (kc2 := 4) (ks2 := 24) dL_law__1851 okL_helpers lL_220 rfl (Nat.le_of_ble_eq_true rfl) (Nat.le_of_ble_eq_true rfl) rfl (by omega) (by simp [jj_rk]) (by simp [jj_rk]) ?_
  refine w_helpers (fun Q2 hq => k1 (d + 24) 0 0 g Q2 (fun r h1 mm => hq r _ ?_))
  obtain ⟨v, th, lk, kr⟩ := k2 r h1 mm
  have tail : ∀ (cd : Int32) (g' : Nat → Nat → Int64), (cd = 0 → g' 781 (0 : Int32).toNatClampNeg = v.toInt64) → th = cd → jj_R (mLw len xs) (d + 66) (kc + 4 - 4) (ks + 24 - 24) (jj_S, 782, h1, g') 1854 [(0, .ref 999998), (1, .ref 0), (2, .ref 49), (3, .ref 781), (4, .int (nI p))] [.int cd] Q := fun cd g' hg hth => by
    refine rr_istore [(0, .ref 999998), (1, .ref 0), (2, .ref 49), (3, .ref 781), (4, .int (nI p)), (5, .int cd)] dL_law__1854 (Nat.le_of_ble_eq_true rfl) rfl ?_
    refine rr_aload_n 2 rfl rfl dL_law__1856 ?_
    refine rr_aload_n 0 rfl rfl dL_law__1857 ?_
    refine rr_iload 4 rfl dL_law__1858 ?_
    refine rr_iconst 1 rfl dL_law__1860 ?_
    refine rr_iadd dL_law__1861 ?_
    refine rr_siaload (len := len) (xs := xs) rfl dL_law__1862 (sc_in (j := 1) hl hp rfl (by decide)) ?_
    refine rr_callV (As := [.int (xs (nI p + 1).toNatClampNeg)]) (rest := []) (kc2 := 0) (ks2 := 0) dL_law__1863 okX10_helpers lL_222 lo_49 sh_49 rfl rfl (Nat.le_of_ble_eq_true rfl) (Nat.le_of_ble_eq_true rfl) rfl (by omega) (by simp [jj_rk]) (by simp [jj_rk]) ?_
    refine kr (d + 1) 0 0 g' _ (fun h2 i2 t2 => ?_)
    show jj_R (mLw len xs) (d + 66) _ _ (jj_S, 782, h2, g') 1866 [(0, .ref 999998), (1, .ref 0), (2, .ref 49), (3, .ref 781), (4, .int (nI p)), (5, .int cd)] [.int v] Q
    refine rr_istore [(0, .ref 999998), (1, .ref 0), (2, .ref 49), (3, .ref 781), (4, .int (nI p)), (5, .int cd), (6, .int v)] dL_law__1866 (Nat.le_of_ble_eq_true rfl) rfl ?_
    refine rr_aload_n 2 rfl rfl dL_law__1868 ?_
    refine rr_callV (As := []) (rest := []) (kc2 := 0) (ks2 := 0) dL_law__1869 okX10_thrown lL_141 lo_49 sh_49 rfl rfl (Nat.le_of_ble_eq_true rfl) (Nat.le_of_ble_eq_true rfl) rfl (by omega) (by simp [jj_rk]) (by simp [jj_rk]) ?_
    refine sp_X10_thrown (d := d + 65) ?_
    show jj_R (mLw len xs) (d + 66) _ _ (jj_S, 782, h2, g') 1872 [(0, .ref 999998), (1, .ref 0), (2, .ref 49), (3, .ref 781), (4, .int (nI p)), (5, .int cd), (6, .int v)] [.int (h2 49 0)] Q
    refine rr_iload 5 rfl dL_law__1872 ?_
    refine rr_icmp_eq dL_law__1874 (fun _ => ?_) (fun q => absurd (t2.trans hth) q)
    have fin : jj_R (mLw len xs) (d + 66) (kc + 4 - 4 - 0 - 0) (ks + 24 - 24 - 0 - 0) (jj_S, 782, h2, g') 1896 [(0, .ref 999998), (1, .ref 0), (2, .ref 49), (3, .ref 781), (4, .int (nI p)), (5, .int cd), (6, .int v)] [] Q := by
      refine rr_goto dL_law__1896 ?_
      refine rr_drop (ls := [(0, .ref 999998), (1, .ref 0), (2, .ref 49), (3, .ref 781), (4, .int (nI p))]) [0, 1, 2, 3, 4] rfl ?_
      exact k h2 g' i2
    refine rr_iload 5 rfl dL_law__1879 ?_
    refine rr_if_ne dL_law__1881 (fun _ => fin) (fun q => ?_)
    refine rr_aload_n 3 rfl rfl dL_law__1884 ?_
    refine rr_iconst 0 rfl dL_law__1885 ?_
    refine rr_laload dL_law__1886 lo_781 sh_781 vp01 ?_
    refine rr_iload 6 rfl dL_law__1887 ?_
    refine rr_i2l dL_law__1889 ?_
    refine rr_lcmp dL_law__1890 ?_
    refine rr_if_eq dL_law__1891 (fun _ => fin) (fun z => absurd (by rw [hg q]; exact lg_same _) z)
  rcases lk with ⟨rfl, rfl⟩ | ⟨b0, rfl, rfl⟩ | ⟨b0, rfl, rfl⟩
  · exact ⟨h1, g, rfl, Or.inl ⟨v, rfl, tail 0 _ (fun _ => u3_out) rfl⟩⟩
  · exact ⟨h1, g, rfl, Or.inr (Or.inl ⟨rfl, rfl, tail 1 g (fun z => absurd z (by decide)) rfl⟩)⟩
  · cases b0
set_option maxHeartbeats 1000000 in
theorem ca_tied {len p d kc ks : Nat} {xs : Nat → Int32} {h : hp_} {g : Nat → Nat → Int64} {Q : jj_Rs → jj_St → Prop} (hl : len < 2 ^ 31) (hp : p + 9 ≤ len) (I : IVx h) (k : ∀ h2 g2, IVx h2 → jj_R (mLw len xs) (d + 66) kc ks (jj_S, 782, h2, g2) 2808 [(0, .ref 999998), (1, .ref 0), (2, .ref 49), (3, .ref 781), (4, .int (nI p))] [] Q) : jj_R (mLw len xs) (d + 66) (kc + 4) (ks + 24) (jj_S, 782, h, g) 1899 [(0, .ref 999998), (1, .ref 0), (2, .ref 49), (3, .ref 781), (4, .int (nI p))] [] Q := by
  obtain ⟨_, _, _, _, _, _, _, I⟩ := I
  refine rr_aload_n 1 rfl rfl dL_law__1899 ?_
  refine rr_aload_n 0 rfl rfl dL_law__1900 ?_
  refine rr_iload 4 rfl dL_law__1901 ?_
  refine rr_iconst 1 rfl dL_law__1903 ?_
  refine rr_iadd dL_law__1904 ?_
  refine rr_siaload (len := len) (xs := xs) rfl dL_law__1905 (sc_in (j := 1) hl hp rfl (by decide)) ?_
  refine rr_aload_n 3 rfl rfl dL_law__1906 ?_
  obtain ⟨mid, k1, k2⟩ := dual_2 (du_tied I (xs (nI p + 1).toNatClampNeg))
  refine rr_callSW (As := [.ref 0, .int (xs (nI p + 1).toNatClampNeg), .ref 781]) (rest := []) (kc2 := 4) (ks2 := 24) dL_law__1907 okL_tied lL_223 rfl (Nat.le_of_ble_eq_true rfl) (Nat.le_of_ble_eq_true rfl) rfl (by omega) (by simp [jj_rk]) (by simp [jj_rk]) ?_
  refine w_tied (fun Q2 hq => k1 (d + 24) 0 0 g Q2 (fun r h1 mm => hq r _ ?_))
  obtain ⟨v, th, lk, kr⟩ := k2 r h1 mm
  have tail : ∀ (cd : Int32) (g' : Nat → Nat → Int64), (cd = 0 → g' 781 (0 : Int32).toNatClampNeg = v.toInt64) → th = cd → jj_R (mLw len xs) (d + 66) (kc + 4 - 4) (ks + 24 - 24) (jj_S, 782, h1, g') 1910 [(0, .ref 999998), (1, .ref 0), (2, .ref 49), (3, .ref 781), (4, .int (nI p))] [.int cd] Q := fun cd g' hg hth => by
    refine rr_istore [(0, .ref 999998), (1, .ref 0), (2, .ref 49), (3, .ref 781), (4, .int (nI p)), (5, .int cd)] dL_law__1910 (Nat.le_of_ble_eq_true rfl) rfl ?_
    refine rr_aload_n 2 rfl rfl dL_law__1912 ?_
    refine rr_aload_n 0 rfl rfl dL_law__1913 ?_
    refine rr_iload 4 rfl dL_law__1914 ?_
    refine rr_iconst 1 rfl dL_law__1916 ?_
    refine rr_iadd dL_law__1917 ?_
    refine rr_siaload (len := len) (xs := xs) rfl dL_law__1918 (sc_in (j := 1) hl hp rfl (by decide)) ?_
    refine rr_callV (As := [.int (xs (nI p + 1).toNatClampNeg)]) (rest := []) (kc2 := 0) (ks2 := 0) dL_law__1919 okX10_tied lL_225 lo_49 sh_49 rfl rfl (Nat.le_of_ble_eq_true rfl) (Nat.le_of_ble_eq_true rfl) rfl (by omega) (by simp [jj_rk]) (by simp [jj_rk]) ?_
    refine kr (d + 1) 0 0 g' _ (fun h2 i2 t2 => ?_)
    show jj_R (mLw len xs) (d + 66) _ _ (jj_S, 782, h2, g') 1922 [(0, .ref 999998), (1, .ref 0), (2, .ref 49), (3, .ref 781), (4, .int (nI p)), (5, .int cd)] [.int v] Q
    refine rr_istore [(0, .ref 999998), (1, .ref 0), (2, .ref 49), (3, .ref 781), (4, .int (nI p)), (5, .int cd), (6, .int v)] dL_law__1922 (Nat.le_of_ble_eq_true rfl) rfl ?_
    refine rr_aload_n 2 rfl rfl dL_law__1924 ?_
    refine rr_callV (As := []) (rest := []) (kc2 := 0) (ks2 := 0) dL_law__1925 okX10_thrown lL_141 lo_49 sh_49 rfl rfl (Nat.le_of_ble_eq_true rfl) (Nat.le_of_ble_eq_true rfl) rfl (by omega) (by simp [jj_rk]) (by simp [jj_rk]) ?_
    refine sp_X10_thrown (d := d + 65) ?_
    show jj_R (mLw len xs) (d + 66) _ _ (jj_S, 782, h2, g') 1928 [(0, .ref 999998), (1, .ref 0), (2, .ref 49), (3, .ref 781), (4, .int (nI p)), (5, .int cd), (6, .int v)] [.int (h2 49 0)] Q
    refine rr_iload 5 rfl dL_law__1928 ?_
    refine rr_icmp_eq dL_law__1930 (fun _ => ?_) (fun q => absurd (t2.trans hth) q)
    have fin : jj_R (mLw len xs) (d + 66) (kc + 4 - 4 - 0 - 0) (ks + 24 - 24 - 0 - 0) (jj_S, 782, h2, g') 1952 [(0, .ref 999998), (1, .ref 0), (2, .ref 49), (3, .ref 781), (4, .int (nI p)), (5, .int cd), (6, .int v)] [] Q := by
      refine rr_goto dL_law__1952 ?_
      refine rr_drop (ls := [(0, .ref 999998), (1, .ref 0), (2, .ref 49), (3, .ref 781), (4, .int (nI p))]) [0, 1, 2, 3, 4] rfl ?_
      exact k h2 g' i2
    refine rr_iload 5 rfl dL_law__1935 ?_
    refine rr_if_ne dL_law__1937 (fun _ => fin) (fun q => ?_)
    refine rr_aload_n 3 rfl rfl dL_law__1940 ?_
    refine rr_iconst 0 rfl dL_law__1941 ?_
    refine rr_laload dL_law__1942 lo_781 sh_781 vp01 ?_
    refine rr_iload 6 rfl dL_law__1943 ?_
    refine rr_i2l dL_law__1945 ?_
    refine rr_lcmp dL_law__1946 ?_
    refine rr_if_eq dL_law__1947 (fun _ => fin) (fun z => absurd (by rw [hg q]; exact lg_same _) z)
  rcases lk with ⟨rfl, rfl⟩ | ⟨b0, rfl, rfl⟩ | ⟨b0, rfl, rfl⟩
  · exact ⟨h1, g, rfl, Or.inl ⟨v, rfl, tail 0 _ (fun _ => u3_out) rfl⟩⟩
  · exact ⟨h1, g, rfl, Or.inr (Or.inl ⟨rfl, rfl, tail 1 g (fun z => absurd z (by decide)) rfl⟩)⟩
  · cases b0
set_option maxHeartbeats 1000000 in
theorem ca_catches {len p d kc ks : Nat} {xs : Nat → Int32} {h : hp_} {g : Nat → Nat → Int64} {Q : jj_Rs → jj_St → Prop} (hl : len < 2 ^ 31) (hp : p + 9 ≤ len) (I : IVx h) (k : ∀ h2 g2, IVx h2 → jj_R (mLw len xs) (d + 66) kc ks (jj_S, 782, h2, g2) 2808 [(0, .ref 999998), (1, .ref 0), (2, .ref 49), (3, .ref 781), (4, .int (nI p))] [] Q) : jj_R (mLw len xs) (d + 66) (kc + 4) (ks + 24) (jj_S, 782, h, g) 1052 [(0, .ref 999998), (1, .ref 0), (2, .ref 49), (3, .ref 781), (4, .int (nI p))] [] Q := by
  obtain ⟨_, _, _, _, _, _, _, I⟩ := I
  refine rr_aload_n 1 rfl rfl dL_law__1052 ?_
  refine rr_aload_n 0 rfl rfl dL_law__1053 ?_
  refine rr_iload 4 rfl dL_law__1054 ?_
  refine rr_iconst 1 rfl dL_law__1056 ?_
  refine rr_iadd dL_law__1057 ?_
  refine rr_siaload (len := len) (xs := xs) rfl dL_law__1058 (sc_in (j := 1) hl hp rfl (by decide)) ?_
  refine rr_aload_n 3 rfl rfl dL_law__1059 ?_
  obtain ⟨mid, k1, k2⟩ := dual_2 (du_catches I (xs (nI p + 1).toNatClampNeg))
  refine rr_callSW (As := [.ref 0, .int (xs (nI p + 1).toNatClampNeg), .ref 781]) (rest := []) (kc2 := 4) (ks2 := 24) dL_law__1060 okL_catches lL_183 rfl (Nat.le_of_ble_eq_true rfl) (Nat.le_of_ble_eq_true rfl) rfl (by omega) (by simp [jj_rk]) (by simp [jj_rk]) ?_
  refine w_catches (fun Q2 hq => k1 (d + 24) 0 0 g Q2 (fun r h1 mm => hq r _ ?_))
  obtain ⟨v, th, lk, kr⟩ := k2 r h1 mm
  have tail : ∀ (cd : Int32) (g' : Nat → Nat → Int64), (cd = 0 → g' 781 (0 : Int32).toNatClampNeg = v.toInt64) → th = cd → jj_R (mLw len xs) (d + 66) (kc + 4 - 4) (ks + 24 - 24) (jj_S, 782, h1, g') 1063 [(0, .ref 999998), (1, .ref 0), (2, .ref 49), (3, .ref 781), (4, .int (nI p))] [.int cd] Q := fun cd g' hg hth => by
    refine rr_istore [(0, .ref 999998), (1, .ref 0), (2, .ref 49), (3, .ref 781), (4, .int (nI p)), (5, .int cd)] dL_law__1063 (Nat.le_of_ble_eq_true rfl) rfl ?_
    refine rr_aload_n 2 rfl rfl dL_law__1065 ?_
    refine rr_aload_n 0 rfl rfl dL_law__1066 ?_
    refine rr_iload 4 rfl dL_law__1067 ?_
    refine rr_iconst 1 rfl dL_law__1069 ?_
    refine rr_iadd dL_law__1070 ?_
    refine rr_siaload (len := len) (xs := xs) rfl dL_law__1071 (sc_in (j := 1) hl hp rfl (by decide)) ?_
    refine rr_callV (As := [.int (xs (nI p + 1).toNatClampNeg)]) (rest := []) (kc2 := 0) (ks2 := 0) dL_law__1072 okX10_catches lL_185 lo_49 sh_49 rfl rfl (Nat.le_of_ble_eq_true rfl) (Nat.le_of_ble_eq_true rfl) rfl (by omega) (by simp [jj_rk]) (by simp [jj_rk]) ?_
    refine kr (d + 1) 0 0 g' _ (fun h2 i2 t2 => ?_)
    show jj_R (mLw len xs) (d + 66) _ _ (jj_S, 782, h2, g') 1075 [(0, .ref 999998), (1, .ref 0), (2, .ref 49), (3, .ref 781), (4, .int (nI p)), (5, .int cd)] [.int v] Q
    refine rr_istore [(0, .ref 999998), (1, .ref 0), (2, .ref 49), (3, .ref 781), (4, .int (nI p)), (5, .int cd), (6, .int v)] dL_law__1075 (Nat.le_of_ble_eq_true rfl) rfl ?_
    refine rr_aload_n 2 rfl rfl dL_law__1077 ?_
    refine rr_callV (As := []) (rest := []) (kc2 := 0) (ks2 := 0) dL_law__1078 okX10_thrown lL_141 lo_49 sh_49 rfl rfl (Nat.le_of_ble_eq_true rfl) (Nat.le_of_ble_eq_true rfl) rfl (by omega) (by simp [jj_rk]) (by simp [jj_rk]) ?_
    refine sp_X10_thrown (d := d + 65) ?_
    show jj_R (mLw len xs) (d + 66) _ _ (jj_S, 782, h2, g') 1081 [(0, .ref 999998), (1, .ref 0), (2, .ref 49), (3, .ref 781), (4, .int (nI p)), (5, .int cd), (6, .int v)] [.int (h2 49 0)] Q
    refine rr_iload 5 rfl dL_law__1081 ?_
    refine rr_icmp_eq dL_law__1083 (fun _ => ?_) (fun q => absurd (t2.trans hth) q)
    have fin : jj_R (mLw len xs) (d + 66) (kc + 4 - 4 - 0 - 0) (ks + 24 - 24 - 0 - 0) (jj_S, 782, h2, g') 1105 [(0, .ref 999998), (1, .ref 0), (2, .ref 49), (3, .ref 781), (4, .int (nI p)), (5, .int cd), (6, .int v)] [] Q := by
      refine rr_goto dL_law__1105 ?_
      refine rr_drop (ls := [(0, .ref 999998), (1, .ref 0), (2, .ref 49), (3, .ref 781), (4, .int (nI p))]) [0, 1, 2, 3, 4] rfl ?_
      exact k h2 g' i2
    refine rr_iload 5 rfl dL_law__1088 ?_
    refine rr_if_ne dL_law__1090 (fun _ => fin) (fun q => ?_)
    refine rr_aload_n 3 rfl rfl dL_law__1093 ?_
    refine rr_iconst 0 rfl dL_law__1094 ?_
    refine rr_laload dL_law__1095 lo_781 sh_781 vp01 ?_
    refine rr_iload 6 rfl dL_law__1096 ?_
    refine rr_i2l dL_law__1098 ?_
    refine rr_lcmp dL_law__1099 ?_
    refine rr_if_eq dL_law__1100 (fun _ => fin) (fun z => absurd (by rw [hg q]; exact lg_same _) z)
  rcases lk with ⟨rfl, rfl⟩ | ⟨b0, rfl, rfl⟩ | ⟨b0, rfl, rfl⟩
  · exact ⟨h1, g, rfl, Or.inl ⟨v, rfl, tail 0 _ (fun _ => u3_out) rfl⟩⟩
  · exact ⟨h1, g, rfl, Or.inr (Or.inl ⟨rfl, rfl, tail 1 g (fun z => absurd z (by decide)) rfl⟩)⟩
  · cases b0
set_option maxHeartbeats 1000000 in
theorem ca_best {len p d kc ks : Nat} {xs : Nat → Int32} {h : hp_} {g : Nat → Nat → Int64} {Q : jj_Rs → jj_St → Prop} (hl : len < 2 ^ 31) (hp : p + 9 ≤ len) (I : IVx h) (k : ∀ h2 g2, IVx h2 → jj_R (mLw len xs) (d + 66) kc ks (jj_S, 782, h2, g2) 2808 [(0, .ref 999998), (1, .ref 0), (2, .ref 49), (3, .ref 781), (4, .int (nI p))] [] Q) : jj_R (mLw len xs) (d + 66) (kc + 4) (ks + 24) (jj_S, 782, h, g) 2093 [(0, .ref 999998), (1, .ref 0), (2, .ref 49), (3, .ref 781), (4, .int (nI p))] [] Q := by
  obtain ⟨_, _, _, _, _, _, _, I⟩ := I
  refine rr_aload_n 1 rfl rfl dL_law__2093 ?_
  refine rr_aload_n 0 rfl rfl dL_law__2094 ?_
  refine rr_iload 4 rfl dL_law__2095 ?_
  refine rr_iconst 1 rfl dL_law__2097 ?_
  refine rr_iadd dL_law__2098 ?_
  refine rr_siaload (len := len) (xs := xs) rfl dL_law__2099 (sc_in (j := 1) hl hp rfl (by decide)) ?_
  refine rr_aload_n 3 rfl rfl dL_law__2100 ?_
  obtain ⟨mid, k1, k2⟩ := dual_2 (du_best I (xs (nI p + 1).toNatClampNeg))
  refine rr_callSW (As := [.ref 0, .int (xs (nI p + 1).toNatClampNeg), .ref 781]) (rest := []) (kc2 := 4) (ks2 := 24) dL_law__2101 okL_best lL_240 rfl (Nat.le_of_ble_eq_true rfl) (Nat.le_of_ble_eq_true rfl) rfl (by omega) (by simp [jj_rk]) (by simp [jj_rk]) ?_
  refine w_best (fun Q2 hq => k1 (d + 24) 0 0 g Q2 (fun r h1 mm => hq r _ ?_))
  obtain ⟨v, th, lk, kr⟩ := k2 r h1 mm
  have tail : ∀ (cd : Int32) (g' : Nat → Nat → Int64), (cd = 0 → g' 781 (0 : Int32).toNatClampNeg = v.toInt64) → th = cd → jj_R (mLw len xs) (d + 66) (kc + 4 - 4) (ks + 24 - 24) (jj_S, 782, h1, g') 2104 [(0, .ref 999998), (1, .ref 0), (2, .ref 49), (3, .ref 781), (4, .int (nI p))] [.int cd] Q := fun cd g' hg hth => by
    refine rr_istore [(0, .ref 999998), (1, .ref 0), (2, .ref 49), (3, .ref 781), (4, .int (nI p)), (5, .int cd)] dL_law__2104 (Nat.le_of_ble_eq_true rfl) rfl ?_
    refine rr_aload_n 2 rfl rfl dL_law__2106 ?_
    refine rr_aload_n 0 rfl rfl dL_law__2107 ?_
    refine rr_iload 4 rfl dL_law__2108 ?_
    refine rr_iconst 1 rfl dL_law__2110 ?_
    refine rr_iadd dL_law__2111 ?_
    refine rr_siaload (len := len) (xs := xs) rfl dL_law__2112 (sc_in (j := 1) hl hp rfl (by decide)) ?_
    refine rr_callV (As := [.int (xs (nI p + 1).toNatClampNeg)]) (rest := []) (kc2 := 0) (ks2 := 0) dL_law__2113 okX10_best lL_242 lo_49 sh_49 rfl rfl (Nat.le_of_ble_eq_true rfl) (Nat.le_of_ble_eq_true rfl) rfl (by omega) (by simp [jj_rk]) (by simp [jj_rk]) ?_
    refine kr (d + 1) 0 0 g' _ (fun h2 i2 t2 => ?_)
    show jj_R (mLw len xs) (d + 66) _ _ (jj_S, 782, h2, g') 2116 [(0, .ref 999998), (1, .ref 0), (2, .ref 49), (3, .ref 781), (4, .int (nI p)), (5, .int cd)] [.int v] Q
    refine rr_istore [(0, .ref 999998), (1, .ref 0), (2, .ref 49), (3, .ref 781), (4, .int (nI p)), (5, .int cd), (6, .int v)] dL_law__2116 (Nat.le_of_ble_eq_true rfl) rfl ?_
    refine rr_aload_n 2 rfl rfl dL_law__2118 ?_
    refine rr_callV (As := []) (rest := []) (kc2 := 0) (ks2 := 0) dL_law__2119 okX10_thrown lL_141 lo_49 sh_49 rfl rfl (Nat.le_of_ble_eq_true rfl) (Nat.le_of_ble_eq_true rfl) rfl (by omega) (by simp [jj_rk]) (by simp [jj_rk]) ?_
    refine sp_X10_thrown (d := d + 65) ?_
    show jj_R (mLw len xs) (d + 66) _ _ (jj_S, 782, h2, g') 2122 [(0, .ref 999998), (1, .ref 0), (2, .ref 49), (3, .ref 781), (4, .int (nI p)), (5, .int cd), (6, .int v)] [.int (h2 49 0)] Q
    refine rr_iload 5 rfl dL_law__2122 ?_
    refine rr_icmp_eq dL_law__2124 (fun _ => ?_) (fun q => absurd (t2.trans hth) q)
    have fin : jj_R (mLw len xs) (d + 66) (kc + 4 - 4 - 0 - 0) (ks + 24 - 24 - 0 - 0) (jj_S, 782, h2, g') 2146 [(0, .ref 999998), (1, .ref 0), (2, .ref 49), (3, .ref 781), (4, .int (nI p)), (5, .int cd), (6, .int v)] [] Q := by
      refine rr_goto dL_law__2146 ?_
      refine rr_drop (ls := [(0, .ref 999998), (1, .ref 0), (2, .ref 49), (3, .ref 781), (4, .int (nI p))]) [0, 1, 2, 3, 4] rfl ?_
      exact k h2 g' i2
    refine rr_iload 5 rfl dL_law__2129 ?_
    refine rr_if_ne dL_law__2131 (fun _ => fin) (fun q => ?_)
    refine rr_aload_n 3 rfl rfl dL_law__2134 ?_
    refine rr_iconst 0 rfl dL_law__2135 ?_
    refine rr_laload dL_law__2136 lo_781 sh_781 vp01 ?_
    refine rr_iload 6 rfl dL_law__2137 ?_
    refine rr_i2l dL_law__2139 ?_
    refine rr_lcmp dL_law__2140 ?_
    refine rr_if_eq dL_law__2141 (fun _ => fin) (fun z => absurd (by rw [hg q]; exact lg_same _) z)
  rcases lk with ⟨rfl, rfl⟩ | ⟨b0, rfl, rfl⟩ | ⟨b0, rfl, rfl⟩
  · exact ⟨h1, g, rfl, Or.inl ⟨v, rfl, tail 0 _ (fun _ => u3_out) rfl⟩⟩
  · exact ⟨h1, g, rfl, Or.inr (Or.inl ⟨rfl, rfl, tail 1 g (fun z => absurd z (by decide)) rfl⟩)⟩
  · cases b0
set_option maxHeartbeats 1000000 in
theorem ca_nearest {len p d kc ks : Nat} {xs : Nat → Int32} {h : hp_} {g : Nat → Nat → Int64} {Q : jj_Rs → jj_St → Prop} (hl : len < 2 ^ 31) (hp : p + 9 ≤ len) (I : IVx h) (k : ∀ h2 g2, IVx h2 → jj_R (mLw len xs) (d + 66) kc ks (jj_S, 782, h2, g2) 2808 [(0, .ref 999998), (1, .ref 0), (2, .ref 49), (3, .ref 781), (4, .int (nI p))] [] Q) : jj_R (mLw len xs) (d + 66) (kc + 4) (ks + 24) (jj_S, 782, h, g) 2217 [(0, .ref 999998), (1, .ref 0), (2, .ref 49), (3, .ref 781), (4, .int (nI p))] [] Q := by
  obtain ⟨_, _, _, _, _, _, _, I⟩ := I
  refine rr_aload_n 1 rfl rfl dL_law__2217 ?_
  refine rr_aload_n 0 rfl rfl dL_law__2218 ?_
  refine rr_iload 4 rfl dL_law__2219 ?_
  refine rr_iconst 1 rfl dL_law__2221 ?_
  refine rr_iadd dL_law__2222 ?_
  refine rr_siaload (len := len) (xs := xs) rfl dL_law__2223 (sc_in (j := 1) hl hp rfl (by decide)) ?_
  refine rr_aload_n 3 rfl rfl dL_law__2224 ?_
  obtain ⟨mid, k1, k2⟩ := dual_2 (du_nearest I (xs (nI p + 1).toNatClampNeg))
  refine rr_callSW (As := [.ref 0, .int (xs (nI p + 1).toNatClampNeg), .ref 781]) (rest := []) (kc2 := 4) (ks2 := 24) dL_law__2225 okL_nearest lL_246 rfl (Nat.le_of_ble_eq_true rfl) (Nat.le_of_ble_eq_true rfl) rfl (by omega) (by simp [jj_rk]) (by simp [jj_rk]) ?_
  refine w_nearest (fun Q2 hq => k1 (d + 24) 0 0 g Q2 (fun r h1 mm => hq r _ ?_))
  obtain ⟨v, th, lk, kr⟩ := k2 r h1 mm
  have tail : ∀ (cd : Int32) (g' : Nat → Nat → Int64), (cd = 0 → g' 781 (0 : Int32).toNatClampNeg = v.toInt64) → th = cd → jj_R (mLw len xs) (d + 66) (kc + 4 - 4) (ks + 24 - 24) (jj_S, 782, h1, g') 2228 [(0, .ref 999998), (1, .ref 0), (2, .ref 49), (3, .ref 781), (4, .int (nI p))] [.int cd] Q := fun cd g' hg hth => by
    refine rr_istore [(0, .ref 999998), (1, .ref 0), (2, .ref 49), (3, .ref 781), (4, .int (nI p)), (5, .int cd)] dL_law__2228 (Nat.le_of_ble_eq_true rfl) rfl ?_
    refine rr_aload_n 2 rfl rfl dL_law__2230 ?_
    refine rr_aload_n 0 rfl rfl dL_law__2231 ?_
    refine rr_iload 4 rfl dL_law__2232 ?_
    refine rr_iconst 1 rfl dL_law__2234 ?_
    refine rr_iadd dL_law__2235 ?_
    refine rr_siaload (len := len) (xs := xs) rfl dL_law__2236 (sc_in (j := 1) hl hp rfl (by decide)) ?_
    refine rr_callV (As := [.int (xs (nI p + 1).toNatClampNeg)]) (rest := []) (kc2 := 0) (ks2 := 0) dL_law__2237 okX10_nearest lL_248 lo_49 sh_49 rfl rfl (Nat.le_of_ble_eq_true rfl) (Nat.le_of_ble_eq_true rfl) rfl (by omega) (by simp [jj_rk]) (by simp [jj_rk]) ?_
    refine kr (d + 1) 0 0 g' _ (fun h2 i2 t2 => ?_)
    show jj_R (mLw len xs) (d + 66) _ _ (jj_S, 782, h2, g') 2240 [(0, .ref 999998), (1, .ref 0), (2, .ref 49), (3, .ref 781), (4, .int (nI p)), (5, .int cd)] [.int v] Q
    refine rr_istore [(0, .ref 999998), (1, .ref 0), (2, .ref 49), (3, .ref 781), (4, .int (nI p)), (5, .int cd), (6, .int v)] dL_law__2240 (Nat.le_of_ble_eq_true rfl) rfl ?_
    refine rr_aload_n 2 rfl rfl dL_law__2242 ?_
    refine rr_callV (As := []) (rest := []) (kc2 := 0) (ks2 := 0) dL_law__2243 okX10_thrown lL_141 lo_49 sh_49 rfl rfl (Nat.le_of_ble_eq_true rfl) (Nat.le_of_ble_eq_true rfl) rfl (by omega) (by simp [jj_rk]) (by simp [jj_rk]) ?_
    refine sp_X10_thrown (d := d + 65) ?_
    show jj_R (mLw len xs) (d + 66) _ _ (jj_S, 782, h2, g') 2246 [(0, .ref 999998), (1, .ref 0), (2, .ref 49), (3, .ref 781), (4, .int (nI p)), (5, .int cd), (6, .int v)] [.int (h2 49 0)] Q
    refine rr_iload 5 rfl dL_law__2246 ?_
    refine rr_icmp_eq dL_law__2248 (fun _ => ?_) (fun q => absurd (t2.trans hth) q)
    have fin : jj_R (mLw len xs) (d + 66) (kc + 4 - 4 - 0 - 0) (ks + 24 - 24 - 0 - 0) (jj_S, 782, h2, g') 2270 [(0, .ref 999998), (1, .ref 0), (2, .ref 49), (3, .ref 781), (4, .int (nI p)), (5, .int cd), (6, .int v)] [] Q := by
      refine rr_goto dL_law__2270 ?_
      refine rr_drop (ls := [(0, .ref 999998), (1, .ref 0), (2, .ref 49), (3, .ref 781), (4, .int (nI p))]) [0, 1, 2, 3, 4] rfl ?_
      exact k h2 g' i2
    refine rr_iload 5 rfl dL_law__2253 ?_
    refine rr_if_ne dL_law__2255 (fun _ => fin) (fun q => ?_)
    refine rr_aload_n 3 rfl rfl dL_law__2258 ?_
    refine rr_iconst 0 rfl dL_law__2259 ?_
    refine rr_laload dL_law__2260 lo_781 sh_781 vp01 ?_
    refine rr_iload 6 rfl dL_law__2261 ?_
    refine rr_i2l dL_law__2263 ?_
    refine rr_lcmp dL_law__2264 ?_
    refine rr_if_eq dL_law__2265 (fun _ => fin) (fun z => absurd (by rw [hg q]; exact lg_same _) z)
  rcases lk with ⟨rfl, rfl⟩ | ⟨b0, rfl, rfl⟩ | ⟨b0, rfl, rfl⟩
  · exact ⟨h1, g, rfl, Or.inl ⟨v, rfl, tail 0 _ (fun _ => u3_out) rfl⟩⟩
  · exact ⟨h1, g, rfl, Or.inr (Or.inl ⟨rfl, rfl, tail 1 g (fun z => absurd z (by decide)) rfl⟩)⟩
  · cases b0
set_option maxHeartbeats 1000000 in
theorem ca_slowest {len p d kc ks : Nat} {xs : Nat → Int32} {h : hp_} {g : Nat → Nat → Int64} {Q : jj_Rs → jj_St → Prop} (hl : len < 2 ^ 31) (hp : p + 9 ≤ len) (I : IVx h) (k : ∀ h2 g2, IVx h2 → jj_R (mLw len xs) (d + 66) kc ks (jj_S, 782, h2, g2) 2808 [(0, .ref 999998), (1, .ref 0), (2, .ref 49), (3, .ref 781), (4, .int (nI p))] [] Q) : jj_R (mLw len xs) (d + 66) (kc + 4) (ks + 24) (jj_S, 782, h, g) 1787 [(0, .ref 999998), (1, .ref 0), (2, .ref 49), (3, .ref 781), (4, .int (nI p))] [] Q := by
  obtain ⟨_, _, _, _, _, _, _, I⟩ := I
  refine rr_aload_n 1 rfl rfl dL_law__1787 ?_
  refine rr_aload_n 0 rfl rfl dL_law__1788 ?_
  refine rr_iload 4 rfl dL_law__1789 ?_
  refine rr_iconst 1 rfl dL_law__1791 ?_
  refine rr_iadd dL_law__1792 ?_
  refine rr_siaload (len := len) (xs := xs) rfl dL_law__1793 (sc_in (j := 1) hl hp rfl (by decide)) ?_
  refine rr_aload_n 3 rfl rfl dL_law__1794 ?_
  obtain ⟨mid, k1, k2⟩ := dual_2 (du_slowest I (xs (nI p + 1).toNatClampNeg))
  refine rr_callSW (As := [.ref 0, .int (xs (nI p + 1).toNatClampNeg), .ref 781]) (rest := []) (kc2 := 4) (ks2 := 24) dL_law__1795 okL_slowest lL_217 rfl (Nat.le_of_ble_eq_true rfl) (Nat.le_of_ble_eq_true rfl) rfl (by omega) (by simp [jj_rk]) (by simp [jj_rk]) ?_
  refine w_slowest (fun Q2 hq => k1 (d + 24) 0 0 g Q2 (fun r h1 mm => hq r _ ?_))
  obtain ⟨v, th, lk, kr⟩ := k2 r h1 mm
  have tail : ∀ (cd : Int32) (g' : Nat → Nat → Int64), (cd = 0 → g' 781 (0 : Int32).toNatClampNeg = v.toInt64) → th = cd → jj_R (mLw len xs) (d + 66) (kc + 4 - 4) (ks + 24 - 24) (jj_S, 782, h1, g') 1798 [(0, .ref 999998), (1, .ref 0), (2, .ref 49), (3, .ref 781), (4, .int (nI p))] [.int cd] Q := fun cd g' hg hth => by
    refine rr_istore [(0, .ref 999998), (1, .ref 0), (2, .ref 49), (3, .ref 781), (4, .int (nI p)), (5, .int cd)] dL_law__1798 (Nat.le_of_ble_eq_true rfl) rfl ?_
    refine rr_aload_n 2 rfl rfl dL_law__1800 ?_
    refine rr_aload_n 0 rfl rfl dL_law__1801 ?_
    refine rr_iload 4 rfl dL_law__1802 ?_
    refine rr_iconst 1 rfl dL_law__1804 ?_
    refine rr_iadd dL_law__1805 ?_
    refine rr_siaload (len := len) (xs := xs) rfl dL_law__1806 (sc_in (j := 1) hl hp rfl (by decide)) ?_
    refine rr_callV (As := [.int (xs (nI p + 1).toNatClampNeg)]) (rest := []) (kc2 := 0) (ks2 := 0) dL_law__1807 okX10_slowest lL_219 lo_49 sh_49 rfl rfl (Nat.le_of_ble_eq_true rfl) (Nat.le_of_ble_eq_true rfl) rfl (by omega) (by simp [jj_rk]) (by simp [jj_rk]) ?_
    refine kr (d + 1) 0 0 g' _ (fun h2 i2 t2 => ?_)
    show jj_R (mLw len xs) (d + 66) _ _ (jj_S, 782, h2, g') 1810 [(0, .ref 999998), (1, .ref 0), (2, .ref 49), (3, .ref 781), (4, .int (nI p)), (5, .int cd)] [.int v] Q
    refine rr_istore [(0, .ref 999998), (1, .ref 0), (2, .ref 49), (3, .ref 781), (4, .int (nI p)), (5, .int cd), (6, .int v)] dL_law__1810 (Nat.le_of_ble_eq_true rfl) rfl ?_
    refine rr_aload_n 2 rfl rfl dL_law__1812 ?_
    refine rr_callV (As := []) (rest := []) (kc2 := 0) (ks2 := 0) dL_law__1813 okX10_thrown lL_141 lo_49 sh_49 rfl rfl (Nat.le_of_ble_eq_true rfl) (Nat.le_of_ble_eq_true rfl) rfl (by omega) (by simp [jj_rk]) (by simp [jj_rk]) ?_
    refine sp_X10_thrown (d := d + 65) ?_
    show jj_R (mLw len xs) (d + 66) _ _ (jj_S, 782, h2, g') 1816 [(0, .ref 999998), (1, .ref 0), (2, .ref 49), (3, .ref 781), (4, .int (nI p)), (5, .int cd), (6, .int v)] [.int (h2 49 0)] Q
    refine rr_iload 5 rfl dL_law__1816 ?_
    refine rr_icmp_eq dL_law__1818 (fun _ => ?_) (fun q => absurd (t2.trans hth) q)
    have fin : jj_R (mLw len xs) (d + 66) (kc + 4 - 4 - 0 - 0) (ks + 24 - 24 - 0 - 0) (jj_S, 782, h2, g') 1840 [(0, .ref 999998), (1, .ref 0), (2, .ref 49), (3, .ref 781), (4, .int (nI p)), (5, .int cd), (6, .int v)] [] Q := by
      refine rr_goto dL_law__1840 ?_
      refine rr_drop (ls := [(0, .ref 999998), (1, .ref 0), (2, .ref 49), (3, .ref 781), (4, .int (nI p))]) [0, 1, 2, 3, 4] rfl ?_
      exact k h2 g' i2
    refine rr_iload 5 rfl dL_law__1823 ?_
    refine rr_if_ne dL_law__1825 (fun _ => fin) (fun q => ?_)
    refine rr_aload_n 3 rfl rfl dL_law__1828 ?_
    refine rr_iconst 0 rfl dL_law__1829 ?_
    refine rr_laload dL_law__1830 lo_781 sh_781 vp01 ?_
    refine rr_iload 6 rfl dL_law__1831 ?_
    refine rr_i2l dL_law__1833 ?_
    refine rr_lcmp dL_law__1834 ?_
    refine rr_if_eq dL_law__1835 (fun _ => fin) (fun z => absurd (by rw [hg q]; exact lg_same _) z)
  rcases lk with ⟨rfl, rfl⟩ | ⟨b0, rfl, rfl⟩ | ⟨b0, rfl, rfl⟩
  · exact ⟨h1, g, rfl, Or.inl ⟨v, rfl, tail 0 _ (fun _ => u3_out) rfl⟩⟩
  · cases b0
  · exact ⟨h1, g, rfl, Or.inr (Or.inr ⟨rfl, rfl, tail _ g (fun z => absurd z (by decide)) rfl⟩)⟩
set_option maxHeartbeats 1000000 in
theorem ca_farthest {len p d kc ks : Nat} {xs : Nat → Int32} {h : hp_} {g : Nat → Nat → Int64} {Q : jj_Rs → jj_St → Prop} (hl : len < 2 ^ 31) (hp : p + 9 ≤ len) (I : IVx h) (k : ∀ h2 g2, IVx h2 → jj_R (mLw len xs) (d + 66) kc ks (jj_S, 782, h2, g2) 2808 [(0, .ref 999998), (1, .ref 0), (2, .ref 49), (3, .ref 781), (4, .int (nI p))] [] Q) : jj_R (mLw len xs) (d + 66) (kc + 4) (ks + 24) (jj_S, 782, h, g) 2354 [(0, .ref 999998), (1, .ref 0), (2, .ref 49), (3, .ref 781), (4, .int (nI p))] [] Q := by
  obtain ⟨_, _, _, _, _, _, _, I⟩ := I
  refine rr_aload_n 1 rfl rfl dL_law__2354 ?_
  refine rr_aload_n 0 rfl rfl dL_law__2355 ?_
  refine rr_iload 4 rfl dL_law__2356 ?_
  refine rr_iconst 1 rfl dL_law__2358 ?_
  refine rr_iadd dL_law__2359 ?_
  refine rr_siaload (len := len) (xs := xs) rfl dL_law__2360 (sc_in (j := 1) hl hp rfl (by decide)) ?_
  refine rr_aload_n 3 rfl rfl dL_law__2361 ?_
  obtain ⟨mid, k1, k2⟩ := dual_2 (du_farthest I (xs (nI p + 1).toNatClampNeg))
  refine rr_callSW (As := [.ref 0, .int (xs (nI p + 1).toNatClampNeg), .ref 781]) (rest := []) (kc2 := 4) (ks2 := 24) dL_law__2362 okL_farthest lL_256 rfl (Nat.le_of_ble_eq_true rfl) (Nat.le_of_ble_eq_true rfl) rfl (by omega) (by simp [jj_rk]) (by simp [jj_rk]) ?_
  refine w_farthest (fun Q2 hq => k1 (d + 24) 0 0 g Q2 (fun r h1 mm => hq r _ ?_))
  obtain ⟨v, th, lk, kr⟩ := k2 r h1 mm
  have tail : ∀ (cd : Int32) (g' : Nat → Nat → Int64), (cd = 0 → g' 781 (0 : Int32).toNatClampNeg = v.toInt64) → th = cd → jj_R (mLw len xs) (d + 66) (kc + 4 - 4) (ks + 24 - 24) (jj_S, 782, h1, g') 2365 [(0, .ref 999998), (1, .ref 0), (2, .ref 49), (3, .ref 781), (4, .int (nI p))] [.int cd] Q := fun cd g' hg hth => by
    refine rr_istore [(0, .ref 999998), (1, .ref 0), (2, .ref 49), (3, .ref 781), (4, .int (nI p)), (5, .int cd)] dL_law__2365 (Nat.le_of_ble_eq_true rfl) rfl ?_
    refine rr_aload_n 2 rfl rfl dL_law__2367 ?_
    refine rr_aload_n 0 rfl rfl dL_law__2368 ?_
    refine rr_iload 4 rfl dL_law__2369 ?_
    refine rr_iconst 1 rfl dL_law__2371 ?_
    refine rr_iadd dL_law__2372 ?_
    refine rr_siaload (len := len) (xs := xs) rfl dL_law__2373 (sc_in (j := 1) hl hp rfl (by decide)) ?_
    refine rr_callV (As := [.int (xs (nI p + 1).toNatClampNeg)]) (rest := []) (kc2 := 0) (ks2 := 0) dL_law__2374 okX10_farthest lL_258 lo_49 sh_49 rfl rfl (Nat.le_of_ble_eq_true rfl) (Nat.le_of_ble_eq_true rfl) rfl (by omega) (by simp [jj_rk]) (by simp [jj_rk]) ?_
    refine kr (d + 1) 0 0 g' _ (fun h2 i2 t2 => ?_)
    show jj_R (mLw len xs) (d + 66) _ _ (jj_S, 782, h2, g') 2377 [(0, .ref 999998), (1, .ref 0), (2, .ref 49), (3, .ref 781), (4, .int (nI p)), (5, .int cd)] [.int v] Q
    refine rr_istore [(0, .ref 999998), (1, .ref 0), (2, .ref 49), (3, .ref 781), (4, .int (nI p)), (5, .int cd), (6, .int v)] dL_law__2377 (Nat.le_of_ble_eq_true rfl) rfl ?_
    refine rr_aload_n 2 rfl rfl dL_law__2379 ?_
    refine rr_callV (As := []) (rest := []) (kc2 := 0) (ks2 := 0) dL_law__2380 okX10_thrown lL_141 lo_49 sh_49 rfl rfl (Nat.le_of_ble_eq_true rfl) (Nat.le_of_ble_eq_true rfl) rfl (by omega) (by simp [jj_rk]) (by simp [jj_rk]) ?_
    refine sp_X10_thrown (d := d + 65) ?_
    show jj_R (mLw len xs) (d + 66) _ _ (jj_S, 782, h2, g') 2383 [(0, .ref 999998), (1, .ref 0), (2, .ref 49), (3, .ref 781), (4, .int (nI p)), (5, .int cd), (6, .int v)] [.int (h2 49 0)] Q
    refine rr_iload 5 rfl dL_law__2383 ?_
    refine rr_icmp_eq dL_law__2385 (fun _ => ?_) (fun q => absurd (t2.trans hth) q)
    have fin : jj_R (mLw len xs) (d + 66) (kc + 4 - 4 - 0 - 0) (ks + 24 - 24 - 0 - 0) (jj_S, 782, h2, g') 2407 [(0, .ref 999998), (1, .ref 0), (2, .ref 49), (3, .ref 781), (4, .int (nI p)), (5, .int cd), (6, .int v)] [] Q := by
      refine rr_goto dL_law__2407 ?_
      refine rr_drop (ls := [(0, .ref 999998), (1, .ref 0), (2, .ref 49), (3, .ref 781), (4, .int (nI p))]) [0, 1, 2, 3, 4] rfl ?_
      exact k h2 g' i2
    refine rr_iload 5 rfl dL_law__2390 ?_
    refine rr_if_ne dL_law__2392 (fun _ => fin) (fun q => ?_)
    refine rr_aload_n 3 rfl rfl dL_law__2395 ?_
    refine rr_iconst 0 rfl dL_law__2396 ?_
    refine rr_laload dL_law__2397 lo_781 sh_781 vp01 ?_
    refine rr_iload 6 rfl dL_law__2398 ?_
    refine rr_i2l dL_law__2400 ?_
    refine rr_lcmp dL_law__2401 ?_
    refine rr_if_eq dL_law__2402 (fun _ => fin) (fun z => absurd (by rw [hg q]; exact lg_same _) z)
  rcases lk with ⟨rfl, rfl⟩ | ⟨b0, rfl, rfl⟩ | ⟨b0, rfl, rfl⟩
  · exact ⟨h1, g, rfl, Or.inl ⟨v, rfl, tail 0 _ (fun _ => u3_out) rfl⟩⟩
  · cases b0
  · exact ⟨h1, g, rfl, Or.inr (Or.inr ⟨rfl, rfl, tail _ g (fun z => absurd z (by decide)) rfl⟩)⟩
set_option maxHeartbeats 1000000 in
theorem ca_middle {len p d kc ks : Nat} {xs : Nat → Int32} {h : hp_} {g : Nat → Nat → Int64} {Q : jj_Rs → jj_St → Prop} (hl : len < 2 ^ 31) (hp : p + 9 ≤ len) (I : IVx h) (k : ∀ h2 g2, IVx h2 → jj_R (mLw len xs) (d + 66) kc ks (jj_S, 782, h2, g2) 2808 [(0, .ref 999998), (1, .ref 0), (2, .ref 49), (3, .ref 781), (4, .int (nI p))] [] Q) : jj_R (mLw len xs) (d + 66) (kc + 4) (ks + 24) (jj_S, 782, h, g) 2466 [(0, .ref 999998), (1, .ref 0), (2, .ref 49), (3, .ref 781), (4, .int (nI p))] [] Q := by
  obtain ⟨_, _, _, _, _, _, _, I⟩ := I
  refine rr_aload_n 1 rfl rfl dL_law__2466 ?_
  refine rr_aload_n 0 rfl rfl dL_law__2467 ?_
  refine rr_iload 4 rfl dL_law__2468 ?_
  refine rr_iconst 1 rfl dL_law__2470 ?_
  refine rr_iadd dL_law__2471 ?_
  refine rr_siaload (len := len) (xs := xs) rfl dL_law__2472 (sc_in (j := 1) hl hp rfl (by decide)) ?_
  refine rr_aload_n 3 rfl rfl dL_law__2473 ?_
  obtain ⟨mid, k1, k2⟩ := dual_2 (du_middle I (xs (nI p + 1).toNatClampNeg))
  refine rr_callSW (As := [.ref 0, .int (xs (nI p + 1).toNatClampNeg), .ref 781]) (rest := []) (kc2 := 4) (ks2 := 24) dL_law__2474 okL_middle lL_262 rfl (Nat.le_of_ble_eq_true rfl) (Nat.le_of_ble_eq_true rfl) rfl (by omega) (by simp [jj_rk]) (by simp [jj_rk]) ?_
  refine w_middle (fun Q2 hq => k1 (d + 24) 0 0 g Q2 (fun r h1 mm => hq r _ ?_))
  obtain ⟨v, th, lk, kr⟩ := k2 r h1 mm
  have tail : ∀ (cd : Int32) (g' : Nat → Nat → Int64), (cd = 0 → g' 781 (0 : Int32).toNatClampNeg = v.toInt64) → th = cd → jj_R (mLw len xs) (d + 66) (kc + 4 - 4) (ks + 24 - 24) (jj_S, 782, h1, g') 2477 [(0, .ref 999998), (1, .ref 0), (2, .ref 49), (3, .ref 781), (4, .int (nI p))] [.int cd] Q := fun cd g' hg hth => by
    refine rr_istore [(0, .ref 999998), (1, .ref 0), (2, .ref 49), (3, .ref 781), (4, .int (nI p)), (5, .int cd)] dL_law__2477 (Nat.le_of_ble_eq_true rfl) rfl ?_
    refine rr_aload_n 2 rfl rfl dL_law__2479 ?_
    refine rr_aload_n 0 rfl rfl dL_law__2480 ?_
    refine rr_iload 4 rfl dL_law__2481 ?_
    refine rr_iconst 1 rfl dL_law__2483 ?_
    refine rr_iadd dL_law__2484 ?_
    refine rr_siaload (len := len) (xs := xs) rfl dL_law__2485 (sc_in (j := 1) hl hp rfl (by decide)) ?_
    refine rr_callV (As := [.int (xs (nI p + 1).toNatClampNeg)]) (rest := []) (kc2 := 0) (ks2 := 0) dL_law__2486 okX10_middle lL_264 lo_49 sh_49 rfl rfl (Nat.le_of_ble_eq_true rfl) (Nat.le_of_ble_eq_true rfl) rfl (by omega) (by simp [jj_rk]) (by simp [jj_rk]) ?_
    refine kr (d + 1) 0 0 g' _ (fun h2 i2 t2 => ?_)
    show jj_R (mLw len xs) (d + 66) _ _ (jj_S, 782, h2, g') 2489 [(0, .ref 999998), (1, .ref 0), (2, .ref 49), (3, .ref 781), (4, .int (nI p)), (5, .int cd)] [.int v] Q
    refine rr_istore [(0, .ref 999998), (1, .ref 0), (2, .ref 49), (3, .ref 781), (4, .int (nI p)), (5, .int cd), (6, .int v)] dL_law__2489 (Nat.le_of_ble_eq_true rfl) rfl ?_
    refine rr_aload_n 2 rfl rfl dL_law__2491 ?_
    refine rr_callV (As := []) (rest := []) (kc2 := 0) (ks2 := 0) dL_law__2492 okX10_thrown lL_141 lo_49 sh_49 rfl rfl (Nat.le_of_ble_eq_true rfl) (Nat.le_of_ble_eq_true rfl) rfl (by omega) (by simp [jj_rk]) (by simp [jj_rk]) ?_
    refine sp_X10_thrown (d := d + 65) ?_
    show jj_R (mLw len xs) (d + 66) _ _ (jj_S, 782, h2, g') 2495 [(0, .ref 999998), (1, .ref 0), (2, .ref 49), (3, .ref 781), (4, .int (nI p)), (5, .int cd), (6, .int v)] [.int (h2 49 0)] Q
    refine rr_iload 5 rfl dL_law__2495 ?_
    refine rr_icmp_eq dL_law__2497 (fun _ => ?_) (fun q => absurd (t2.trans hth) q)
    have fin : jj_R (mLw len xs) (d + 66) (kc + 4 - 4 - 0 - 0) (ks + 24 - 24 - 0 - 0) (jj_S, 782, h2, g') 2519 [(0, .ref 999998), (1, .ref 0), (2, .ref 49), (3, .ref 781), (4, .int (nI p)), (5, .int cd), (6, .int v)] [] Q := by
      refine rr_goto dL_law__2519 ?_
      refine rr_drop (ls := [(0, .ref 999998), (1, .ref 0), (2, .ref 49), (3, .ref 781), (4, .int (nI p))]) [0, 1, 2, 3, 4] rfl ?_
      exact k h2 g' i2
    refine rr_iload 5 rfl dL_law__2502 ?_
    refine rr_if_ne dL_law__2504 (fun _ => fin) (fun q => ?_)
    refine rr_aload_n 3 rfl rfl dL_law__2507 ?_
    refine rr_iconst 0 rfl dL_law__2508 ?_
    refine rr_laload dL_law__2509 lo_781 sh_781 vp01 ?_
    refine rr_iload 6 rfl dL_law__2510 ?_
    refine rr_i2l dL_law__2512 ?_
    refine rr_lcmp dL_law__2513 ?_
    refine rr_if_eq dL_law__2514 (fun _ => fin) (fun z => absurd (by rw [hg q]; exact lg_same _) z)
  rcases lk with ⟨rfl, rfl⟩ | ⟨b0, rfl, rfl⟩ | ⟨b0, rfl, rfl⟩
  · exact ⟨h1, g, rfl, Or.inl ⟨v, rfl, tail 0 _ (fun _ => u3_out) rfl⟩⟩
  · cases b0
  · exact ⟨h1, g, rfl, Or.inr (Or.inr ⟨rfl, rfl, tail _ g (fun z => absurd z (by decide)) rfl⟩)⟩
set_option maxHeartbeats 1000000 in
theorem ca_soldier {len p d kc ks : Nat} {xs : Nat → Int32} {h : hp_} {g : Nat → Nat → Int64} {Q : jj_Rs → jj_St → Prop} (hl : len < 2 ^ 31) (hp : p + 9 ≤ len) (I : IVx h) (k : ∀ h2 g2, IVx h2 → jj_R (mLw len xs) (d + 66) kc ks (jj_S, 782, h2, g2) 2808 [(0, .ref 999998), (1, .ref 0), (2, .ref 49), (3, .ref 781), (4, .int (nI p))] [] Q) : jj_R (mLw len xs) (d + 66) (kc + 4) (ks + 24) (jj_S, 782, h, g) 1536 [(0, .ref 999998), (1, .ref 0), (2, .ref 49), (3, .ref 781), (4, .int (nI p))] [] Q := by
  obtain ⟨_, _, _, _, _, _, _, I⟩ := I
  refine rr_aload_n 1 rfl rfl dL_law__1536 ?_
  refine rr_aload_n 0 rfl rfl dL_law__1537 ?_
  refine rr_iload 4 rfl dL_law__1538 ?_
  refine rr_iconst 1 rfl dL_law__1540 ?_
  refine rr_iadd dL_law__1541 ?_
  refine rr_siaload (len := len) (xs := xs) rfl dL_law__1542 (sc_in (j := 1) hl hp rfl (by decide)) ?_
  refine rr_aload_n 0 rfl rfl dL_law__1543 ?_
  refine rr_iload 4 rfl dL_law__1544 ?_
  refine rr_iconst 2 rfl dL_law__1546 ?_
  refine rr_iadd dL_law__1547 ?_
  refine rr_siaload (len := len) (xs := xs) rfl dL_law__1548 (sc_in (j := 2) hl hp rfl (by decide)) ?_
  refine rr_aload_n 0 rfl rfl dL_law__1549 ?_
  refine rr_iload 4 rfl dL_law__1550 ?_
  refine rr_iconst 3 rfl dL_law__1552 ?_
  refine rr_iadd dL_law__1553 ?_
  refine rr_siaload (len := len) (xs := xs) rfl dL_law__1554 (sc_in (j := 3) hl hp rfl (by decide)) ?_
  refine rr_aload_n 3 rfl rfl dL_law__1555 ?_
  obtain ⟨mid, k1, k2⟩ := dual_2 (du_soldier I (xs (nI p + 1).toNatClampNeg) (xs (nI p + 2).toNatClampNeg) (xs (nI p + 3).toNatClampNeg))
  refine rr_callSW (As := [.ref 0, .int (xs (nI p + 1).toNatClampNeg), .int (xs (nI p + 2).toNatClampNeg), .int (xs (nI p + 3).toNatClampNeg), .ref 781]) (rest := []) (kc2 := 4) (ks2 := 24) dL_law__1556 okL_soldier lL_207 rfl (Nat.le_of_ble_eq_true rfl) (Nat.le_of_ble_eq_true rfl) rfl (by omega) (by simp [jj_rk]) (by simp [jj_rk]) ?_
  refine w_soldier (fun Q2 hq => k1 (d + 24) 0 0 g Q2 (fun r h1 mm => hq r _ ?_))
  obtain ⟨v, th, lk, kr⟩ := k2 r h1 mm
  have tail : ∀ (cd : Int32) (g' : Nat → Nat → Int64), (cd = 0 → g' 781 (0 : Int32).toNatClampNeg = v.toInt64) → th = cd → jj_R (mLw len xs) (d + 66) (kc + 4 - 4) (ks + 24 - 24) (jj_S, 782, h1, g') 1559 [(0, .ref 999998), (1, .ref 0), (2, .ref 49), (3, .ref 781), (4, .int (nI p))] [.int cd] Q := fun cd g' hg hth => by
    refine rr_istore [(0, .ref 999998), (1, .ref 0), (2, .ref 49), (3, .ref 781), (4, .int (nI p)), (5, .int cd)] dL_law__1559 (Nat.le_of_ble_eq_true rfl) rfl ?_
    refine rr_aload_n 2 rfl rfl dL_law__1561 ?_
    refine rr_aload_n 0 rfl rfl dL_law__1562 ?_
    refine rr_iload 4 rfl dL_law__1563 ?_
    refine rr_iconst 1 rfl dL_law__1565 ?_
    refine rr_iadd dL_law__1566 ?_
    refine rr_siaload (len := len) (xs := xs) rfl dL_law__1567 (sc_in (j := 1) hl hp rfl (by decide)) ?_
    refine rr_aload_n 0 rfl rfl dL_law__1568 ?_
    refine rr_iload 4 rfl dL_law__1569 ?_
    refine rr_iconst 2 rfl dL_law__1571 ?_
    refine rr_iadd dL_law__1572 ?_
    refine rr_siaload (len := len) (xs := xs) rfl dL_law__1573 (sc_in (j := 2) hl hp rfl (by decide)) ?_
    refine rr_aload_n 0 rfl rfl dL_law__1574 ?_
    refine rr_iload 4 rfl dL_law__1575 ?_
    refine rr_iconst 3 rfl dL_law__1577 ?_
    refine rr_iadd dL_law__1578 ?_
    refine rr_siaload (len := len) (xs := xs) rfl dL_law__1579 (sc_in (j := 3) hl hp rfl (by decide)) ?_
    refine rr_callV (As := [.int (xs (nI p + 1).toNatClampNeg), .int (xs (nI p + 2).toNatClampNeg), .int (xs (nI p + 3).toNatClampNeg)]) (rest := []) (kc2 := 0) (ks2 := 0) dL_law__1580 okX10_soldier lL_209 lo_49 sh_49 rfl rfl (Nat.le_of_ble_eq_true rfl) (Nat.le_of_ble_eq_true rfl) rfl (by omega) (by simp [jj_rk]) (by simp [jj_rk]) ?_
    refine kr (d + 1) 0 0 g' _ (fun h2 i2 t2 => ?_)
    show jj_R (mLw len xs) (d + 66) _ _ (jj_S, 782, h2, g') 1583 [(0, .ref 999998), (1, .ref 0), (2, .ref 49), (3, .ref 781), (4, .int (nI p)), (5, .int cd)] [.int v] Q
    refine rr_istore [(0, .ref 999998), (1, .ref 0), (2, .ref 49), (3, .ref 781), (4, .int (nI p)), (5, .int cd), (6, .int v)] dL_law__1583 (Nat.le_of_ble_eq_true rfl) rfl ?_
    refine rr_aload_n 2 rfl rfl dL_law__1585 ?_
    refine rr_callV (As := []) (rest := []) (kc2 := 0) (ks2 := 0) dL_law__1586 okX10_thrown lL_141 lo_49 sh_49 rfl rfl (Nat.le_of_ble_eq_true rfl) (Nat.le_of_ble_eq_true rfl) rfl (by omega) (by simp [jj_rk]) (by simp [jj_rk]) ?_
    refine sp_X10_thrown (d := d + 65) ?_
    show jj_R (mLw len xs) (d + 66) _ _ (jj_S, 782, h2, g') 1589 [(0, .ref 999998), (1, .ref 0), (2, .ref 49), (3, .ref 781), (4, .int (nI p)), (5, .int cd), (6, .int v)] [.int (h2 49 0)] Q
    refine rr_iload 5 rfl dL_law__1589 ?_
    refine rr_icmp_eq dL_law__1591 (fun _ => ?_) (fun q => absurd (t2.trans hth) q)
    have fin : jj_R (mLw len xs) (d + 66) (kc + 4 - 4 - 0 - 0) (ks + 24 - 24 - 0 - 0) (jj_S, 782, h2, g') 1613 [(0, .ref 999998), (1, .ref 0), (2, .ref 49), (3, .ref 781), (4, .int (nI p)), (5, .int cd), (6, .int v)] [] Q := by
      refine rr_goto dL_law__1613 ?_
      refine rr_drop (ls := [(0, .ref 999998), (1, .ref 0), (2, .ref 49), (3, .ref 781), (4, .int (nI p))]) [0, 1, 2, 3, 4] rfl ?_
      exact k h2 g' i2
    refine rr_iload 5 rfl dL_law__1596 ?_
    refine rr_if_ne dL_law__1598 (fun _ => fin) (fun q => ?_)
    refine rr_aload_n 3 rfl rfl dL_law__1601 ?_
    refine rr_iconst 0 rfl dL_law__1602 ?_
    refine rr_laload dL_law__1603 lo_781 sh_781 vp01 ?_
    refine rr_iload 6 rfl dL_law__1604 ?_
    refine rr_i2l dL_law__1606 ?_
    refine rr_lcmp dL_law__1607 ?_
    refine rr_if_eq dL_law__1608 (fun _ => fin) (fun z => absurd (by rw [hg q]; exact lg_same _) z)
  rcases lk with ⟨rfl, rfl⟩ | ⟨b0, rfl, rfl⟩ | ⟨b0, rfl, rfl⟩
  · exact ⟨h1, g, rfl, Or.inl ⟨v, rfl, tail 0 _ (fun _ => u3_out) rfl⟩⟩
  · cases b0
  · exact ⟨h1, g, rfl, Or.inr (Or.inr ⟨rfl, rfl, tail _ g (fun z => absurd z (by decide)) rfl⟩)⟩
set_option maxHeartbeats 1000000 in
theorem ca_would {len p d kc ks : Nat} {xs : Nat → Int32} {h : hp_} {g : Nat → Nat → Int64} {Q : jj_Rs → jj_St → Prop} (hl : len < 2 ^ 31) (hp : p + 9 ≤ len) (I : IVx h) (k : ∀ h2 g2, IVx h2 → jj_R (mLw len xs) (d + 66) kc ks (jj_S, 782, h2, g2) 2808 [(0, .ref 999998), (1, .ref 0), (2, .ref 49), (3, .ref 781), (4, .int (nI p))] [] Q) : jj_R (mLw len xs) (d + 66) (kc + 4) (ks + 24) (jj_S, 782, h, g) 763 [(0, .ref 999998), (1, .ref 0), (2, .ref 49), (3, .ref 781), (4, .int (nI p))] [] Q := by
  obtain ⟨_, _, _, _, _, _, _, I⟩ := I
  refine rr_aload_n 1 rfl rfl dL_law__763 ?_
  refine rr_aload_n 0 rfl rfl dL_law__764 ?_
  refine rr_iload 4 rfl dL_law__765 ?_
  refine rr_iconst 1 rfl dL_law__767 ?_
  refine rr_iadd dL_law__768 ?_
  refine rr_siaload (len := len) (xs := xs) rfl dL_law__769 (sc_in (j := 1) hl hp rfl (by decide)) ?_
  refine rr_aload_n 0 rfl rfl dL_law__770 ?_
  refine rr_iload 4 rfl dL_law__771 ?_
  refine rr_iconst 2 rfl dL_law__773 ?_
  refine rr_iadd dL_law__774 ?_
  refine rr_siaload (len := len) (xs := xs) rfl dL_law__775 (sc_in (j := 2) hl hp rfl (by decide)) ?_
  refine rr_aload_n 0 rfl rfl dL_law__776 ?_
  refine rr_iload 4 rfl dL_law__777 ?_
  refine rr_iconst 3 rfl dL_law__779 ?_
  refine rr_iadd dL_law__780 ?_
  refine rr_siaload (len := len) (xs := xs) rfl dL_law__781 (sc_in (j := 3) hl hp rfl (by decide)) ?_
  refine rr_aload_n 0 rfl rfl dL_law__782 ?_
  refine rr_iload 4 rfl dL_law__783 ?_
  refine rr_iconst 4 rfl dL_law__785 ?_
  refine rr_iadd dL_law__786 ?_
  refine rr_siaload (len := len) (xs := xs) rfl dL_law__787 (sc_in (j := 4) hl hp rfl (by decide)) ?_
  refine rr_aload_n 0 rfl rfl dL_law__788 ?_
  refine rr_iload 4 rfl dL_law__789 ?_
  refine rr_iconst 5 rfl dL_law__791 ?_
  refine rr_iadd dL_law__792 ?_
  refine rr_siaload (len := len) (xs := xs) rfl dL_law__793 (sc_in (j := 5) hl hp rfl (by decide)) ?_
  refine rr_aload_n 0 rfl rfl dL_law__794 ?_
  refine rr_iload 4 rfl dL_law__795 ?_
  refine rr_bipush 6 rfl dL_law__797 ?_
  refine rr_iadd dL_law__799 ?_
  refine rr_siaload (len := len) (xs := xs) rfl dL_law__800 (sc_in (j := 6) hl hp rfl (by decide)) ?_
  refine rr_aload_n 0 rfl rfl dL_law__801 ?_
  refine rr_iload 4 rfl dL_law__802 ?_
  refine rr_bipush 7 rfl dL_law__804 ?_
  refine rr_iadd dL_law__806 ?_
  refine rr_siaload (len := len) (xs := xs) rfl dL_law__807 (sc_in (j := 7) hl hp rfl (by decide)) ?_
  refine rr_aload_n 0 rfl rfl dL_law__808 ?_
  refine rr_iload 4 rfl dL_law__809 ?_
  refine rr_bipush 8 rfl dL_law__811 ?_
  refine rr_iadd dL_law__813 ?_
  refine rr_siaload (len := len) (xs := xs) rfl dL_law__814 (sc_in (j := 8) hl hp rfl (by decide)) ?_
  refine rr_aload_n 3 rfl rfl dL_law__815 ?_
  obtain ⟨mid, k1, k2⟩ := dual_2 (du_would I (xs (nI p + 1).toNatClampNeg) (xs (nI p + 2).toNatClampNeg) (xs (nI p + 3).toNatClampNeg) (xs (nI p + 4).toNatClampNeg) (xs (nI p + 5).toNatClampNeg) (xs (nI p + 6).toNatClampNeg) (xs (nI p + 7).toNatClampNeg) (xs (nI p + 8).toNatClampNeg))
  refine rr_callSW (As := [.ref 0, .int (xs (nI p + 1).toNatClampNeg), .int (xs (nI p + 2).toNatClampNeg), .int (xs (nI p + 3).toNatClampNeg), .int (xs (nI p + 4).toNatClampNeg), .int (xs (nI p + 5).toNatClampNeg), .int (xs (nI p + 6).toNatClampNeg), .int (xs (nI p + 7).toNatClampNeg), .int (xs (nI p + 8).toNatClampNeg), .ref 781]) (rest := []) (kc2 := 4) (ks2 := 24) dL_law__816 okL_would lL_173 rfl (Nat.le_of_ble_eq_true rfl) (Nat.le_of_ble_eq_true rfl) rfl (by omega) (by simp [jj_rk]) (by simp [jj_rk]) ?_
  refine w_would (fun Q2 hq => k1 (d + 24) 0 0 g Q2 (fun r h1 mm => hq r _ ?_))
  obtain ⟨v, th, lk, kr⟩ := k2 r h1 mm
  have tail : ∀ (cd : Int32) (g' : Nat → Nat → Int64), (cd = 0 → g' 781 (0 : Int32).toNatClampNeg = v.toInt64) → th = cd → jj_R (mLw len xs) (d + 66) (kc + 4 - 4) (ks + 24 - 24) (jj_S, 782, h1, g') 819 [(0, .ref 999998), (1, .ref 0), (2, .ref 49), (3, .ref 781), (4, .int (nI p))] [.int cd] Q := fun cd g' hg hth => by
    refine rr_istore [(0, .ref 999998), (1, .ref 0), (2, .ref 49), (3, .ref 781), (4, .int (nI p)), (5, .int cd)] dL_law__819 (Nat.le_of_ble_eq_true rfl) rfl ?_
    refine rr_aload_n 2 rfl rfl dL_law__821 ?_
    refine rr_aload_n 0 rfl rfl dL_law__822 ?_
    refine rr_iload 4 rfl dL_law__823 ?_
    refine rr_iconst 1 rfl dL_law__825 ?_
    refine rr_iadd dL_law__826 ?_
    refine rr_siaload (len := len) (xs := xs) rfl dL_law__827 (sc_in (j := 1) hl hp rfl (by decide)) ?_
    refine rr_aload_n 0 rfl rfl dL_law__828 ?_
    refine rr_iload 4 rfl dL_law__829 ?_
    refine rr_iconst 2 rfl dL_law__831 ?_
    refine rr_iadd dL_law__832 ?_
    refine rr_siaload (len := len) (xs := xs) rfl dL_law__833 (sc_in (j := 2) hl hp rfl (by decide)) ?_
    refine rr_aload_n 0 rfl rfl dL_law__834 ?_
    refine rr_iload 4 rfl dL_law__835 ?_
    refine rr_iconst 3 rfl dL_law__837 ?_
    refine rr_iadd dL_law__838 ?_
    refine rr_siaload (len := len) (xs := xs) rfl dL_law__839 (sc_in (j := 3) hl hp rfl (by decide)) ?_
    refine rr_aload_n 0 rfl rfl dL_law__840 ?_
    refine rr_iload 4 rfl dL_law__841 ?_
    refine rr_iconst 4 rfl dL_law__843 ?_
    refine rr_iadd dL_law__844 ?_
    refine rr_siaload (len := len) (xs := xs) rfl dL_law__845 (sc_in (j := 4) hl hp rfl (by decide)) ?_
    refine rr_aload_n 0 rfl rfl dL_law__846 ?_
    refine rr_iload 4 rfl dL_law__847 ?_
    refine rr_iconst 5 rfl dL_law__849 ?_
    refine rr_iadd dL_law__850 ?_
    refine rr_siaload (len := len) (xs := xs) rfl dL_law__851 (sc_in (j := 5) hl hp rfl (by decide)) ?_
    refine rr_aload_n 0 rfl rfl dL_law__852 ?_
    refine rr_iload 4 rfl dL_law__853 ?_
    refine rr_bipush 6 rfl dL_law__855 ?_
    refine rr_iadd dL_law__857 ?_
    refine rr_siaload (len := len) (xs := xs) rfl dL_law__858 (sc_in (j := 6) hl hp rfl (by decide)) ?_
    refine rr_aload_n 0 rfl rfl dL_law__859 ?_
    refine rr_iload 4 rfl dL_law__860 ?_
    refine rr_bipush 7 rfl dL_law__862 ?_
    refine rr_iadd dL_law__864 ?_
    refine rr_siaload (len := len) (xs := xs) rfl dL_law__865 (sc_in (j := 7) hl hp rfl (by decide)) ?_
    refine rr_aload_n 0 rfl rfl dL_law__866 ?_
    refine rr_iload 4 rfl dL_law__867 ?_
    refine rr_bipush 8 rfl dL_law__869 ?_
    refine rr_iadd dL_law__871 ?_
    refine rr_siaload (len := len) (xs := xs) rfl dL_law__872 (sc_in (j := 8) hl hp rfl (by decide)) ?_
    refine rr_callV (As := [.int (xs (nI p + 1).toNatClampNeg), .int (xs (nI p + 2).toNatClampNeg), .int (xs (nI p + 3).toNatClampNeg), .int (xs (nI p + 4).toNatClampNeg), .int (xs (nI p + 5).toNatClampNeg), .int (xs (nI p + 6).toNatClampNeg), .int (xs (nI p + 7).toNatClampNeg), .int (xs (nI p + 8).toNatClampNeg)]) (rest := []) (kc2 := 0) (ks2 := 0) dL_law__873 okX10_would lL_176 lo_49 sh_49 rfl rfl (Nat.le_of_ble_eq_true rfl) (Nat.le_of_ble_eq_true rfl) rfl (by omega) (by simp [jj_rk]) (by simp [jj_rk]) ?_
    refine kr (d + 1) 0 0 g' _ (fun h2 i2 t2 => ?_)
    show jj_R (mLw len xs) (d + 66) _ _ (jj_S, 782, h2, g') 876 [(0, .ref 999998), (1, .ref 0), (2, .ref 49), (3, .ref 781), (4, .int (nI p)), (5, .int cd)] [.int v] Q
    refine rr_istore [(0, .ref 999998), (1, .ref 0), (2, .ref 49), (3, .ref 781), (4, .int (nI p)), (5, .int cd), (6, .int v)] dL_law__876 (Nat.le_of_ble_eq_true rfl) rfl ?_
    refine rr_aload_n 2 rfl rfl dL_law__878 ?_
    refine rr_callV (As := []) (rest := []) (kc2 := 0) (ks2 := 0) dL_law__879 okX10_thrown lL_141 lo_49 sh_49 rfl rfl (Nat.le_of_ble_eq_true rfl) (Nat.le_of_ble_eq_true rfl) rfl (by omega) (by simp [jj_rk]) (by simp [jj_rk]) ?_
    refine sp_X10_thrown (d := d + 65) ?_
    show jj_R (mLw len xs) (d + 66) _ _ (jj_S, 782, h2, g') 882 [(0, .ref 999998), (1, .ref 0), (2, .ref 49), (3, .ref 781), (4, .int (nI p)), (5, .int cd), (6, .int v)] [.int (h2 49 0)] Q
    refine rr_iload 5 rfl dL_law__882 ?_
    refine rr_icmp_eq dL_law__884 (fun _ => ?_) (fun q => absurd (t2.trans hth) q)
    have fin : jj_R (mLw len xs) (d + 66) (kc + 4 - 4 - 0 - 0) (ks + 24 - 24 - 0 - 0) (jj_S, 782, h2, g') 906 [(0, .ref 999998), (1, .ref 0), (2, .ref 49), (3, .ref 781), (4, .int (nI p)), (5, .int cd), (6, .int v)] [] Q := by
      refine rr_goto dL_law__906 ?_
      refine rr_drop (ls := [(0, .ref 999998), (1, .ref 0), (2, .ref 49), (3, .ref 781), (4, .int (nI p))]) [0, 1, 2, 3, 4] rfl ?_
      exact k h2 g' i2
    refine rr_iload 5 rfl dL_law__889 ?_
    refine rr_if_ne dL_law__891 (fun _ => fin) (fun q => ?_)
    refine rr_aload_n 3 rfl rfl dL_law__894 ?_
    refine rr_iconst 0 rfl dL_law__895 ?_
    refine rr_laload dL_law__896 lo_781 sh_781 vp01 ?_
    refine rr_iload 6 rfl dL_law__897 ?_
    refine rr_i2l dL_law__899 ?_
    refine rr_lcmp dL_law__900 ?_
    refine rr_if_eq dL_law__901 (fun _ => fin) (fun z => absurd (by rw [hg q]; exact lg_same _) z)
  rcases lk with ⟨rfl, rfl⟩ | ⟨b0, rfl, rfl⟩ | ⟨b0, rfl, rfl⟩
  · exact ⟨h1, g, rfl, Or.inl ⟨v, rfl, tail 0 _ (fun _ => u3_out) rfl⟩⟩
  · cases b0
  · exact ⟨h1, g, rfl, Or.inr (Or.inr ⟨rfl, rfl, tail _ g (fun z => absurd z (by decide)) rfl⟩)⟩
set_option maxHeartbeats 1000000 in
theorem ca_kin {len p d kc ks : Nat} {xs : Nat → Int32} {h : hp_} {g : Nat → Nat → Int64} {Q : jj_Rs → jj_St → Prop} (hl : len < 2 ^ 31) (hp : p + 9 ≤ len) (I : IVx h) (k : ∀ h2 g2, IVx h2 → jj_R (mLw len xs) (d + 66) kc ks (jj_S, 782, h2, g2) 2808 [(0, .ref 999998), (1, .ref 0), (2, .ref 49), (3, .ref 781), (4, .int (nI p))] [] Q) : jj_R (mLw len xs) (d + 66) (kc + 4) (ks + 24) (jj_S, 782, h, g) 2024 [(0, .ref 999998), (1, .ref 0), (2, .ref 49), (3, .ref 781), (4, .int (nI p))] [] Q := by
  obtain ⟨_, _, _, _, _, _, _, I⟩ := I
  refine rr_aload_n 1 rfl rfl dL_law__2024 ?_
  refine rr_aload_n 0 rfl rfl dL_law__2025 ?_
  refine rr_iload 4 rfl dL_law__2026 ?_
  refine rr_iconst 1 rfl dL_law__2028 ?_
  refine rr_iadd dL_law__2029 ?_
  refine rr_siaload (len := len) (xs := xs) rfl dL_law__2030 (sc_in (j := 1) hl hp rfl (by decide)) ?_
  refine rr_aload_n 3 rfl rfl dL_law__2031 ?_
  obtain ⟨mid, k1, k2⟩ := dual_2 (du_kin I (xs (nI p + 1).toNatClampNeg))
  refine rr_callSW (As := [.ref 0, .int (xs (nI p + 1).toNatClampNeg), .ref 781]) (rest := []) (kc2 := 4) (ks2 := 24) dL_law__2032 okL_kin lL_233 rfl (Nat.le_of_ble_eq_true rfl) (Nat.le_of_ble_eq_true rfl) rfl (by omega) (by simp [jj_rk]) (by simp [jj_rk]) ?_
  refine w_kin (fun Q2 hq => k1 (d + 24) 0 0 g Q2 (fun r h1 mm => hq r _ ?_))
  obtain ⟨v, th, lk, kr⟩ := k2 r h1 mm
  have tail : ∀ (cd : Int32) (g' : Nat → Nat → Int64), (cd = 0 → g' 781 (0 : Int32).toNatClampNeg = v.toInt64) → th = cd → jj_R (mLw len xs) (d + 66) (kc + 4 - 4) (ks + 24 - 24) (jj_S, 782, h1, g') 2035 [(0, .ref 999998), (1, .ref 0), (2, .ref 49), (3, .ref 781), (4, .int (nI p))] [.int cd] Q := fun cd g' hg hth => by
    refine rr_istore [(0, .ref 999998), (1, .ref 0), (2, .ref 49), (3, .ref 781), (4, .int (nI p)), (5, .int cd)] dL_law__2035 (Nat.le_of_ble_eq_true rfl) rfl ?_
    refine rr_aload_n 2 rfl rfl dL_law__2037 ?_
    refine rr_aload_n 0 rfl rfl dL_law__2038 ?_
    refine rr_iload 4 rfl dL_law__2039 ?_
    refine rr_iconst 1 rfl dL_law__2041 ?_
    refine rr_iadd dL_law__2042 ?_
    refine rr_siaload (len := len) (xs := xs) rfl dL_law__2043 (sc_in (j := 1) hl hp rfl (by decide)) ?_
    refine rr_callV (As := [.int (xs (nI p + 1).toNatClampNeg)]) (rest := []) (kc2 := 0) (ks2 := 0) dL_law__2044 okX10_kin lL_235 lo_49 sh_49 rfl rfl (Nat.le_of_ble_eq_true rfl) (Nat.le_of_ble_eq_true rfl) rfl (by omega) (by simp [jj_rk]) (by simp [jj_rk]) ?_
    refine kr (d + 1) 0 0 g' _ (fun h2 i2 t2 => ?_)
    show jj_R (mLw len xs) (d + 66) _ _ (jj_S, 782, h2, g') 2047 [(0, .ref 999998), (1, .ref 0), (2, .ref 49), (3, .ref 781), (4, .int (nI p)), (5, .int cd)] [.int v] Q
    refine rr_istore [(0, .ref 999998), (1, .ref 0), (2, .ref 49), (3, .ref 781), (4, .int (nI p)), (5, .int cd), (6, .int v)] dL_law__2047 (Nat.le_of_ble_eq_true rfl) rfl ?_
    refine rr_aload_n 2 rfl rfl dL_law__2049 ?_
    refine rr_callV (As := []) (rest := []) (kc2 := 0) (ks2 := 0) dL_law__2050 okX10_thrown lL_141 lo_49 sh_49 rfl rfl (Nat.le_of_ble_eq_true rfl) (Nat.le_of_ble_eq_true rfl) rfl (by omega) (by simp [jj_rk]) (by simp [jj_rk]) ?_
    refine sp_X10_thrown (d := d + 65) ?_
    show jj_R (mLw len xs) (d + 66) _ _ (jj_S, 782, h2, g') 2053 [(0, .ref 999998), (1, .ref 0), (2, .ref 49), (3, .ref 781), (4, .int (nI p)), (5, .int cd), (6, .int v)] [.int (h2 49 0)] Q
    refine rr_iload 5 rfl dL_law__2053 ?_
    refine rr_icmp_eq dL_law__2055 (fun _ => ?_) (fun q => absurd (t2.trans hth) q)
    have fin : jj_R (mLw len xs) (d + 66) (kc + 4 - 4 - 0 - 0) (ks + 24 - 24 - 0 - 0) (jj_S, 782, h2, g') 2077 [(0, .ref 999998), (1, .ref 0), (2, .ref 49), (3, .ref 781), (4, .int (nI p)), (5, .int cd), (6, .int v)] [] Q := by
      refine rr_goto dL_law__2077 ?_
      refine rr_drop (ls := [(0, .ref 999998), (1, .ref 0), (2, .ref 49), (3, .ref 781), (4, .int (nI p))]) [0, 1, 2, 3, 4] rfl ?_
      exact k h2 g' i2
    refine rr_iload 5 rfl dL_law__2060 ?_
    refine rr_if_ne dL_law__2062 (fun _ => fin) (fun q => ?_)
    refine rr_aload_n 3 rfl rfl dL_law__2065 ?_
    refine rr_iconst 0 rfl dL_law__2066 ?_
    refine rr_laload dL_law__2067 lo_781 sh_781 vp01 ?_
    refine rr_iload 6 rfl dL_law__2068 ?_
    refine rr_i2l dL_law__2070 ?_
    refine rr_lcmp dL_law__2071 ?_
    refine rr_if_eq dL_law__2072 (fun _ => fin) (fun z => absurd (by rw [hg q]; exact lg_same _) z)
  rcases lk with ⟨rfl, rfl⟩ | ⟨b0, rfl, rfl⟩ | ⟨b0, rfl, rfl⟩
  · exact ⟨h1, g, rfl, Or.inl ⟨v, rfl, tail 0 _ (fun _ => u3_out) rfl⟩⟩
  · exact ⟨h1, g, rfl, Or.inr (Or.inl ⟨rfl, rfl, tail 1 g (fun z => absurd z (by decide)) rfl⟩)⟩
  · cases b0
set_option maxHeartbeats 1000000 in
theorem ca_ring {len p d kc ks : Nat} {xs : Nat → Int32} {h : hp_} {g : Nat → Nat → Int64} {Q : jj_Rs → jj_St → Prop} (hl : len < 2 ^ 31) (hp : p + 9 ≤ len) (I : IVx h) (k : ∀ h2 g2, IVx h2 → jj_R (mLw len xs) (d + 66) kc ks (jj_S, 782, h2, g2) 2808 [(0, .ref 999998), (1, .ref 0), (2, .ref 49), (3, .ref 781), (4, .int (nI p))] [] Q) : jj_R (mLw len xs) (d + 66) (kc + 4) (ks + 24) (jj_S, 782, h, g) 1356 [(0, .ref 999998), (1, .ref 0), (2, .ref 49), (3, .ref 781), (4, .int (nI p))] [] Q := by
  obtain ⟨_, _, _, _, _, _, _, I⟩ := I
  refine rr_aload_n 1 rfl rfl dL_law__1356 ?_
  refine rr_aload_n 0 rfl rfl dL_law__1357 ?_
  refine rr_iload 4 rfl dL_law__1358 ?_
  refine rr_iconst 1 rfl dL_law__1360 ?_
  refine rr_iadd dL_law__1361 ?_
  refine rr_siaload (len := len) (xs := xs) rfl dL_law__1362 (sc_in (j := 1) hl hp rfl (by decide)) ?_
  refine rr_aload_n 0 rfl rfl dL_law__1363 ?_
  refine rr_iload 4 rfl dL_law__1364 ?_
  refine rr_iconst 2 rfl dL_law__1366 ?_
  refine rr_iadd dL_law__1367 ?_
  refine rr_siaload (len := len) (xs := xs) rfl dL_law__1368 (sc_in (j := 2) hl hp rfl (by decide)) ?_
  refine rr_aload_n 3 rfl rfl dL_law__1369 ?_
  obtain ⟨mid, k1, k2⟩ := dual_2 (du_ring I (xs (nI p + 1).toNatClampNeg) (xs (nI p + 2).toNatClampNeg))
  refine rr_callSW (As := [.ref 0, .int (xs (nI p + 1).toNatClampNeg), .int (xs (nI p + 2).toNatClampNeg), .ref 781]) (rest := []) (kc2 := 4) (ks2 := 24) dL_law__1370 okL_ring lL_198 rfl (Nat.le_of_ble_eq_true rfl) (Nat.le_of_ble_eq_true rfl) rfl (by omega) (by simp [jj_rk]) (by simp [jj_rk]) ?_
  refine w_ring (fun Q2 hq => k1 (d + 24) 0 0 g Q2 (fun r h1 mm => hq r _ ?_))
  obtain ⟨v, th, lk, kr⟩ := k2 r h1 mm
  have tail : ∀ (cd : Int32) (g' : Nat → Nat → Int64), (cd = 0 → g' 781 (0 : Int32).toNatClampNeg = v.toInt64) → th = cd → jj_R (mLw len xs) (d + 66) (kc + 4 - 4) (ks + 24 - 24) (jj_S, 782, h1, g') 1373 [(0, .ref 999998), (1, .ref 0), (2, .ref 49), (3, .ref 781), (4, .int (nI p))] [.int cd] Q := fun cd g' hg hth => by
    refine rr_istore [(0, .ref 999998), (1, .ref 0), (2, .ref 49), (3, .ref 781), (4, .int (nI p)), (5, .int cd)] dL_law__1373 (Nat.le_of_ble_eq_true rfl) rfl ?_
    refine rr_aload_n 2 rfl rfl dL_law__1375 ?_
    refine rr_aload_n 0 rfl rfl dL_law__1376 ?_
    refine rr_iload 4 rfl dL_law__1377 ?_
    refine rr_iconst 1 rfl dL_law__1379 ?_
    refine rr_iadd dL_law__1380 ?_
    refine rr_siaload (len := len) (xs := xs) rfl dL_law__1381 (sc_in (j := 1) hl hp rfl (by decide)) ?_
    refine rr_aload_n 0 rfl rfl dL_law__1382 ?_
    refine rr_iload 4 rfl dL_law__1383 ?_
    refine rr_iconst 2 rfl dL_law__1385 ?_
    refine rr_iadd dL_law__1386 ?_
    refine rr_siaload (len := len) (xs := xs) rfl dL_law__1387 (sc_in (j := 2) hl hp rfl (by decide)) ?_
    refine rr_callV (As := [.int (xs (nI p + 1).toNatClampNeg), .int (xs (nI p + 2).toNatClampNeg)]) (rest := []) (kc2 := 0) (ks2 := 0) dL_law__1388 okX10_ring lL_200 lo_49 sh_49 rfl rfl (Nat.le_of_ble_eq_true rfl) (Nat.le_of_ble_eq_true rfl) rfl (by omega) (by simp [jj_rk]) (by simp [jj_rk]) ?_
    refine kr (d + 1) 0 0 g' _ (fun h2 i2 t2 => ?_)
    show jj_R (mLw len xs) (d + 66) _ _ (jj_S, 782, h2, g') 1391 [(0, .ref 999998), (1, .ref 0), (2, .ref 49), (3, .ref 781), (4, .int (nI p)), (5, .int cd)] [.int v] Q
    refine rr_istore [(0, .ref 999998), (1, .ref 0), (2, .ref 49), (3, .ref 781), (4, .int (nI p)), (5, .int cd), (6, .int v)] dL_law__1391 (Nat.le_of_ble_eq_true rfl) rfl ?_
    refine rr_aload_n 2 rfl rfl dL_law__1393 ?_
    refine rr_callV (As := []) (rest := []) (kc2 := 0) (ks2 := 0) dL_law__1394 okX10_thrown lL_141 lo_49 sh_49 rfl rfl (Nat.le_of_ble_eq_true rfl) (Nat.le_of_ble_eq_true rfl) rfl (by omega) (by simp [jj_rk]) (by simp [jj_rk]) ?_
    refine sp_X10_thrown (d := d + 65) ?_
    show jj_R (mLw len xs) (d + 66) _ _ (jj_S, 782, h2, g') 1397 [(0, .ref 999998), (1, .ref 0), (2, .ref 49), (3, .ref 781), (4, .int (nI p)), (5, .int cd), (6, .int v)] [.int (h2 49 0)] Q
    refine rr_iload 5 rfl dL_law__1397 ?_
    refine rr_icmp_eq dL_law__1399 (fun _ => ?_) (fun q => absurd (t2.trans hth) q)
    have fin : jj_R (mLw len xs) (d + 66) (kc + 4 - 4 - 0 - 0) (ks + 24 - 24 - 0 - 0) (jj_S, 782, h2, g') 1421 [(0, .ref 999998), (1, .ref 0), (2, .ref 49), (3, .ref 781), (4, .int (nI p)), (5, .int cd), (6, .int v)] [] Q := by
      refine rr_goto dL_law__1421 ?_
      refine rr_drop (ls := [(0, .ref 999998), (1, .ref 0), (2, .ref 49), (3, .ref 781), (4, .int (nI p))]) [0, 1, 2, 3, 4] rfl ?_
      exact k h2 g' i2
    refine rr_iload 5 rfl dL_law__1404 ?_
    refine rr_if_ne dL_law__1406 (fun _ => fin) (fun q => ?_)
    refine rr_aload_n 3 rfl rfl dL_law__1409 ?_
    refine rr_iconst 0 rfl dL_law__1410 ?_
    refine rr_laload dL_law__1411 lo_781 sh_781 vp01 ?_
    refine rr_iload 6 rfl dL_law__1412 ?_
    refine rr_i2l dL_law__1414 ?_
    refine rr_lcmp dL_law__1415 ?_
    refine rr_if_eq dL_law__1416 (fun _ => fin) (fun z => absurd (by rw [hg q]; exact lg_same _) z)
  rcases lk with ⟨rfl, rfl⟩ | ⟨b0, rfl, rfl⟩ | ⟨b0, rfl, rfl⟩
  · exact ⟨h1, g, rfl, Or.inl ⟨v, rfl, tail 0 _ (fun _ => u3_out) rfl⟩⟩
  · exact ⟨h1, g, rfl, Or.inr (Or.inl ⟨rfl, rfl, tail 1 g (fun z => absurd z (by decide)) rfl⟩)⟩
  · exact ⟨h1, g, rfl, Or.inr (Or.inr ⟨rfl, rfl, tail _ g (fun z => absurd z (by decide)) rfl⟩)⟩
set_option maxHeartbeats 1000000 in
theorem ca_share {len p d kc ks : Nat} {xs : Nat → Int32} {h : hp_} {g : Nat → Nat → Int64} {Q : jj_Rs → jj_St → Prop} (hl : len < 2 ^ 31) (hp : p + 9 ≤ len) (I : IVx h) (k : ∀ h2 g2, IVx h2 → jj_R (mLw len xs) (d + 66) kc ks (jj_S, 782, h2, g2) 2808 [(0, .ref 999998), (1, .ref 0), (2, .ref 49), (3, .ref 781), (4, .int (nI p))] [] Q) : jj_R (mLw len xs) (d + 66) (kc + 4) (ks + 24) (jj_S, 782, h, g) 1707 [(0, .ref 999998), (1, .ref 0), (2, .ref 49), (3, .ref 781), (4, .int (nI p))] [] Q := by
  obtain ⟨_, _, _, _, _, _, _, I⟩ := I
  refine rr_aload_n 1 rfl rfl dL_law__1707 ?_
  refine rr_aload_n 0 rfl rfl dL_law__1708 ?_
  refine rr_iload 4 rfl dL_law__1709 ?_
  refine rr_iconst 1 rfl dL_law__1711 ?_
  refine rr_iadd dL_law__1712 ?_
  refine rr_siaload (len := len) (xs := xs) rfl dL_law__1713 (sc_in (j := 1) hl hp rfl (by decide)) ?_
  refine rr_aload_n 0 rfl rfl dL_law__1714 ?_
  refine rr_iload 4 rfl dL_law__1715 ?_
  refine rr_iconst 2 rfl dL_law__1717 ?_
  refine rr_iadd dL_law__1718 ?_
  refine rr_siaload (len := len) (xs := xs) rfl dL_law__1719 (sc_in (j := 2) hl hp rfl (by decide)) ?_
  refine rr_aload_n 0 rfl rfl dL_law__1720 ?_
  refine rr_iload 4 rfl dL_law__1721 ?_
  refine rr_iconst 3 rfl dL_law__1723 ?_
  refine rr_iadd dL_law__1724 ?_
  refine rr_siaload (len := len) (xs := xs) rfl dL_law__1725 (sc_in (j := 3) hl hp rfl (by decide)) ?_
  refine rr_aload_n 3 rfl rfl dL_law__1726 ?_
  obtain ⟨mid, k1, k2⟩ := dual_2 (du_share I (xs (nI p + 1).toNatClampNeg) (xs (nI p + 2).toNatClampNeg) (xs (nI p + 3).toNatClampNeg))
  refine rr_callSW (As := [.ref 0, .int (xs (nI p + 1).toNatClampNeg), .int (xs (nI p + 2).toNatClampNeg), .int (xs (nI p + 3).toNatClampNeg), .ref 781]) (rest := []) (kc2 := 4) (ks2 := 24) dL_law__1727 okL_share lL_214 rfl (Nat.le_of_ble_eq_true rfl) (Nat.le_of_ble_eq_true rfl) rfl (by omega) (by simp [jj_rk]) (by simp [jj_rk]) ?_
  refine w_share (fun Q2 hq => k1 (d + 24) 0 0 g Q2 (fun r h1 mm => hq r _ ?_))
  obtain ⟨v, th, lk, kr⟩ := k2 r h1 mm
  have tail : ∀ (cd : Int32) (g' : Nat → Nat → Int64), (cd = 0 → g' 781 (0 : Int32).toNatClampNeg = v.toInt64) → th = cd → jj_R (mLw len xs) (d + 66) (kc + 4 - 4) (ks + 24 - 24) (jj_S, 782, h1, g') 1730 [(0, .ref 999998), (1, .ref 0), (2, .ref 49), (3, .ref 781), (4, .int (nI p))] [.int cd] Q := fun cd g' hg hth => by
    refine rr_istore [(0, .ref 999998), (1, .ref 0), (2, .ref 49), (3, .ref 781), (4, .int (nI p)), (5, .int cd)] dL_law__1730 (Nat.le_of_ble_eq_true rfl) rfl ?_
    refine rr_aload_n 2 rfl rfl dL_law__1732 ?_
    refine rr_aload_n 0 rfl rfl dL_law__1733 ?_
    refine rr_iload 4 rfl dL_law__1734 ?_
    refine rr_iconst 1 rfl dL_law__1736 ?_
    refine rr_iadd dL_law__1737 ?_
    refine rr_siaload (len := len) (xs := xs) rfl dL_law__1738 (sc_in (j := 1) hl hp rfl (by decide)) ?_
    refine rr_aload_n 0 rfl rfl dL_law__1739 ?_
    refine rr_iload 4 rfl dL_law__1740 ?_
    refine rr_iconst 2 rfl dL_law__1742 ?_
    refine rr_iadd dL_law__1743 ?_
    refine rr_siaload (len := len) (xs := xs) rfl dL_law__1744 (sc_in (j := 2) hl hp rfl (by decide)) ?_
    refine rr_aload_n 0 rfl rfl dL_law__1745 ?_
    refine rr_iload 4 rfl dL_law__1746 ?_
    refine rr_iconst 3 rfl dL_law__1748 ?_
    refine rr_iadd dL_law__1749 ?_
    refine rr_siaload (len := len) (xs := xs) rfl dL_law__1750 (sc_in (j := 3) hl hp rfl (by decide)) ?_
    refine rr_callV (As := [.int (xs (nI p + 1).toNatClampNeg), .int (xs (nI p + 2).toNatClampNeg), .int (xs (nI p + 3).toNatClampNeg)]) (rest := []) (kc2 := 0) (ks2 := 0) dL_law__1751 okX10_share lL_216 lo_49 sh_49 rfl rfl (Nat.le_of_ble_eq_true rfl) (Nat.le_of_ble_eq_true rfl) rfl (by omega) (by simp [jj_rk]) (by simp [jj_rk]) ?_
    refine kr (d + 1) 0 0 g' _ (fun h2 i2 t2 => ?_)
    show jj_R (mLw len xs) (d + 66) _ _ (jj_S, 782, h2, g') 1754 [(0, .ref 999998), (1, .ref 0), (2, .ref 49), (3, .ref 781), (4, .int (nI p)), (5, .int cd)] [.int v] Q
    refine rr_istore [(0, .ref 999998), (1, .ref 0), (2, .ref 49), (3, .ref 781), (4, .int (nI p)), (5, .int cd), (6, .int v)] dL_law__1754 (Nat.le_of_ble_eq_true rfl) rfl ?_
    refine rr_aload_n 2 rfl rfl dL_law__1756 ?_
    refine rr_callV (As := []) (rest := []) (kc2 := 0) (ks2 := 0) dL_law__1757 okX10_thrown lL_141 lo_49 sh_49 rfl rfl (Nat.le_of_ble_eq_true rfl) (Nat.le_of_ble_eq_true rfl) rfl (by omega) (by simp [jj_rk]) (by simp [jj_rk]) ?_
    refine sp_X10_thrown (d := d + 65) ?_
    show jj_R (mLw len xs) (d + 66) _ _ (jj_S, 782, h2, g') 1760 [(0, .ref 999998), (1, .ref 0), (2, .ref 49), (3, .ref 781), (4, .int (nI p)), (5, .int cd), (6, .int v)] [.int (h2 49 0)] Q
    refine rr_iload 5 rfl dL_law__1760 ?_
    refine rr_icmp_eq dL_law__1762 (fun _ => ?_) (fun q => absurd (t2.trans hth) q)
    have fin : jj_R (mLw len xs) (d + 66) (kc + 4 - 4 - 0 - 0) (ks + 24 - 24 - 0 - 0) (jj_S, 782, h2, g') 1784 [(0, .ref 999998), (1, .ref 0), (2, .ref 49), (3, .ref 781), (4, .int (nI p)), (5, .int cd), (6, .int v)] [] Q := by
      refine rr_goto dL_law__1784 ?_
      refine rr_drop (ls := [(0, .ref 999998), (1, .ref 0), (2, .ref 49), (3, .ref 781), (4, .int (nI p))]) [0, 1, 2, 3, 4] rfl ?_
      exact k h2 g' i2
    refine rr_iload 5 rfl dL_law__1767 ?_
    refine rr_if_ne dL_law__1769 (fun _ => fin) (fun q => ?_)
    refine rr_aload_n 3 rfl rfl dL_law__1772 ?_
    refine rr_iconst 0 rfl dL_law__1773 ?_
    refine rr_laload dL_law__1774 lo_781 sh_781 vp01 ?_
    refine rr_iload 6 rfl dL_law__1775 ?_
    refine rr_i2l dL_law__1777 ?_
    refine rr_lcmp dL_law__1778 ?_
    refine rr_if_eq dL_law__1779 (fun _ => fin) (fun z => absurd (by rw [hg q]; exact lg_same _) z)
  rcases lk with ⟨rfl, rfl⟩ | ⟨b0, rfl, rfl⟩ | ⟨b0, rfl, rfl⟩
  · exact ⟨h1, g, rfl, Or.inl ⟨v, rfl, tail 0 _ (fun _ => u3_out) rfl⟩⟩
  · exact ⟨h1, g, rfl, Or.inr (Or.inl ⟨rfl, rfl, tail 1 g (fun z => absurd z (by decide)) rfl⟩)⟩
  · exact ⟨h1, g, rfl, Or.inr (Or.inr ⟨rfl, rfl, tail _ g (fun z => absurd z (by decide)) rfl⟩)⟩
set_option maxHeartbeats 1000000 in
theorem ca_round {len p d kc ks : Nat} {xs : Nat → Int32} {h : hp_} {g : Nat → Nat → Int64} {Q : jj_Rs → jj_St → Prop} (hl : len < 2 ^ 31) (hp : p + 9 ≤ len) (I : IVx h) (k : ∀ h2 g2, IVx h2 → jj_R (mLw len xs) (d + 66) kc ks (jj_S, 782, h2, g2) 2808 [(0, .ref 999998), (1, .ref 0), (2, .ref 49), (3, .ref 781), (4, .int (nI p))] [] Q) : jj_R (mLw len xs) (d + 66) (kc + 4) (ks + 24) (jj_S, 782, h, g) 1176 [(0, .ref 999998), (1, .ref 0), (2, .ref 49), (3, .ref 781), (4, .int (nI p))] [] Q := by
  obtain ⟨_, _, _, _, _, _, _, I⟩ := I
  refine rr_aload_n 1 rfl rfl dL_law__1176 ?_
  refine rr_aload_n 0 rfl rfl dL_law__1177 ?_
  refine rr_iload 4 rfl dL_law__1178 ?_
  refine rr_iconst 1 rfl dL_law__1180 ?_
  refine rr_iadd dL_law__1181 ?_
  refine rr_siaload (len := len) (xs := xs) rfl dL_law__1182 (sc_in (j := 1) hl hp rfl (by decide)) ?_
  refine rr_aload_n 0 rfl rfl dL_law__1183 ?_
  refine rr_iload 4 rfl dL_law__1184 ?_
  refine rr_iconst 2 rfl dL_law__1186 ?_
  refine rr_iadd dL_law__1187 ?_
  refine rr_siaload (len := len) (xs := xs) rfl dL_law__1188 (sc_in (j := 2) hl hp rfl (by decide)) ?_
  refine rr_aload_n 3 rfl rfl dL_law__1189 ?_
  obtain ⟨mid, k1, k2⟩ := dual_2 (du_round I (xs (nI p + 1).toNatClampNeg) (xs (nI p + 2).toNatClampNeg))
  refine rr_callSW (As := [.ref 0, .int (xs (nI p + 1).toNatClampNeg), .int (xs (nI p + 2).toNatClampNeg), .ref 781]) (rest := []) (kc2 := 4) (ks2 := 24) dL_law__1190 okL_round lL_189 rfl (Nat.le_of_ble_eq_true rfl) (Nat.le_of_ble_eq_true rfl) rfl (by omega) (by simp [jj_rk]) (by simp [jj_rk]) ?_
  refine w_round (fun Q2 hq => k1 (d + 24) 0 0 g Q2 (fun r h1 mm => hq r _ ?_))
  obtain ⟨v, th, lk, kr⟩ := k2 r h1 mm
  have tail : ∀ (cd : Int32) (g' : Nat → Nat → Int64), (cd = 0 → g' 781 (0 : Int32).toNatClampNeg = v.toInt64) → th = cd → jj_R (mLw len xs) (d + 66) (kc + 4 - 4) (ks + 24 - 24) (jj_S, 782, h1, g') 1193 [(0, .ref 999998), (1, .ref 0), (2, .ref 49), (3, .ref 781), (4, .int (nI p))] [.int cd] Q := fun cd g' hg hth => by
    refine rr_istore [(0, .ref 999998), (1, .ref 0), (2, .ref 49), (3, .ref 781), (4, .int (nI p)), (5, .int cd)] dL_law__1193 (Nat.le_of_ble_eq_true rfl) rfl ?_
    refine rr_aload_n 2 rfl rfl dL_law__1195 ?_
    refine rr_aload_n 0 rfl rfl dL_law__1196 ?_
    refine rr_iload 4 rfl dL_law__1197 ?_
    refine rr_iconst 1 rfl dL_law__1199 ?_
    refine rr_iadd dL_law__1200 ?_
    refine rr_siaload (len := len) (xs := xs) rfl dL_law__1201 (sc_in (j := 1) hl hp rfl (by decide)) ?_
    refine rr_aload_n 0 rfl rfl dL_law__1202 ?_
    refine rr_iload 4 rfl dL_law__1203 ?_
    refine rr_iconst 2 rfl dL_law__1205 ?_
    refine rr_iadd dL_law__1206 ?_
    refine rr_siaload (len := len) (xs := xs) rfl dL_law__1207 (sc_in (j := 2) hl hp rfl (by decide)) ?_
    refine rr_callV (As := [.int (xs (nI p + 1).toNatClampNeg), .int (xs (nI p + 2).toNatClampNeg)]) (rest := []) (kc2 := 0) (ks2 := 0) dL_law__1208 okX10_round lL_191 lo_49 sh_49 rfl rfl (Nat.le_of_ble_eq_true rfl) (Nat.le_of_ble_eq_true rfl) rfl (by omega) (by simp [jj_rk]) (by simp [jj_rk]) ?_
    refine kr (d + 1) 0 0 g' _ (fun h2 i2 t2 => ?_)
    show jj_R (mLw len xs) (d + 66) _ _ (jj_S, 782, h2, g') 1211 [(0, .ref 999998), (1, .ref 0), (2, .ref 49), (3, .ref 781), (4, .int (nI p)), (5, .int cd)] [.int v] Q
    refine rr_istore [(0, .ref 999998), (1, .ref 0), (2, .ref 49), (3, .ref 781), (4, .int (nI p)), (5, .int cd), (6, .int v)] dL_law__1211 (Nat.le_of_ble_eq_true rfl) rfl ?_
    refine rr_aload_n 2 rfl rfl dL_law__1213 ?_
    refine rr_callV (As := []) (rest := []) (kc2 := 0) (ks2 := 0) dL_law__1214 okX10_thrown lL_141 lo_49 sh_49 rfl rfl (Nat.le_of_ble_eq_true rfl) (Nat.le_of_ble_eq_true rfl) rfl (by omega) (by simp [jj_rk]) (by simp [jj_rk]) ?_
    refine sp_X10_thrown (d := d + 65) ?_
    show jj_R (mLw len xs) (d + 66) _ _ (jj_S, 782, h2, g') 1217 [(0, .ref 999998), (1, .ref 0), (2, .ref 49), (3, .ref 781), (4, .int (nI p)), (5, .int cd), (6, .int v)] [.int (h2 49 0)] Q
    refine rr_iload 5 rfl dL_law__1217 ?_
    refine rr_icmp_eq dL_law__1219 (fun _ => ?_) (fun q => absurd (t2.trans hth) q)
    have fin : jj_R (mLw len xs) (d + 66) (kc + 4 - 4 - 0 - 0) (ks + 24 - 24 - 0 - 0) (jj_S, 782, h2, g') 1241 [(0, .ref 999998), (1, .ref 0), (2, .ref 49), (3, .ref 781), (4, .int (nI p)), (5, .int cd), (6, .int v)] [] Q := by
      refine rr_goto dL_law__1241 ?_
      refine rr_drop (ls := [(0, .ref 999998), (1, .ref 0), (2, .ref 49), (3, .ref 781), (4, .int (nI p))]) [0, 1, 2, 3, 4] rfl ?_
      exact k h2 g' i2
    refine rr_iload 5 rfl dL_law__1224 ?_
    refine rr_if_ne dL_law__1226 (fun _ => fin) (fun q => ?_)
    refine rr_aload_n 3 rfl rfl dL_law__1229 ?_
    refine rr_iconst 0 rfl dL_law__1230 ?_
    refine rr_laload dL_law__1231 lo_781 sh_781 vp01 ?_
    refine rr_iload 6 rfl dL_law__1232 ?_
    refine rr_i2l dL_law__1234 ?_
    refine rr_lcmp dL_law__1235 ?_
    refine rr_if_eq dL_law__1236 (fun _ => fin) (fun z => absurd (by rw [hg q]; exact lg_same _) z)
  rcases lk with ⟨rfl, rfl⟩ | ⟨b0, rfl, rfl⟩ | ⟨b0, rfl, rfl⟩
  · exact ⟨h1, g, rfl, Or.inl ⟨v, rfl, tail 0 _ (fun _ => u3_out) rfl⟩⟩
  · exact ⟨h1, g, rfl, Or.inr (Or.inl ⟨rfl, rfl, tail 1 g (fun z => absurd z (by decide)) rfl⟩)⟩
  · exact ⟨h1, g, rfl, Or.inr (Or.inr ⟨rfl, rfl, tail _ g (fun z => absurd z (by decide)) rfl⟩)⟩
set_option maxHeartbeats 1000000 in
theorem ca_fits {len p d kc ks : Nat} {xs : Nat → Int32} {h : hp_} {g : Nat → Nat → Int64} {Q : jj_Rs → jj_St → Prop} (hl : len < 2 ^ 31) (hp : p + 9 ≤ len) (I : IVx h) (k : ∀ h2 g2, IVx h2 → jj_R (mLw len xs) (d + 66) kc ks (jj_S, 782, h2, g2) 2808 [(0, .ref 999998), (1, .ref 0), (2, .ref 49), (3, .ref 781), (4, .int (nI p))] [] Q) : jj_R (mLw len xs) (d + 66) (kc + 4) (ks + 24) (jj_S, 782, h, g) 1424 [(0, .ref 999998), (1, .ref 0), (2, .ref 49), (3, .ref 781), (4, .int (nI p))] [] Q := by
  obtain ⟨_, _, _, _, _, _, _, I⟩ := I
  refine rr_aload_n 1 rfl rfl dL_law__1424 ?_
  refine rr_aload_n 0 rfl rfl dL_law__1425 ?_
  refine rr_iload 4 rfl dL_law__1426 ?_
  refine rr_iconst 1 rfl dL_law__1428 ?_
  refine rr_iadd dL_law__1429 ?_
  refine rr_siaload (len := len) (xs := xs) rfl dL_law__1430 (sc_in (j := 1) hl hp rfl (by decide)) ?_
  refine rr_aload_n 3 rfl rfl dL_law__1431 ?_
  obtain ⟨mid, k1, k2⟩ := dual_2 (du_fits I (xs (nI p + 1).toNatClampNeg))
  refine rr_callSW (As := [.ref 0, .int (xs (nI p + 1).toNatClampNeg), .ref 781]) (rest := []) (kc2 := 4) (ks2 := 24) dL_law__1432 okL_fits lL_201 rfl (Nat.le_of_ble_eq_true rfl) (Nat.le_of_ble_eq_true rfl) rfl (by omega) (by simp [jj_rk]) (by simp [jj_rk]) ?_
  refine w_fits (fun Q2 hq => k1 (d + 24) 0 0 g Q2 (fun r h1 mm => hq r _ ?_))
  obtain ⟨v, th, lk, kr⟩ := k2 r h1 mm
  have tail : ∀ (cd : Int32) (g' : Nat → Nat → Int64), (cd = 0 → g' 781 (0 : Int32).toNatClampNeg = v.toInt64) → th = cd → jj_R (mLw len xs) (d + 66) (kc + 4 - 4) (ks + 24 - 24) (jj_S, 782, h1, g') 1435 [(0, .ref 999998), (1, .ref 0), (2, .ref 49), (3, .ref 781), (4, .int (nI p))] [.int cd] Q := fun cd g' hg hth => by
    refine rr_istore [(0, .ref 999998), (1, .ref 0), (2, .ref 49), (3, .ref 781), (4, .int (nI p)), (5, .int cd)] dL_law__1435 (Nat.le_of_ble_eq_true rfl) rfl ?_
    refine rr_aload_n 2 rfl rfl dL_law__1437 ?_
    refine rr_aload_n 0 rfl rfl dL_law__1438 ?_
    refine rr_iload 4 rfl dL_law__1439 ?_
    refine rr_iconst 1 rfl dL_law__1441 ?_
    refine rr_iadd dL_law__1442 ?_
    refine rr_siaload (len := len) (xs := xs) rfl dL_law__1443 (sc_in (j := 1) hl hp rfl (by decide)) ?_
    refine rr_callV (As := [.int (xs (nI p + 1).toNatClampNeg)]) (rest := []) (kc2 := 0) (ks2 := 0) dL_law__1444 okX10_fits lL_203 lo_49 sh_49 rfl rfl (Nat.le_of_ble_eq_true rfl) (Nat.le_of_ble_eq_true rfl) rfl (by omega) (by simp [jj_rk]) (by simp [jj_rk]) ?_
    refine kr (d + 1) 0 0 g' _ (fun h2 i2 t2 => ?_)
    show jj_R (mLw len xs) (d + 66) _ _ (jj_S, 782, h2, g') 1447 [(0, .ref 999998), (1, .ref 0), (2, .ref 49), (3, .ref 781), (4, .int (nI p)), (5, .int cd)] [.int v] Q
    refine rr_istore [(0, .ref 999998), (1, .ref 0), (2, .ref 49), (3, .ref 781), (4, .int (nI p)), (5, .int cd), (6, .int v)] dL_law__1447 (Nat.le_of_ble_eq_true rfl) rfl ?_
    refine rr_aload_n 2 rfl rfl dL_law__1449 ?_
    refine rr_callV (As := []) (rest := []) (kc2 := 0) (ks2 := 0) dL_law__1450 okX10_thrown lL_141 lo_49 sh_49 rfl rfl (Nat.le_of_ble_eq_true rfl) (Nat.le_of_ble_eq_true rfl) rfl (by omega) (by simp [jj_rk]) (by simp [jj_rk]) ?_
    refine sp_X10_thrown (d := d + 65) ?_
    show jj_R (mLw len xs) (d + 66) _ _ (jj_S, 782, h2, g') 1453 [(0, .ref 999998), (1, .ref 0), (2, .ref 49), (3, .ref 781), (4, .int (nI p)), (5, .int cd), (6, .int v)] [.int (h2 49 0)] Q
    refine rr_iload 5 rfl dL_law__1453 ?_
    refine rr_icmp_eq dL_law__1455 (fun _ => ?_) (fun q => absurd (t2.trans hth) q)
    have fin : jj_R (mLw len xs) (d + 66) (kc + 4 - 4 - 0 - 0) (ks + 24 - 24 - 0 - 0) (jj_S, 782, h2, g') 1477 [(0, .ref 999998), (1, .ref 0), (2, .ref 49), (3, .ref 781), (4, .int (nI p)), (5, .int cd), (6, .int v)] [] Q := by
      refine rr_goto dL_law__1477 ?_
      refine rr_drop (ls := [(0, .ref 999998), (1, .ref 0), (2, .ref 49), (3, .ref 781), (4, .int (nI p))]) [0, 1, 2, 3, 4] rfl ?_
      exact k h2 g' i2
    refine rr_iload 5 rfl dL_law__1460 ?_
    refine rr_if_ne dL_law__1462 (fun _ => fin) (fun q => ?_)
    refine rr_aload_n 3 rfl rfl dL_law__1465 ?_
    refine rr_iconst 0 rfl dL_law__1466 ?_
    refine rr_laload dL_law__1467 lo_781 sh_781 vp01 ?_
    refine rr_iload 6 rfl dL_law__1468 ?_
    refine rr_i2l dL_law__1470 ?_
    refine rr_lcmp dL_law__1471 ?_
    refine rr_if_eq dL_law__1472 (fun _ => fin) (fun z => absurd (by rw [hg q]; exact lg_same _) z)
  rcases lk with ⟨rfl, rfl⟩ | ⟨b0, rfl, rfl⟩ | ⟨b0, rfl, rfl⟩
  · exact ⟨h1, g, rfl, Or.inl ⟨v, rfl, tail 0 _ (fun _ => u3_out) rfl⟩⟩
  · cases b0
  · exact ⟨h1, g, rfl, Or.inr (Or.inr ⟨rfl, rfl, tail _ g (fun z => absurd z (by decide)) rfl⟩)⟩
set_option maxHeartbeats 1000000 in
theorem ca_look {len p d kc ks : Nat} {xs : Nat → Int32} {h : hp_} {g : Nat → Nat → Int64} {Q : jj_Rs → jj_St → Prop} (hl : len < 2 ^ 31) (hp : p + 9 ≤ len) (I : IVx h) (k : ∀ h2 g2, IVx h2 → jj_R (mLw len xs) (d + 66) kc ks (jj_S, 782, h2, g2) 2808 [(0, .ref 999998), (1, .ref 0), (2, .ref 49), (3, .ref 781), (4, .int (nI p))] [] Q) : jj_R (mLw len xs) (d + 66) (kc + 4) (ks + 24) (jj_S, 782, h, g) 1480 [(0, .ref 999998), (1, .ref 0), (2, .ref 49), (3, .ref 781), (4, .int (nI p))] [] Q := by
  obtain ⟨_, _, _, _, _, _, _, I⟩ := I
  refine rr_aload_n 1 rfl rfl dL_law__1480 ?_
  refine rr_aload_n 0 rfl rfl dL_law__1481 ?_
  refine rr_iload 4 rfl dL_law__1482 ?_
  refine rr_iconst 1 rfl dL_law__1484 ?_
  refine rr_iadd dL_law__1485 ?_
  refine rr_siaload (len := len) (xs := xs) rfl dL_law__1486 (sc_in (j := 1) hl hp rfl (by decide)) ?_
  refine rr_aload_n 3 rfl rfl dL_law__1487 ?_
  obtain ⟨mid, k1, k2⟩ := dual_2 (du_look I (xs (nI p + 1).toNatClampNeg))
  refine rr_callSW (As := [.ref 0, .int (xs (nI p + 1).toNatClampNeg), .ref 781]) (rest := []) (kc2 := 4) (ks2 := 24) dL_law__1488 okL_look lL_204 rfl (Nat.le_of_ble_eq_true rfl) (Nat.le_of_ble_eq_true rfl) rfl (by omega) (by simp [jj_rk]) (by simp [jj_rk]) ?_
  refine w_look (fun Q2 hq => k1 (d + 24) 0 0 g Q2 (fun r h1 mm => hq r _ ?_))
  obtain ⟨v, th, lk, kr⟩ := k2 r h1 mm
  have tail : ∀ (cd : Int32) (g' : Nat → Nat → Int64), (cd = 0 → g' 781 (0 : Int32).toNatClampNeg = v.toInt64) → th = cd → jj_R (mLw len xs) (d + 66) (kc + 4 - 4) (ks + 24 - 24) (jj_S, 782, h1, g') 1491 [(0, .ref 999998), (1, .ref 0), (2, .ref 49), (3, .ref 781), (4, .int (nI p))] [.int cd] Q := fun cd g' hg hth => by
    refine rr_istore [(0, .ref 999998), (1, .ref 0), (2, .ref 49), (3, .ref 781), (4, .int (nI p)), (5, .int cd)] dL_law__1491 (Nat.le_of_ble_eq_true rfl) rfl ?_
    refine rr_aload_n 2 rfl rfl dL_law__1493 ?_
    refine rr_aload_n 0 rfl rfl dL_law__1494 ?_
    refine rr_iload 4 rfl dL_law__1495 ?_
    refine rr_iconst 1 rfl dL_law__1497 ?_
    refine rr_iadd dL_law__1498 ?_
    refine rr_siaload (len := len) (xs := xs) rfl dL_law__1499 (sc_in (j := 1) hl hp rfl (by decide)) ?_
    refine rr_callV (As := [.int (xs (nI p + 1).toNatClampNeg)]) (rest := []) (kc2 := 0) (ks2 := 0) dL_law__1500 okX10_look lL_206 lo_49 sh_49 rfl rfl (Nat.le_of_ble_eq_true rfl) (Nat.le_of_ble_eq_true rfl) rfl (by omega) (by simp [jj_rk]) (by simp [jj_rk]) ?_
    refine kr (d + 1) 0 0 g' _ (fun h2 i2 t2 => ?_)
    show jj_R (mLw len xs) (d + 66) _ _ (jj_S, 782, h2, g') 1503 [(0, .ref 999998), (1, .ref 0), (2, .ref 49), (3, .ref 781), (4, .int (nI p)), (5, .int cd)] [.int v] Q
    refine rr_istore [(0, .ref 999998), (1, .ref 0), (2, .ref 49), (3, .ref 781), (4, .int (nI p)), (5, .int cd), (6, .int v)] dL_law__1503 (Nat.le_of_ble_eq_true rfl) rfl ?_
    refine rr_aload_n 2 rfl rfl dL_law__1505 ?_
    refine rr_callV (As := []) (rest := []) (kc2 := 0) (ks2 := 0) dL_law__1506 okX10_thrown lL_141 lo_49 sh_49 rfl rfl (Nat.le_of_ble_eq_true rfl) (Nat.le_of_ble_eq_true rfl) rfl (by omega) (by simp [jj_rk]) (by simp [jj_rk]) ?_
    refine sp_X10_thrown (d := d + 65) ?_
    show jj_R (mLw len xs) (d + 66) _ _ (jj_S, 782, h2, g') 1509 [(0, .ref 999998), (1, .ref 0), (2, .ref 49), (3, .ref 781), (4, .int (nI p)), (5, .int cd), (6, .int v)] [.int (h2 49 0)] Q
    refine rr_iload 5 rfl dL_law__1509 ?_
    refine rr_icmp_eq dL_law__1511 (fun _ => ?_) (fun q => absurd (t2.trans hth) q)
    have fin : jj_R (mLw len xs) (d + 66) (kc + 4 - 4 - 0 - 0) (ks + 24 - 24 - 0 - 0) (jj_S, 782, h2, g') 1533 [(0, .ref 999998), (1, .ref 0), (2, .ref 49), (3, .ref 781), (4, .int (nI p)), (5, .int cd), (6, .int v)] [] Q := by
      refine rr_goto dL_law__1533 ?_
      refine rr_drop (ls := [(0, .ref 999998), (1, .ref 0), (2, .ref 49), (3, .ref 781), (4, .int (nI p))]) [0, 1, 2, 3, 4] rfl ?_
      exact k h2 g' i2
    refine rr_iload 5 rfl dL_law__1516 ?_
    refine rr_if_ne dL_law__1518 (fun _ => fin) (fun q => ?_)
    refine rr_aload_n 3 rfl rfl dL_law__1521 ?_
    refine rr_iconst 0 rfl dL_law__1522 ?_
    refine rr_laload dL_law__1523 lo_781 sh_781 vp01 ?_
    refine rr_iload 6 rfl dL_law__1524 ?_
    refine rr_i2l dL_law__1526 ?_
    refine rr_lcmp dL_law__1527 ?_
    refine rr_if_eq dL_law__1528 (fun _ => fin) (fun z => absurd (by rw [hg q]; exact lg_same _) z)
  rcases lk with ⟨rfl, rfl⟩ | ⟨b0, rfl, rfl⟩ | ⟨b0, rfl, rfl⟩
  · exact ⟨h1, g, rfl, Or.inl ⟨v, rfl, tail 0 _ (fun _ => u3_out) rfl⟩⟩
  · cases b0
  · exact ⟨h1, g, rfl, Or.inr (Or.inr ⟨rfl, rfl, tail _ g (fun z => absurd z (by decide)) rfl⟩)⟩
set_option maxHeartbeats 1000000 in
theorem ca_week {len p d kc ks : Nat} {xs : Nat → Int32} {h : hp_} {g : Nat → Nat → Int64} {Q : jj_Rs → jj_St → Prop} (hl : len < 2 ^ 31) (hp : p + 9 ≤ len) (I : IVx h) (k : ∀ h2 g2, IVx h2 → jj_R (mLw len xs) (d + 66) kc ks (jj_S, 782, h2, g2) 2808 [(0, .ref 999998), (1, .ref 0), (2, .ref 49), (3, .ref 781), (4, .int (nI p))] [] Q) : jj_R (mLw len xs) (d + 66) (kc + 4) (ks + 24) (jj_S, 782, h, g) 2522 [(0, .ref 999998), (1, .ref 0), (2, .ref 49), (3, .ref 781), (4, .int (nI p))] [] Q := by
  obtain ⟨_, _, _, _, _, _, _, I⟩ := I
  refine rr_aload_n 1 rfl rfl dL_law__2522 ?_
  refine rr_aload_n 0 rfl rfl dL_law__2523 ?_
  refine rr_iload 4 rfl dL_law__2524 ?_
  refine rr_iconst 1 rfl dL_law__2526 ?_
  refine rr_iadd dL_law__2527 ?_
  refine rr_siaload (len := len) (xs := xs) rfl dL_law__2528 (sc_in (j := 1) hl hp rfl (by decide)) ?_
  refine rr_aload_n 0 rfl rfl dL_law__2529 ?_
  refine rr_iload 4 rfl dL_law__2530 ?_
  refine rr_iconst 2 rfl dL_law__2532 ?_
  refine rr_iadd dL_law__2533 ?_
  refine rr_siaload (len := len) (xs := xs) rfl dL_law__2534 (sc_in (j := 2) hl hp rfl (by decide)) ?_
  refine rr_aload_n 0 rfl rfl dL_law__2535 ?_
  refine rr_iload 4 rfl dL_law__2536 ?_
  refine rr_iconst 3 rfl dL_law__2538 ?_
  refine rr_iadd dL_law__2539 ?_
  refine rr_siaload (len := len) (xs := xs) rfl dL_law__2540 (sc_in (j := 3) hl hp rfl (by decide)) ?_
  refine rr_aload_n 0 rfl rfl dL_law__2541 ?_
  refine rr_iload 4 rfl dL_law__2542 ?_
  refine rr_iconst 4 rfl dL_law__2544 ?_
  refine rr_iadd dL_law__2545 ?_
  refine rr_siaload (len := len) (xs := xs) rfl dL_law__2546 (sc_in (j := 4) hl hp rfl (by decide)) ?_
  refine rr_aload_n 3 rfl rfl dL_law__2547 ?_
  obtain ⟨mid, k1, k2⟩ := dual_2 (du_week I (xs (nI p + 1).toNatClampNeg) (xs (nI p + 2).toNatClampNeg) (xs (nI p + 3).toNatClampNeg) (xs (nI p + 4).toNatClampNeg))
  refine rr_callSW (As := [.ref 0, .int (xs (nI p + 1).toNatClampNeg), .int (xs (nI p + 2).toNatClampNeg), .int (xs (nI p + 3).toNatClampNeg), .int (xs (nI p + 4).toNatClampNeg), .ref 781]) (rest := []) (kc2 := 4) (ks2 := 24) dL_law__2548 okL_week lL_265 rfl (Nat.le_of_ble_eq_true rfl) (Nat.le_of_ble_eq_true rfl) rfl (by omega) (by simp [jj_rk]) (by simp [jj_rk]) ?_
  refine w_week (fun Q2 hq => k1 (d + 24) 0 0 g Q2 (fun r h1 mm => hq r _ ?_))
  obtain ⟨v, th, lk, kr⟩ := k2 r h1 mm
  have tail : ∀ (cd : Int32) (g' : Nat → Nat → Int64), (cd = 0 → g' 781 (0 : Int32).toNatClampNeg = v.toInt64) → th = cd → jj_R (mLw len xs) (d + 66) (kc + 4 - 4) (ks + 24 - 24) (jj_S, 782, h1, g') 2551 [(0, .ref 999998), (1, .ref 0), (2, .ref 49), (3, .ref 781), (4, .int (nI p))] [.int cd] Q := fun cd g' hg hth => by
    refine rr_istore [(0, .ref 999998), (1, .ref 0), (2, .ref 49), (3, .ref 781), (4, .int (nI p)), (5, .int cd)] dL_law__2551 (Nat.le_of_ble_eq_true rfl) rfl ?_
    refine rr_aload_n 2 rfl rfl dL_law__2553 ?_
    refine rr_aload_n 0 rfl rfl dL_law__2554 ?_
    refine rr_iload 4 rfl dL_law__2555 ?_
    refine rr_iconst 1 rfl dL_law__2557 ?_
    refine rr_iadd dL_law__2558 ?_
    refine rr_siaload (len := len) (xs := xs) rfl dL_law__2559 (sc_in (j := 1) hl hp rfl (by decide)) ?_
    refine rr_aload_n 0 rfl rfl dL_law__2560 ?_
    refine rr_iload 4 rfl dL_law__2561 ?_
    refine rr_iconst 2 rfl dL_law__2563 ?_
    refine rr_iadd dL_law__2564 ?_
    refine rr_siaload (len := len) (xs := xs) rfl dL_law__2565 (sc_in (j := 2) hl hp rfl (by decide)) ?_
    refine rr_aload_n 0 rfl rfl dL_law__2566 ?_
    refine rr_iload 4 rfl dL_law__2567 ?_
    refine rr_iconst 3 rfl dL_law__2569 ?_
    refine rr_iadd dL_law__2570 ?_
    refine rr_siaload (len := len) (xs := xs) rfl dL_law__2571 (sc_in (j := 3) hl hp rfl (by decide)) ?_
    refine rr_aload_n 0 rfl rfl dL_law__2572 ?_
    refine rr_iload 4 rfl dL_law__2573 ?_
    refine rr_iconst 4 rfl dL_law__2575 ?_
    refine rr_iadd dL_law__2576 ?_
    refine rr_siaload (len := len) (xs := xs) rfl dL_law__2577 (sc_in (j := 4) hl hp rfl (by decide)) ?_
    refine rr_callV (As := [.int (xs (nI p + 1).toNatClampNeg), .int (xs (nI p + 2).toNatClampNeg), .int (xs (nI p + 3).toNatClampNeg), .int (xs (nI p + 4).toNatClampNeg)]) (rest := []) (kc2 := 0) (ks2 := 0) dL_law__2578 okX10_week lL_267 lo_49 sh_49 rfl rfl (Nat.le_of_ble_eq_true rfl) (Nat.le_of_ble_eq_true rfl) rfl (by omega) (by simp [jj_rk]) (by simp [jj_rk]) ?_
    refine kr (d + 1) 0 0 g' _ (fun h2 i2 t2 => ?_)
    show jj_R (mLw len xs) (d + 66) _ _ (jj_S, 782, h2, g') 2581 [(0, .ref 999998), (1, .ref 0), (2, .ref 49), (3, .ref 781), (4, .int (nI p)), (5, .int cd)] [.int v] Q
    refine rr_istore [(0, .ref 999998), (1, .ref 0), (2, .ref 49), (3, .ref 781), (4, .int (nI p)), (5, .int cd), (6, .int v)] dL_law__2581 (Nat.le_of_ble_eq_true rfl) rfl ?_
    refine rr_aload_n 2 rfl rfl dL_law__2583 ?_
    refine rr_callV (As := []) (rest := []) (kc2 := 0) (ks2 := 0) dL_law__2584 okX10_thrown lL_141 lo_49 sh_49 rfl rfl (Nat.le_of_ble_eq_true rfl) (Nat.le_of_ble_eq_true rfl) rfl (by omega) (by simp [jj_rk]) (by simp [jj_rk]) ?_
    refine sp_X10_thrown (d := d + 65) ?_
    show jj_R (mLw len xs) (d + 66) _ _ (jj_S, 782, h2, g') 2587 [(0, .ref 999998), (1, .ref 0), (2, .ref 49), (3, .ref 781), (4, .int (nI p)), (5, .int cd), (6, .int v)] [.int (h2 49 0)] Q
    refine rr_iload 5 rfl dL_law__2587 ?_
    refine rr_icmp_eq dL_law__2589 (fun _ => ?_) (fun q => absurd (t2.trans hth) q)
    have fin : jj_R (mLw len xs) (d + 66) (kc + 4 - 4 - 0 - 0) (ks + 24 - 24 - 0 - 0) (jj_S, 782, h2, g') 2611 [(0, .ref 999998), (1, .ref 0), (2, .ref 49), (3, .ref 781), (4, .int (nI p)), (5, .int cd), (6, .int v)] [] Q := by
      refine rr_goto dL_law__2611 ?_
      refine rr_drop (ls := [(0, .ref 999998), (1, .ref 0), (2, .ref 49), (3, .ref 781), (4, .int (nI p))]) [0, 1, 2, 3, 4] rfl ?_
      exact k h2 g' i2
    refine rr_iload 5 rfl dL_law__2594 ?_
    refine rr_if_ne dL_law__2596 (fun _ => fin) (fun q => ?_)
    refine rr_aload_n 3 rfl rfl dL_law__2599 ?_
    refine rr_iconst 0 rfl dL_law__2600 ?_
    refine rr_laload dL_law__2601 lo_781 sh_781 vp01 ?_
    refine rr_iload 6 rfl dL_law__2602 ?_
    refine rr_i2l dL_law__2604 ?_
    refine rr_lcmp dL_law__2605 ?_
    refine rr_if_eq dL_law__2606 (fun _ => fin) (fun z => absurd (by rw [hg q]; exact lg_same _) z)
  rcases lk with ⟨rfl, rfl⟩ | ⟨b0, rfl, rfl⟩ | ⟨b0, rfl, rfl⟩
  · exact ⟨h1, g, rfl, Or.inl ⟨v, rfl, tail 0 _ (fun _ => u3_out) rfl⟩⟩
  · cases b0
  · exact ⟨h1, g, rfl, Or.inr (Or.inr ⟨rfl, rfl, tail _ g (fun z => absurd z (by decide)) rfl⟩)⟩
set_option maxHeartbeats 1000000 in
theorem ca_span {len p d kc ks : Nat} {xs : Nat → Int32} {h : hp_} {g : Nat → Nat → Int64} {Q : jj_Rs → jj_St → Prop} (hl : len < 2 ^ 31) (hp : p + 9 ≤ len) (I : IVx h) (k : ∀ h2 g2, IVx h2 → jj_R (mLw len xs) (d + 66) kc ks (jj_S, 782, h2, g2) 2808 [(0, .ref 999998), (1, .ref 0), (2, .ref 49), (3, .ref 781), (4, .int (nI p))] [] Q) : jj_R (mLw len xs) (d + 66) (kc + 4) (ks + 24) (jj_S, 782, h, g) 2614 [(0, .ref 999998), (1, .ref 0), (2, .ref 49), (3, .ref 781), (4, .int (nI p))] [] Q := by
  obtain ⟨_, _, _, _, _, _, _, I⟩ := I
  refine rr_aload_n 1 rfl rfl dL_law__2614 ?_
  refine rr_aload_n 0 rfl rfl dL_law__2615 ?_
  refine rr_iload 4 rfl dL_law__2616 ?_
  refine rr_iconst 1 rfl dL_law__2618 ?_
  refine rr_iadd dL_law__2619 ?_
  refine rr_siaload (len := len) (xs := xs) rfl dL_law__2620 (sc_in (j := 1) hl hp rfl (by decide)) ?_
  refine rr_aload_n 0 rfl rfl dL_law__2621 ?_
  refine rr_iload 4 rfl dL_law__2622 ?_
  refine rr_iconst 2 rfl dL_law__2624 ?_
  refine rr_iadd dL_law__2625 ?_
  refine rr_siaload (len := len) (xs := xs) rfl dL_law__2626 (sc_in (j := 2) hl hp rfl (by decide)) ?_
  refine rr_aload_n 0 rfl rfl dL_law__2627 ?_
  refine rr_iload 4 rfl dL_law__2628 ?_
  refine rr_iconst 3 rfl dL_law__2630 ?_
  refine rr_iadd dL_law__2631 ?_
  refine rr_siaload (len := len) (xs := xs) rfl dL_law__2632 (sc_in (j := 3) hl hp rfl (by decide)) ?_
  refine rr_aload_n 0 rfl rfl dL_law__2633 ?_
  refine rr_iload 4 rfl dL_law__2634 ?_
  refine rr_iconst 4 rfl dL_law__2636 ?_
  refine rr_iadd dL_law__2637 ?_
  refine rr_siaload (len := len) (xs := xs) rfl dL_law__2638 (sc_in (j := 4) hl hp rfl (by decide)) ?_
  refine rr_aload_n 0 rfl rfl dL_law__2639 ?_
  refine rr_iload 4 rfl dL_law__2640 ?_
  refine rr_iconst 5 rfl dL_law__2642 ?_
  refine rr_iadd dL_law__2643 ?_
  refine rr_siaload (len := len) (xs := xs) rfl dL_law__2644 (sc_in (j := 5) hl hp rfl (by decide)) ?_
  refine rr_aload_n 0 rfl rfl dL_law__2645 ?_
  refine rr_iload 4 rfl dL_law__2646 ?_
  refine rr_bipush 6 rfl dL_law__2648 ?_
  refine rr_iadd dL_law__2650 ?_
  refine rr_siaload (len := len) (xs := xs) rfl dL_law__2651 (sc_in (j := 6) hl hp rfl (by decide)) ?_
  refine rr_aload_n 3 rfl rfl dL_law__2652 ?_
  obtain ⟨mid, k1, k2⟩ := dual_2 (du_span I (xs (nI p + 1).toNatClampNeg) (xs (nI p + 2).toNatClampNeg) (xs (nI p + 3).toNatClampNeg) (xs (nI p + 4).toNatClampNeg) (xs (nI p + 5).toNatClampNeg) (xs (nI p + 6).toNatClampNeg))
  refine rr_callSW (As := [.ref 0, .int (xs (nI p + 1).toNatClampNeg), .int (xs (nI p + 2).toNatClampNeg), .int (xs (nI p + 3).toNatClampNeg), .int (xs (nI p + 4).toNatClampNeg), .int (xs (nI p + 5).toNatClampNeg), .int (xs (nI p + 6).toNatClampNeg), .ref 781]) (rest := []) (kc2 := 4) (ks2 := 24) dL_law__2653 okL_span lL_268 rfl (Nat.le_of_ble_eq_true rfl) (Nat.le_of_ble_eq_true rfl) rfl (by omega) (by simp [jj_rk]) (by simp [jj_rk]) ?_
  refine w_span (fun Q2 hq => k1 (d + 24) 0 0 g Q2 (fun r h1 mm => hq r _ ?_))
  obtain ⟨v, th, lk, kr⟩ := k2 r h1 mm
  have tail : ∀ (cd : Int32) (g' : Nat → Nat → Int64), (cd = 0 → g' 781 (0 : Int32).toNatClampNeg = v.toInt64) → th = cd → jj_R (mLw len xs) (d + 66) (kc + 4 - 4) (ks + 24 - 24) (jj_S, 782, h1, g') 2656 [(0, .ref 999998), (1, .ref 0), (2, .ref 49), (3, .ref 781), (4, .int (nI p))] [.int cd] Q := fun cd g' hg hth => by
    refine rr_istore [(0, .ref 999998), (1, .ref 0), (2, .ref 49), (3, .ref 781), (4, .int (nI p)), (5, .int cd)] dL_law__2656 (Nat.le_of_ble_eq_true rfl) rfl ?_
    refine rr_aload_n 2 rfl rfl dL_law__2658 ?_
    refine rr_aload_n 0 rfl rfl dL_law__2659 ?_
    refine rr_iload 4 rfl dL_law__2660 ?_
    refine rr_iconst 1 rfl dL_law__2662 ?_
    refine rr_iadd dL_law__2663 ?_
    refine rr_siaload (len := len) (xs := xs) rfl dL_law__2664 (sc_in (j := 1) hl hp rfl (by decide)) ?_
    refine rr_aload_n 0 rfl rfl dL_law__2665 ?_
    refine rr_iload 4 rfl dL_law__2666 ?_
    refine rr_iconst 2 rfl dL_law__2668 ?_
    refine rr_iadd dL_law__2669 ?_
    refine rr_siaload (len := len) (xs := xs) rfl dL_law__2670 (sc_in (j := 2) hl hp rfl (by decide)) ?_
    refine rr_aload_n 0 rfl rfl dL_law__2671 ?_
    refine rr_iload 4 rfl dL_law__2672 ?_
    refine rr_iconst 3 rfl dL_law__2674 ?_
    refine rr_iadd dL_law__2675 ?_
    refine rr_siaload (len := len) (xs := xs) rfl dL_law__2676 (sc_in (j := 3) hl hp rfl (by decide)) ?_
    refine rr_aload_n 0 rfl rfl dL_law__2677 ?_
    refine rr_iload 4 rfl dL_law__2678 ?_
    refine rr_iconst 4 rfl dL_law__2680 ?_
    refine rr_iadd dL_law__2681 ?_
    refine rr_siaload (len := len) (xs := xs) rfl dL_law__2682 (sc_in (j := 4) hl hp rfl (by decide)) ?_
    refine rr_aload_n 0 rfl rfl dL_law__2683 ?_
    refine rr_iload 4 rfl dL_law__2684 ?_
    refine rr_iconst 5 rfl dL_law__2686 ?_
    refine rr_iadd dL_law__2687 ?_
    refine rr_siaload (len := len) (xs := xs) rfl dL_law__2688 (sc_in (j := 5) hl hp rfl (by decide)) ?_
    refine rr_aload_n 0 rfl rfl dL_law__2689 ?_
    refine rr_iload 4 rfl dL_law__2690 ?_
    refine rr_bipush 6 rfl dL_law__2692 ?_
    refine rr_iadd dL_law__2694 ?_
    refine rr_siaload (len := len) (xs := xs) rfl dL_law__2695 (sc_in (j := 6) hl hp rfl (by decide)) ?_
    refine rr_callV (As := [.int (xs (nI p + 1).toNatClampNeg), .int (xs (nI p + 2).toNatClampNeg), .int (xs (nI p + 3).toNatClampNeg), .int (xs (nI p + 4).toNatClampNeg), .int (xs (nI p + 5).toNatClampNeg), .int (xs (nI p + 6).toNatClampNeg)]) (rest := []) (kc2 := 0) (ks2 := 0) dL_law__2696 okX10_span lL_271 lo_49 sh_49 rfl rfl (Nat.le_of_ble_eq_true rfl) (Nat.le_of_ble_eq_true rfl) rfl (by omega) (by simp [jj_rk]) (by simp [jj_rk]) ?_
    refine kr (d + 1) 0 0 g' _ (fun h2 i2 t2 => ?_)
    show jj_R (mLw len xs) (d + 66) _ _ (jj_S, 782, h2, g') 2699 [(0, .ref 999998), (1, .ref 0), (2, .ref 49), (3, .ref 781), (4, .int (nI p)), (5, .int cd)] [.int v] Q
    refine rr_istore [(0, .ref 999998), (1, .ref 0), (2, .ref 49), (3, .ref 781), (4, .int (nI p)), (5, .int cd), (6, .int v)] dL_law__2699 (Nat.le_of_ble_eq_true rfl) rfl ?_
    refine rr_aload_n 2 rfl rfl dL_law__2701 ?_
    refine rr_callV (As := []) (rest := []) (kc2 := 0) (ks2 := 0) dL_law__2702 okX10_thrown lL_141 lo_49 sh_49 rfl rfl (Nat.le_of_ble_eq_true rfl) (Nat.le_of_ble_eq_true rfl) rfl (by omega) (by simp [jj_rk]) (by simp [jj_rk]) ?_
    refine sp_X10_thrown (d := d + 65) ?_
    show jj_R (mLw len xs) (d + 66) _ _ (jj_S, 782, h2, g') 2705 [(0, .ref 999998), (1, .ref 0), (2, .ref 49), (3, .ref 781), (4, .int (nI p)), (5, .int cd), (6, .int v)] [.int (h2 49 0)] Q
    refine rr_iload 5 rfl dL_law__2705 ?_
    refine rr_icmp_eq dL_law__2707 (fun _ => ?_) (fun q => absurd (t2.trans hth) q)
    have fin : jj_R (mLw len xs) (d + 66) (kc + 4 - 4 - 0 - 0) (ks + 24 - 24 - 0 - 0) (jj_S, 782, h2, g') 2729 [(0, .ref 999998), (1, .ref 0), (2, .ref 49), (3, .ref 781), (4, .int (nI p)), (5, .int cd), (6, .int v)] [] Q := by
      refine rr_goto dL_law__2729 ?_
      refine rr_drop (ls := [(0, .ref 999998), (1, .ref 0), (2, .ref 49), (3, .ref 781), (4, .int (nI p))]) [0, 1, 2, 3, 4] rfl ?_
      exact k h2 g' i2
    refine rr_iload 5 rfl dL_law__2712 ?_
    refine rr_if_ne dL_law__2714 (fun _ => fin) (fun q => ?_)
    refine rr_aload_n 3 rfl rfl dL_law__2717 ?_
    refine rr_iconst 0 rfl dL_law__2718 ?_
    refine rr_laload dL_law__2719 lo_781 sh_781 vp01 ?_
    refine rr_iload 6 rfl dL_law__2720 ?_
    refine rr_i2l dL_law__2722 ?_
    refine rr_lcmp dL_law__2723 ?_
    refine rr_if_eq dL_law__2724 (fun _ => fin) (fun z => absurd (by rw [hg q]; exact lg_same _) z)
  rcases lk with ⟨rfl, rfl⟩ | ⟨b0, rfl, rfl⟩ | ⟨b0, rfl, rfl⟩
  · exact ⟨h1, g, rfl, Or.inl ⟨v, rfl, tail 0 _ (fun _ => u3_out) rfl⟩⟩
  · cases b0
  · exact ⟨h1, g, rfl, Or.inr (Or.inr ⟨rfl, rfl, tail _ g (fun z => absurd z (by decide)) rfl⟩)⟩
set_option maxHeartbeats 1000000 in
theorem ca_kneel {len p d kc ks : Nat} {xs : Nat → Int32} {h : hp_} {g : Nat → Nat → Int64} {Q : jj_Rs → jj_St → Prop} (hl : len < 2 ^ 31) (hp : p + 9 ≤ len) (I : IVx h) (k : ∀ h2 g2, IVx h2 → jj_R (mLw len xs) (d + 66) kc ks (jj_S, 782, h2, g2) 2808 [(0, .ref 999998), (1, .ref 0), (2, .ref 49), (3, .ref 781), (4, .int (nI p))] [] Q) : jj_R (mLw len xs) (d + 66) (kc + 4) (ks + 24) (jj_S, 782, h, g) 1244 [(0, .ref 999998), (1, .ref 0), (2, .ref 49), (3, .ref 781), (4, .int (nI p))] [] Q := by
  obtain ⟨_, _, _, _, _, _, _, I⟩ := I
  refine rr_aload_n 1 rfl rfl dL_law__1244 ?_
  refine rr_aload_n 0 rfl rfl dL_law__1245 ?_
  refine rr_iload 4 rfl dL_law__1246 ?_
  refine rr_iconst 1 rfl dL_law__1248 ?_
  refine rr_iadd dL_law__1249 ?_
  refine rr_siaload (len := len) (xs := xs) rfl dL_law__1250 (sc_in (j := 1) hl hp rfl (by decide)) ?_
  refine rr_aload_n 3 rfl rfl dL_law__1251 ?_
  obtain ⟨mid, k1, k2⟩ := dual_2 (du_kneel I (xs (nI p + 1).toNatClampNeg))
  refine rr_callSW (As := [.ref 0, .int (xs (nI p + 1).toNatClampNeg), .ref 781]) (rest := []) (kc2 := 4) (ks2 := 24) dL_law__1252 okL_kneel lL_192 rfl (Nat.le_of_ble_eq_true rfl) (Nat.le_of_ble_eq_true rfl) rfl (by omega) (by simp [jj_rk]) (by simp [jj_rk]) ?_
  refine w_kneel (fun Q2 hq => k1 (d + 24) 0 0 g Q2 (fun r h1 mm => hq r _ ?_))
  obtain ⟨v, th, lk, kr⟩ := k2 r h1 mm
  have tail : ∀ (cd : Int32) (g' : Nat → Nat → Int64), (cd = 0 → g' 781 (0 : Int32).toNatClampNeg = v.toInt64) → th = cd → jj_R (mLw len xs) (d + 66) (kc + 4 - 4) (ks + 24 - 24) (jj_S, 782, h1, g') 1255 [(0, .ref 999998), (1, .ref 0), (2, .ref 49), (3, .ref 781), (4, .int (nI p))] [.int cd] Q := fun cd g' hg hth => by
    refine rr_istore [(0, .ref 999998), (1, .ref 0), (2, .ref 49), (3, .ref 781), (4, .int (nI p)), (5, .int cd)] dL_law__1255 (Nat.le_of_ble_eq_true rfl) rfl ?_
    refine rr_aload_n 2 rfl rfl dL_law__1257 ?_
    refine rr_aload_n 0 rfl rfl dL_law__1258 ?_
    refine rr_iload 4 rfl dL_law__1259 ?_
    refine rr_iconst 1 rfl dL_law__1261 ?_
    refine rr_iadd dL_law__1262 ?_
    refine rr_siaload (len := len) (xs := xs) rfl dL_law__1263 (sc_in (j := 1) hl hp rfl (by decide)) ?_
    refine rr_callV (As := [.int (xs (nI p + 1).toNatClampNeg)]) (rest := []) (kc2 := 0) (ks2 := 0) dL_law__1264 okX10_kneel lL_194 lo_49 sh_49 rfl rfl (Nat.le_of_ble_eq_true rfl) (Nat.le_of_ble_eq_true rfl) rfl (by omega) (by simp [jj_rk]) (by simp [jj_rk]) ?_
    refine kr (d + 1) 0 0 g' _ (fun h2 i2 t2 => ?_)
    show jj_R (mLw len xs) (d + 66) _ _ (jj_S, 782, h2, g') 1267 [(0, .ref 999998), (1, .ref 0), (2, .ref 49), (3, .ref 781), (4, .int (nI p)), (5, .int cd)] [.int v] Q
    refine rr_istore [(0, .ref 999998), (1, .ref 0), (2, .ref 49), (3, .ref 781), (4, .int (nI p)), (5, .int cd), (6, .int v)] dL_law__1267 (Nat.le_of_ble_eq_true rfl) rfl ?_
    refine rr_aload_n 2 rfl rfl dL_law__1269 ?_
    refine rr_callV (As := []) (rest := []) (kc2 := 0) (ks2 := 0) dL_law__1270 okX10_thrown lL_141 lo_49 sh_49 rfl rfl (Nat.le_of_ble_eq_true rfl) (Nat.le_of_ble_eq_true rfl) rfl (by omega) (by simp [jj_rk]) (by simp [jj_rk]) ?_
    refine sp_X10_thrown (d := d + 65) ?_
    show jj_R (mLw len xs) (d + 66) _ _ (jj_S, 782, h2, g') 1273 [(0, .ref 999998), (1, .ref 0), (2, .ref 49), (3, .ref 781), (4, .int (nI p)), (5, .int cd), (6, .int v)] [.int (h2 49 0)] Q
    refine rr_iload 5 rfl dL_law__1273 ?_
    refine rr_icmp_eq dL_law__1275 (fun _ => ?_) (fun q => absurd (t2.trans hth) q)
    have fin : jj_R (mLw len xs) (d + 66) (kc + 4 - 4 - 0 - 0) (ks + 24 - 24 - 0 - 0) (jj_S, 782, h2, g') 1297 [(0, .ref 999998), (1, .ref 0), (2, .ref 49), (3, .ref 781), (4, .int (nI p)), (5, .int cd), (6, .int v)] [] Q := by
      refine rr_goto dL_law__1297 ?_
      refine rr_drop (ls := [(0, .ref 999998), (1, .ref 0), (2, .ref 49), (3, .ref 781), (4, .int (nI p))]) [0, 1, 2, 3, 4] rfl ?_
      exact k h2 g' i2
    refine rr_iload 5 rfl dL_law__1280 ?_
    refine rr_if_ne dL_law__1282 (fun _ => fin) (fun q => ?_)
    refine rr_aload_n 3 rfl rfl dL_law__1285 ?_
    refine rr_iconst 0 rfl dL_law__1286 ?_
    refine rr_laload dL_law__1287 lo_781 sh_781 vp01 ?_
    refine rr_iload 6 rfl dL_law__1288 ?_
    refine rr_i2l dL_law__1290 ?_
    refine rr_lcmp dL_law__1291 ?_
    refine rr_if_eq dL_law__1292 (fun _ => fin) (fun z => absurd (by rw [hg q]; exact lg_same _) z)
  rcases lk with ⟨rfl, rfl⟩ | ⟨b0, rfl, rfl⟩ | ⟨b0, rfl, rfl⟩
  · exact ⟨h1, g, rfl, Or.inl ⟨v, rfl, tail 0 _ (fun _ => u3_out) rfl⟩⟩
  · cases b0
  · exact ⟨h1, g, rfl, Or.inr (Or.inr ⟨rfl, rfl, tail _ g (fun z => absurd z (by decide)) rfl⟩)⟩
set_option maxHeartbeats 1000000 in
theorem ca_kneels {len p d kc ks : Nat} {xs : Nat → Int32} {h : hp_} {g : Nat → Nat → Int64} {Q : jj_Rs → jj_St → Prop} (hl : len < 2 ^ 31) (hp : p + 9 ≤ len) (I : IVx h) (k : ∀ h2 g2, IVx h2 → jj_R (mLw len xs) (d + 66) kc ks (jj_S, 782, h2, g2) 2808 [(0, .ref 999998), (1, .ref 0), (2, .ref 49), (3, .ref 781), (4, .int (nI p))] [] Q) : jj_R (mLw len xs) (d + 66) (kc + 4) (ks + 24) (jj_S, 782, h, g) 1300 [(0, .ref 999998), (1, .ref 0), (2, .ref 49), (3, .ref 781), (4, .int (nI p))] [] Q := by
  obtain ⟨_, _, _, _, _, _, _, I⟩ := I
  refine rr_aload_n 1 rfl rfl dL_law__1300 ?_
  refine rr_aload_n 0 rfl rfl dL_law__1301 ?_
  refine rr_iload 4 rfl dL_law__1302 ?_
  refine rr_iconst 1 rfl dL_law__1304 ?_
  refine rr_iadd dL_law__1305 ?_
  refine rr_siaload (len := len) (xs := xs) rfl dL_law__1306 (sc_in (j := 1) hl hp rfl (by decide)) ?_
  refine rr_aload_n 3 rfl rfl dL_law__1307 ?_
  obtain ⟨mid, k1, k2⟩ := dual_2 (du_kneels I (xs (nI p + 1).toNatClampNeg))
  refine rr_callSW (As := [.ref 0, .int (xs (nI p + 1).toNatClampNeg), .ref 781]) (rest := []) (kc2 := 4) (ks2 := 24) dL_law__1308 okL_kneels lL_195 rfl (Nat.le_of_ble_eq_true rfl) (Nat.le_of_ble_eq_true rfl) rfl (by omega) (by simp [jj_rk]) (by simp [jj_rk]) ?_
  refine w_kneels (fun Q2 hq => k1 (d + 24) 0 0 g Q2 (fun r h1 mm => hq r _ ?_))
  obtain ⟨v, th, lk, kr⟩ := k2 r h1 mm
  have tail : ∀ (cd : Int32) (g' : Nat → Nat → Int64), (cd = 0 → g' 781 (0 : Int32).toNatClampNeg = v.toInt64) → th = cd → jj_R (mLw len xs) (d + 66) (kc + 4 - 4) (ks + 24 - 24) (jj_S, 782, h1, g') 1311 [(0, .ref 999998), (1, .ref 0), (2, .ref 49), (3, .ref 781), (4, .int (nI p))] [.int cd] Q := fun cd g' hg hth => by
    refine rr_istore [(0, .ref 999998), (1, .ref 0), (2, .ref 49), (3, .ref 781), (4, .int (nI p)), (5, .int cd)] dL_law__1311 (Nat.le_of_ble_eq_true rfl) rfl ?_
    refine rr_aload_n 2 rfl rfl dL_law__1313 ?_
    refine rr_aload_n 0 rfl rfl dL_law__1314 ?_
    refine rr_iload 4 rfl dL_law__1315 ?_
    refine rr_iconst 1 rfl dL_law__1317 ?_
    refine rr_iadd dL_law__1318 ?_
    refine rr_siaload (len := len) (xs := xs) rfl dL_law__1319 (sc_in (j := 1) hl hp rfl (by decide)) ?_
    refine rr_callV (As := [.int (xs (nI p + 1).toNatClampNeg)]) (rest := []) (kc2 := 0) (ks2 := 0) dL_law__1320 okX10_kneels lL_197 lo_49 sh_49 rfl rfl (Nat.le_of_ble_eq_true rfl) (Nat.le_of_ble_eq_true rfl) rfl (by omega) (by simp [jj_rk]) (by simp [jj_rk]) ?_
    refine kr (d + 1) 0 0 g' _ (fun h2 i2 t2 => ?_)
    show jj_R (mLw len xs) (d + 66) _ _ (jj_S, 782, h2, g') 1323 [(0, .ref 999998), (1, .ref 0), (2, .ref 49), (3, .ref 781), (4, .int (nI p)), (5, .int cd)] [.int v] Q
    refine rr_istore [(0, .ref 999998), (1, .ref 0), (2, .ref 49), (3, .ref 781), (4, .int (nI p)), (5, .int cd), (6, .int v)] dL_law__1323 (Nat.le_of_ble_eq_true rfl) rfl ?_
    refine rr_aload_n 2 rfl rfl dL_law__1325 ?_
    refine rr_callV (As := []) (rest := []) (kc2 := 0) (ks2 := 0) dL_law__1326 okX10_thrown lL_141 lo_49 sh_49 rfl rfl (Nat.le_of_ble_eq_true rfl) (Nat.le_of_ble_eq_true rfl) rfl (by omega) (by simp [jj_rk]) (by simp [jj_rk]) ?_
    refine sp_X10_thrown (d := d + 65) ?_
    show jj_R (mLw len xs) (d + 66) _ _ (jj_S, 782, h2, g') 1329 [(0, .ref 999998), (1, .ref 0), (2, .ref 49), (3, .ref 781), (4, .int (nI p)), (5, .int cd), (6, .int v)] [.int (h2 49 0)] Q
    refine rr_iload 5 rfl dL_law__1329 ?_
    refine rr_icmp_eq dL_law__1331 (fun _ => ?_) (fun q => absurd (t2.trans hth) q)
    have fin : jj_R (mLw len xs) (d + 66) (kc + 4 - 4 - 0 - 0) (ks + 24 - 24 - 0 - 0) (jj_S, 782, h2, g') 1353 [(0, .ref 999998), (1, .ref 0), (2, .ref 49), (3, .ref 781), (4, .int (nI p)), (5, .int cd), (6, .int v)] [] Q := by
      refine rr_goto dL_law__1353 ?_
      refine rr_drop (ls := [(0, .ref 999998), (1, .ref 0), (2, .ref 49), (3, .ref 781), (4, .int (nI p))]) [0, 1, 2, 3, 4] rfl ?_
      exact k h2 g' i2
    refine rr_iload 5 rfl dL_law__1336 ?_
    refine rr_if_ne dL_law__1338 (fun _ => fin) (fun q => ?_)
    refine rr_aload_n 3 rfl rfl dL_law__1341 ?_
    refine rr_iconst 0 rfl dL_law__1342 ?_
    refine rr_laload dL_law__1343 lo_781 sh_781 vp01 ?_
    refine rr_iload 6 rfl dL_law__1344 ?_
    refine rr_i2l dL_law__1346 ?_
    refine rr_lcmp dL_law__1347 ?_
    refine rr_if_eq dL_law__1348 (fun _ => fin) (fun z => absurd (by rw [hg q]; exact lg_same _) z)
  rcases lk with ⟨rfl, rfl⟩ | ⟨b0, rfl, rfl⟩ | ⟨b0, rfl, rfl⟩
  · exact ⟨h1, g, rfl, Or.inl ⟨v, rfl, tail 0 _ (fun _ => u3_out) rfl⟩⟩
  · exact ⟨h1, g, rfl, Or.inr (Or.inl ⟨rfl, rfl, tail 1 g (fun z => absurd z (by decide)) rfl⟩)⟩
  · cases b0
