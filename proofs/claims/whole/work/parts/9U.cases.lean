/-! ===== the cases of can and dry ===== -/
set_option maxHeartbeats 1000000 in
theorem ca_can {len p d kc ks : Nat} {xs : Nat → Int32} {h : hp_} {g : Nat → Nat → Int64} {Q : jj_Rs → jj_St → Prop} (hl : len < 2 ^ 31) (hp : p + 9 ≤ len) (I : IVx h) (k : ∀ h2 g2, IVx h2 → jj_R (mLw len xs) (d + 66) kc ks (jj_S, 782, h2, g2) 2808 [(0, .ref 999998), (1, .ref 0), (2, .ref 49), (3, .ref 781), (4, .int (nI p))] [] Q) : jj_R (mLw len xs) (d + 66) (kc + 4) (ks + 24) (jj_S, 782, h, g) 909 [(0, .ref 999998), (1, .ref 0), (2, .ref 49), (3, .ref 781), (4, .int (nI p))] [] Q := by
  obtain ⟨_, _, _, _, _, _, _, I⟩ := I
  refine rr_aload_n 1 rfl rfl dL_law__909 ?_
  refine rr_aload_n 0 rfl rfl dL_law__910 ?_
  refine rr_iload 4 rfl dL_law__911 ?_
  refine rr_iconst 1 rfl dL_law__913 ?_
  refine rr_iadd dL_law__914 ?_
  refine rr_siaload (len := len) (xs := xs) rfl dL_law__915 (sc_in (j := 1) hl hp rfl (by decide)) ?_
  refine rr_aload_n 0 rfl rfl dL_law__916 ?_
  refine rr_iload 4 rfl dL_law__917 ?_
  refine rr_iconst 2 rfl dL_law__919 ?_
  refine rr_iadd dL_law__920 ?_
  refine rr_siaload (len := len) (xs := xs) rfl dL_law__921 (sc_in (j := 2) hl hp rfl (by decide)) ?_
  refine rr_aload_n 3 rfl rfl dL_law__922 ?_
  obtain ⟨mid, k1, k2⟩ := dual_2 (du_can I (xs (nI p + 1).toNatClampNeg) (xs (nI p + 2).toNatClampNeg))
  refine rr_callSW (As := [.ref 0, .int (xs (nI p + 1).toNatClampNeg), .int (xs (nI p + 2).toNatClampNeg), .ref 781]) (rest := []) (kc2 := 4) (ks2 := 24) dL_law__923 okL_can lL_177 rfl (Nat.le_of_ble_eq_true rfl) (Nat.le_of_ble_eq_true rfl) rfl (by omega) (by simp [jj_rk]) (by simp [jj_rk]) ?_
  refine w_can (fun Q2 hq => k1 (d + 24) 0 0 g Q2 (fun r h1 mm => hq r _ ?_))
  obtain ⟨v, th, lk, kr⟩ := k2 r h1 mm
  have tail : ∀ (cd : Int32) (g' : Nat → Nat → Int64), (cd = 0 → g' 781 (0 : Int32).toNatClampNeg = (if v = 0 then 0 else 1)) → th = cd → jj_R (mLw len xs) (d + 66) (kc + 4 - 4) (ks + 24 - 24) (jj_S, 782, h1, g') 926 [(0, .ref 999998), (1, .ref 0), (2, .ref 49), (3, .ref 781), (4, .int (nI p))] [.int cd] Q := fun cd g' hg hth => by
    refine rr_istore [(0, .ref 999998), (1, .ref 0), (2, .ref 49), (3, .ref 781), (4, .int (nI p)), (5, .int cd)] dL_law__926 (Nat.le_of_ble_eq_true rfl) rfl ?_
    refine rr_aload_n 2 rfl rfl dL_law__928 ?_
    refine rr_aload_n 0 rfl rfl dL_law__929 ?_
    refine rr_iload 4 rfl dL_law__930 ?_
    refine rr_iconst 1 rfl dL_law__932 ?_
    refine rr_iadd dL_law__933 ?_
    refine rr_siaload (len := len) (xs := xs) rfl dL_law__934 (sc_in (j := 1) hl hp rfl (by decide)) ?_
    refine rr_aload_n 0 rfl rfl dL_law__935 ?_
    refine rr_iload 4 rfl dL_law__936 ?_
    refine rr_iconst 2 rfl dL_law__938 ?_
    refine rr_iadd dL_law__939 ?_
    refine rr_siaload (len := len) (xs := xs) rfl dL_law__940 (sc_in (j := 2) hl hp rfl (by decide)) ?_
    refine rr_callV (As := [.int (xs (nI p + 1).toNatClampNeg), .int (xs (nI p + 2).toNatClampNeg)]) (rest := []) (kc2 := 0) (ks2 := 0) dL_law__941 okX10_can lL_179 lo_49 sh_49 rfl rfl (Nat.le_of_ble_eq_true rfl) (Nat.le_of_ble_eq_true rfl) rfl (by omega) (by simp [jj_rk]) (by simp [jj_rk]) ?_
    refine kr (d + 1) 0 0 g' _ (fun h2 i2 t2 => ?_)
    show jj_R (mLw len xs) (d + 66) _ _ (jj_S, 782, h2, g') 944 [(0, .ref 999998), (1, .ref 0), (2, .ref 49), (3, .ref 781), (4, .int (nI p)), (5, .int cd)] [.int v] Q
    refine rr_istore [(0, .ref 999998), (1, .ref 0), (2, .ref 49), (3, .ref 781), (4, .int (nI p)), (5, .int cd), (6, .int v)] dL_law__944 (Nat.le_of_ble_eq_true rfl) rfl ?_
    refine rr_aload_n 2 rfl rfl dL_law__946 ?_
    refine rr_callV (As := []) (rest := []) (kc2 := 0) (ks2 := 0) dL_law__947 okX10_thrown lL_141 lo_49 sh_49 rfl rfl (Nat.le_of_ble_eq_true rfl) (Nat.le_of_ble_eq_true rfl) rfl (by omega) (by simp [jj_rk]) (by simp [jj_rk]) ?_
    refine sp_X10_thrown (d := d + 65) ?_
    show jj_R (mLw len xs) (d + 66) _ _ (jj_S, 782, h2, g') 950 [(0, .ref 999998), (1, .ref 0), (2, .ref 49), (3, .ref 781), (4, .int (nI p)), (5, .int cd), (6, .int v)] [.int (h2 49 0)] Q
    refine rr_iload 5 rfl dL_law__950 ?_
    refine rr_icmp_eq dL_law__952 (fun _ => ?_) (fun q => absurd (t2.trans hth) q)
    have fin : jj_R (mLw len xs) (d + 66) (kc + 4 - 4 - 0 - 0) (ks + 24 - 24 - 0 - 0) (jj_S, 782, h2, g') 981 [(0, .ref 999998), (1, .ref 0), (2, .ref 49), (3, .ref 781), (4, .int (nI p)), (5, .int cd), (6, .int v)] [] Q := by
      refine rr_goto dL_law__981 ?_
      refine rr_drop (ls := [(0, .ref 999998), (1, .ref 0), (2, .ref 49), (3, .ref 781), (4, .int (nI p))]) [0, 1, 2, 3, 4] rfl ?_
      exact k h2 g' i2
    refine rr_iload 5 rfl dL_law__957 ?_
    refine rr_if_ne dL_law__959 (fun _ => fin) (fun q => ?_)
    refine rr_aload_n 3 rfl rfl dL_law__962 ?_
    refine rr_iconst 0 rfl dL_law__963 ?_
    refine rr_laload dL_law__964 lo_781 sh_781 vp01 ?_
    refine rr_iload 6 rfl dL_law__965 ?_
    have lc : ∀ y : Int64, y = (if v = 0 then 0 else 1) → jj_R (mLw len xs) (d + 66) (kc + 4 - 4 - 0 - 0) (ks + 24 - 24 - 0 - 0) (jj_S, 782, h2, g') 975 [(0, .ref 999998), (1, .ref 0), (2, .ref 49), (3, .ref 781), (4, .int (nI p)), (5, .int cd), (6, .int v)] [.long y, .long (g' 781 (0 : Int32).toNatClampNeg)] Q := fun y ey => by
      refine rr_lcmp dL_law__975 ?_
      exact rr_if_eq dL_law__976 (fun _ => fin) (fun z => absurd (by rw [hg q, ey]; exact lg_same _) z)
    refine rr_if_eq dL_law__967 (fun z => ?_) (fun z => ?_)
    · refine rr_lconst 0 rfl dL_law__974 ?_
      exact lc 0 (by rw [if_pos z])
    · refine rr_lconst 1 rfl dL_law__970 ?_
      refine rr_goto dL_law__971 ?_
      exact lc 1 (by rw [if_neg z])
  rcases lk with ⟨rfl, rfl⟩ | ⟨b0, rfl, rfl⟩ | ⟨b0, rfl, rfl⟩
  · exact ⟨h1, g, rfl, Or.inl ⟨v, rfl, tail 0 _ (fun _ => u3_out) rfl⟩⟩
  · exact ⟨h1, g, rfl, Or.inr (⟨rfl, tail 1 g (fun z => absurd z (by decide)) rfl⟩)⟩
  · cases b0
set_option maxHeartbeats 1000000 in
theorem ca_dry {len p d kc ks : Nat} {xs : Nat → Int32} {h : hp_} {g : Nat → Nat → Int64} {Q : jj_Rs → jj_St → Prop} (hl : len < 2 ^ 31) (hp : p + 9 ≤ len) (I : IVx h) (k : ∀ h2 g2, IVx h2 → jj_R (mLw len xs) (d + 66) kc ks (jj_S, 782, h2, g2) 2808 [(0, .ref 999998), (1, .ref 0), (2, .ref 49), (3, .ref 781), (4, .int (nI p))] [] Q) : jj_R (mLw len xs) (d + 66) (kc + 4) (ks + 24) (jj_S, 782, h, g) 1616 [(0, .ref 999998), (1, .ref 0), (2, .ref 49), (3, .ref 781), (4, .int (nI p))] [] Q := by
  obtain ⟨_, _, _, _, _, _, _, I⟩ := I
  refine rr_aload_n 1 rfl rfl dL_law__1616 ?_
  refine rr_aload_n 0 rfl rfl dL_law__1617 ?_
  refine rr_iload 4 rfl dL_law__1618 ?_
  refine rr_iconst 1 rfl dL_law__1620 ?_
  refine rr_iadd dL_law__1621 ?_
  refine rr_siaload (len := len) (xs := xs) rfl dL_law__1622 (sc_in (j := 1) hl hp rfl (by decide)) ?_
  refine rr_aload_n 0 rfl rfl dL_law__1623 ?_
  refine rr_iload 4 rfl dL_law__1624 ?_
  refine rr_iconst 2 rfl dL_law__1626 ?_
  refine rr_iadd dL_law__1627 ?_
  refine rr_siaload (len := len) (xs := xs) rfl dL_law__1628 (sc_in (j := 2) hl hp rfl (by decide)) ?_
  refine rr_aload_n 0 rfl rfl dL_law__1629 ?_
  refine rr_iload 4 rfl dL_law__1630 ?_
  refine rr_iconst 3 rfl dL_law__1632 ?_
  refine rr_iadd dL_law__1633 ?_
  refine rr_siaload (len := len) (xs := xs) rfl dL_law__1634 (sc_in (j := 3) hl hp rfl (by decide)) ?_
  refine rr_aload_n 0 rfl rfl dL_law__1635 ?_
  refine rr_iload 4 rfl dL_law__1636 ?_
  refine rr_iconst 4 rfl dL_law__1638 ?_
  refine rr_iadd dL_law__1639 ?_
  refine rr_siaload (len := len) (xs := xs) rfl dL_law__1640 (sc_in (j := 4) hl hp rfl (by decide)) ?_
  refine rr_aload_n 3 rfl rfl dL_law__1641 ?_
  obtain ⟨r, v, th, mid, k1, k2, lk⟩ := (du_dry I (xs (nI p + 1).toNatClampNeg) (xs (nI p + 2).toNatClampNeg) (xs (nI p + 3).toNatClampNeg) (xs (nI p + 4).toNatClampNeg))
  refine rr_callSW (As := [.ref 0, .int (xs (nI p + 1).toNatClampNeg), .int (xs (nI p + 2).toNatClampNeg), .int (xs (nI p + 3).toNatClampNeg), .int (xs (nI p + 4).toNatClampNeg), .ref 781]) (rest := []) (kc2 := 4) (ks2 := 24) dL_law__1642 okL_dry lL_210 rfl (Nat.le_of_ble_eq_true rfl) (Nat.le_of_ble_eq_true rfl) rfl (by omega) (by simp [jj_rk]) (by simp [jj_rk]) ?_
  refine w_dry (fun Q2 hq => k1 (d + 24) 0 0 g Q2 (fun h1 mm => hq r _ ?_))
  have tail : ∀ (cd : Int32) (g' : Nat → Nat → Int64), (cd = 0 → g' 781 (0 : Int32).toNatClampNeg = v) → th = cd → jj_R (mLw len xs) (d + 66) (kc + 4 - 4) (ks + 24 - 24) (jj_S, 782, h1, g') 1645 [(0, .ref 999998), (1, .ref 0), (2, .ref 49), (3, .ref 781), (4, .int (nI p))] [.int cd] Q := fun cd g' hg hth => by
    refine rr_istore [(0, .ref 999998), (1, .ref 0), (2, .ref 49), (3, .ref 781), (4, .int (nI p)), (5, .int cd)] dL_law__1645 (Nat.le_of_ble_eq_true rfl) rfl ?_
    refine rr_aload_n 2 rfl rfl dL_law__1647 ?_
    refine rr_aload_n 0 rfl rfl dL_law__1648 ?_
    refine rr_iload 4 rfl dL_law__1649 ?_
    refine rr_iconst 1 rfl dL_law__1651 ?_
    refine rr_iadd dL_law__1652 ?_
    refine rr_siaload (len := len) (xs := xs) rfl dL_law__1653 (sc_in (j := 1) hl hp rfl (by decide)) ?_
    refine rr_aload_n 0 rfl rfl dL_law__1654 ?_
    refine rr_iload 4 rfl dL_law__1655 ?_
    refine rr_iconst 2 rfl dL_law__1657 ?_
    refine rr_iadd dL_law__1658 ?_
    refine rr_siaload (len := len) (xs := xs) rfl dL_law__1659 (sc_in (j := 2) hl hp rfl (by decide)) ?_
    refine rr_aload_n 0 rfl rfl dL_law__1660 ?_
    refine rr_iload 4 rfl dL_law__1661 ?_
    refine rr_iconst 3 rfl dL_law__1663 ?_
    refine rr_iadd dL_law__1664 ?_
    refine rr_siaload (len := len) (xs := xs) rfl dL_law__1665 (sc_in (j := 3) hl hp rfl (by decide)) ?_
    refine rr_aload_n 0 rfl rfl dL_law__1666 ?_
    refine rr_iload 4 rfl dL_law__1667 ?_
    refine rr_iconst 4 rfl dL_law__1669 ?_
    refine rr_iadd dL_law__1670 ?_
    refine rr_siaload (len := len) (xs := xs) rfl dL_law__1671 (sc_in (j := 4) hl hp rfl (by decide)) ?_
    refine rr_callV (As := [.int (xs (nI p + 1).toNatClampNeg), .int (xs (nI p + 2).toNatClampNeg), .int (xs (nI p + 3).toNatClampNeg), .int (xs (nI p + 4).toNatClampNeg)]) (rest := []) (kc2 := 0) (ks2 := 0) dL_law__1672 okX10_dry lL_213 lo_49 sh_49 rfl rfl (Nat.le_of_ble_eq_true rfl) (Nat.le_of_ble_eq_true rfl) rfl (by omega) (by simp [jj_rk]) (by simp [jj_rk]) ?_
    refine k2 (d + 1) 0 0 h1 g' _ mm (fun h2 g2 i2 t2 hg2 => ?_)
    show jj_R (mLw len xs) (d + 66) _ _ (jj_S, 782, h2, g2) 1675 [(0, .ref 999998), (1, .ref 0), (2, .ref 49), (3, .ref 781), (4, .int (nI p)), (5, .int cd)] [.long v] Q
    refine rr_lstore [(0, .ref 999998), (1, .ref 0), (2, .ref 49), (3, .ref 781), (4, .int (nI p)), (5, .int cd), (6, .long v)] dL_law__1675 (Nat.le_of_ble_eq_true rfl) rfl ?_
    refine rr_aload_n 2 rfl rfl dL_law__1677 ?_
    refine rr_callV (As := []) (rest := []) (kc2 := 0) (ks2 := 0) dL_law__1678 okX10_thrown lL_141 lo_49 sh_49 rfl rfl (Nat.le_of_ble_eq_true rfl) (Nat.le_of_ble_eq_true rfl) rfl (by omega) (by simp [jj_rk]) (by simp [jj_rk]) ?_
    refine sp_X10_thrown (d := d + 65) ?_
    show jj_R (mLw len xs) (d + 66) _ _ (jj_S, 782, h2, g2) 1681 [(0, .ref 999998), (1, .ref 0), (2, .ref 49), (3, .ref 781), (4, .int (nI p)), (5, .int cd), (6, .long v)] [.int (h2 49 0)] Q
    refine rr_iload 5 rfl dL_law__1681 ?_
    refine rr_icmp_eq dL_law__1683 (fun _ => ?_) (fun q => absurd (t2.trans hth) q)
    have fin : jj_R (mLw len xs) (d + 66) (kc + 4 - 4 - 0 - 0) (ks + 24 - 24 - 0 - 0) (jj_S, 782, h2, g2) 1704 [(0, .ref 999998), (1, .ref 0), (2, .ref 49), (3, .ref 781), (4, .int (nI p)), (5, .int cd), (6, .long v)] [] Q := by
      refine rr_goto dL_law__1704 ?_
      refine rr_drop (ls := [(0, .ref 999998), (1, .ref 0), (2, .ref 49), (3, .ref 781), (4, .int (nI p))]) [0, 1, 2, 3, 4] rfl ?_
      exact k h2 g2 i2
    refine rr_iload 5 rfl dL_law__1688 ?_
    refine rr_if_ne dL_law__1690 (fun _ => fin) (fun q => ?_)
    refine rr_aload_n 3 rfl rfl dL_law__1693 ?_
    refine rr_iconst 0 rfl dL_law__1694 ?_
    refine rr_laload dL_law__1695 lo_781 sh_781 vp01 ?_
    refine rr_lload 6 rfl dL_law__1696 ?_
    refine rr_lcmp dL_law__1698 ?_
    refine rr_if_eq dL_law__1699 (fun _ => fin) (fun z => absurd (by rw [hg2, hg q]; exact lg_same _) z)
  rcases lk with ⟨rfl, rfl⟩ | ⟨rfl, rfl⟩
  · exact ⟨h1, g, rfl, Or.inl ⟨v, rfl, tail 0 _ (fun _ => u3_out) rfl⟩⟩
  · exact ⟨h1, g, rfl, Or.inr (⟨rfl, tail _ g (fun z => absurd z (by decide)) rfl⟩)⟩
