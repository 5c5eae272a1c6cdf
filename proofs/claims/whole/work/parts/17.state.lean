def vX6_isCut_n (h : Nat → Nat → Int32) (p : Int32) : Int32 := (if ((h 38 2) &&& (1 <<< (p &&& 31))) = 0 then 0 else 1)
theorem vc_X6_isCut_n {h h2 : Nat → Nat → Int32} {p : Int32} (e38 : h2 38 = h 38) : vX6_isCut_n h2 p = vX6_isCut_n h p := by
  simp only [vX6_isCut_n, e38]
set_option maxHeartbeats 1000000 in
theorem sp_X6_isCut_n {d kc ks : Nat} {h : Nat → Nat → Int32} {g : Nat → Nat → Int64} {Q : jj_Rs → jj_St → Prop} {p : Int32} (kq : Q (.inl (some (.int (vX6_isCut_n h p)))) (jj_S, 782, h, g)) : jj_R mX6_isCut (d + 0) kc ks (jj_S, 782, h, g) 0 [(0, .ref 38), (1, .int p)] [] Q := by
  refine rr_aload_n 0 rfl rfl dX6_isCut_0 ?_
  refine rr_getI dX6_isCut_1 fX6_31 lo_38 sh_38 rfl ?_
  refine rr_iconst 1 rfl dX6_isCut_4 ?_
  refine rr_iload_n 1 rfl rfl dX6_isCut_5 ?_
  refine rr_ishl dX6_isCut_6 ?_
  refine rr_iand dX6_isCut_7 ?_
  refine rr_if_eq dX6_isCut_8 (fun c1 => ?_) (fun c1 => ?_)
  · skip
    refine rr_iconst 0 rfl dX6_isCut_15 ?_
    refine rr_nreturn dX6_isCut_16 rfl (by first | rfl | assumption) ?_
    simpa only [vX6_isCut_n, if_pos c1] using kq
  · skip
    refine rr_iconst 1 rfl dX6_isCut_11 ?_
    refine rr_goto dX6_isCut_12 ?_
    refine rr_nreturn dX6_isCut_16 rfl (by first | rfl | assumption) ?_
    simpa only [vX6_isCut_n, if_neg c1] using kq
def vX6_isLoose_n (h : Nat → Nat → Int32) (p : Int32) : Int32 := (if (h 40 (p : Int32).toNatClampNeg) = 0 then (if (vX6_isCut_n h p) = 0 then 1 else 0) else 0)
theorem vc_X6_isLoose_n {h h2 : Nat → Nat → Int32} {p : Int32} (e38 : h2 38 = h 38) (e40 : h2 40 = h 40) : vX6_isLoose_n h2 p = vX6_isLoose_n h p := by
  simp only [vX6_isLoose_n, e38, e40, vc_X6_isCut_n e38]
set_option maxHeartbeats 1000000 in
theorem sp_X6_isLoose_n {d kc ks : Nat} {h : Nat → Nat → Int32} {g : Nat → Nat → Int64} {Q : jj_Rs → jj_St → Prop} {p : Int32} (hp : vp_in p 8) (kq : Q (.inl (some (.int (vX6_isLoose_n h p)))) (jj_S, 782, h, g)) : jj_R mX6_isLoose (d + 1) kc ks (jj_S, 782, h, g) 0 [(0, .ref 38), (1, .int p)] [] Q := by
  refine rr_aload_n 0 rfl rfl dX6_isLoose_0 ?_
  refine rr_getR dX6_isLoose_1 fX6_15 lo_38 sh_38 rfl ?_
  refine rr_iload_n 1 rfl rfl dX6_isLoose_4 ?_
  refine rr_iaload dX6_isLoose_5 lo_40 sh_40 (by first | assumption | exact vp_in_nI (by omega) (by decide) | decide | omega | exact jj_inL rfl) ?_
  refine rr_if_ne dX6_isLoose_6 (fun c1 => ?_) (fun c1 => ?_)
  · skip
    refine rr_iconst 0 rfl dX6_isLoose_21 ?_
    refine rr_nreturn dX6_isLoose_22 rfl (by first | rfl | assumption) ?_
    simpa only [vX6_isLoose_n, if_neg c1] using kq
  · skip
    refine rr_aload_n 0 rfl rfl dX6_isLoose_9 ?_
    refine rr_iload_n 1 rfl rfl dX6_isLoose_10 ?_
    refine rr_callV (As := [.int p]) (rest := []) (kc2 := 0) (ks2 := 0) dX6_isLoose_11 okX6_isCut lX6_34 lo_38 sh_38 rfl rfl (Nat.le_of_ble_eq_true rfl) (Nat.le_of_ble_eq_true rfl) rfl (by omega) (by simp [jj_rk]) (by simp [jj_rk]) ?_
    refine sp_X6_isCut_n  ?_
    show jj_R _ _ kc ks (jj_S, 782, h, g) 14 [(0, .ref 38), (1, .int p)] [.int (vX6_isCut_n h p)] Q
    refine rr_if_ne dX6_isLoose_14 (fun c2 => ?_) (fun c2 => ?_)
    · skip
      refine rr_iconst 0 rfl dX6_isLoose_21 ?_
      refine rr_nreturn dX6_isLoose_22 rfl (by first | rfl | assumption) ?_
      simpa only [vX6_isLoose_n, if_pos c1, if_neg c2] using kq
    · skip
      refine rr_iconst 1 rfl dX6_isLoose_17 ?_
      refine rr_goto dX6_isLoose_18 ?_
      refine rr_nreturn dX6_isLoose_22 rfl (by first | rfl | assumption) ?_
      simpa only [vX6_isLoose_n, if_pos c1, if_pos c2] using kq
def vX6_mayTie_n (h : Nat → Nat → Int32) (a : Int32) (b : Int32) : Int32 := (if (vX6_isLoose_n h b) = 0 then 0 else (if a = b then 1 else (if (h 40 (a : Int32).toNatClampNeg) = 0 then 0 else 1)))
theorem vc_X6_mayTie_n {h h2 : Nat → Nat → Int32} {a : Int32} {b : Int32} (e38 : h2 38 = h 38) (e40 : h2 40 = h 40) : vX6_mayTie_n h2 a b = vX6_mayTie_n h a b := by
  simp only [vX6_mayTie_n, e38, e40, vc_X6_isLoose_n e38 e40]
set_option maxHeartbeats 1000000 in
theorem sp_X6_mayTie_n {d kc ks : Nat} {h : Nat → Nat → Int32} {g : Nat → Nat → Int64} {Q : jj_Rs → jj_St → Prop} {a : Int32} {b : Int32} (ha : vp_in a 8) (hb : vp_in b 8) (kq : Q (.inl (some (.int (vX6_mayTie_n h a b)))) (jj_S, 782, h, g)) : jj_R mX6_mayTie (d + 2) kc ks (jj_S, 782, h, g) 0 [(0, .ref 38), (1, .int a), (2, .int b)] [] Q := by
  refine rr_aload_n 0 rfl rfl dX6_mayTie_0 ?_
  refine rr_iload_n 2 rfl rfl dX6_mayTie_1 ?_
  refine rr_callV (As := [.int b]) (rest := []) (kc2 := 0) (ks2 := 0) dX6_mayTie_2 okX6_isLoose lX6_38 lo_38 sh_38 rfl rfl (Nat.le_of_ble_eq_true rfl) (Nat.le_of_ble_eq_true rfl) rfl (by omega) (by simp [jj_rk]) (by simp [jj_rk]) ?_
  refine sp_X6_isLoose_n (by first | assumption | exact vp_in_nI (by omega) (by decide) | decide | omega | exact jj_inL rfl) ?_
  show jj_R _ _ kc ks (jj_S, 782, h, g) 5 [(0, .ref 38), (1, .int a), (2, .int b)] [.int (vX6_isLoose_n h b)] Q
  refine rr_if_eq dX6_mayTie_5 (fun c1 => ?_) (fun c1 => ?_)
  · skip
    refine rr_iconst 0 rfl dX6_mayTie_26 ?_
    refine rr_nreturn dX6_mayTie_27 rfl (by first | rfl | assumption) ?_
    simpa only [vX6_mayTie_n, if_pos c1] using kq
  · skip
    refine rr_iload_n 1 rfl rfl dX6_mayTie_8 ?_
    refine rr_iload_n 2 rfl rfl dX6_mayTie_9 ?_
    refine rr_icmp_eq dX6_mayTie_10 (fun c2 => ?_) (fun c2 => ?_)
    · skip
      refine rr_iconst 1 rfl dX6_mayTie_22 ?_
      refine rr_goto dX6_mayTie_23 ?_
      refine rr_nreturn dX6_mayTie_27 rfl (by first | rfl | assumption) ?_
      simpa only [vX6_mayTie_n, if_neg c1, if_pos c2] using kq
    · skip
      refine rr_aload_n 0 rfl rfl dX6_mayTie_13 ?_
      refine rr_getR dX6_mayTie_14 fX6_15 lo_38 sh_38 rfl ?_
      refine rr_iload_n 1 rfl rfl dX6_mayTie_17 ?_
      refine rr_iaload dX6_mayTie_18 lo_40 sh_40 (by first | assumption | exact vp_in_nI (by omega) (by decide) | decide | omega | exact jj_inL rfl) ?_
      refine rr_if_eq dX6_mayTie_19 (fun c3 => ?_) (fun c3 => ?_)
      · skip
        refine rr_iconst 0 rfl dX6_mayTie_26 ?_
        refine rr_nreturn dX6_mayTie_27 rfl (by first | rfl | assumption) ?_
        simpa only [vX6_mayTie_n, if_neg c1, if_neg c2, if_pos c3] using kq
      · skip
        refine rr_iconst 1 rfl dX6_mayTie_22 ?_
        refine rr_goto dX6_mayTie_23 ?_
        refine rr_nreturn dX6_mayTie_27 rfl (by first | rfl | assumption) ?_
        simpa only [vX6_mayTie_n, if_neg c1, if_neg c2, if_neg c3] using kq
def vX6_behindOf_n (h : Nat → Nat → Int32) (p : Int32) : Int32 := ((h 38 0) - (h 39 (p : Int32).toNatClampNeg))
theorem vc_X6_behindOf_n {h h2 : Nat → Nat → Int32} {p : Int32} (e38 : h2 38 = h 38) (e39 : h2 39 = h 39) : vX6_behindOf_n h2 p = vX6_behindOf_n h p := by
  simp only [vX6_behindOf_n, e38, e39]
set_option maxHeartbeats 1000000 in
theorem sp_X6_behindOf_n {d kc ks : Nat} {h : Nat → Nat → Int32} {g : Nat → Nat → Int64} {Q : jj_Rs → jj_St → Prop} {p : Int32} (hp : vp_in p 8) (kq : Q (.inl (some (.int (vX6_behindOf_n h p)))) (jj_S, 782, h, g)) : jj_R mX6_behindOf (d + 0) kc ks (jj_S, 782, h, g) 0 [(0, .ref 38), (1, .int p)] [] Q := by
  refine rr_aload_n 0 rfl rfl dX6_behindOf_0 ?_
  refine rr_getI dX6_behindOf_1 fX6_24 lo_38 sh_38 rfl ?_
  refine rr_aload_n 0 rfl rfl dX6_behindOf_4 ?_
  refine rr_getR dX6_behindOf_5 fX6_9 lo_38 sh_38 rfl ?_
  refine rr_iload_n 1 rfl rfl dX6_behindOf_8 ?_
  refine rr_iaload dX6_behindOf_9 lo_39 sh_39 (by first | assumption | exact vp_in_nI (by omega) (by decide) | decide | omega | exact jj_inL rfl) ?_
  refine rr_isub dX6_behindOf_10 ?_
  refine rr_ireturn dX6_behindOf_11 rfl ?_
  simpa only [vX6_behindOf_n] using kq
def vX6_behindTogether_n (h : Nat → Nat → Int32) (n : Nat) : Int32 := (jj_fo (fun k1 a1 => (a1 + (vX6_behindOf_n h (nI k1)))) n 0)
theorem vc_X6_behindTogether_n {h h2 : Nat → Nat → Int32} {n : Nat} (e38 : h2 38 = h 38) (e39 : h2 39 = h 39) : vX6_behindTogether_n h2 n = vX6_behindTogether_n h n := by
  simp only [vX6_behindTogether_n, e38, e39, vc_X6_behindOf_n e38 e39]
set_option maxHeartbeats 1000000 in
theorem sp_X6_behindTogether_n {d kc ks : Nat} {h : Nat → Nat → Int32} {g : Nat → Nat → Int64} {Q : jj_Rs → jj_St → Prop} {n : Nat} (hn : n ≤ 8) (kq : Q (.inl (some (.int (vX6_behindTogether_n h n)))) (jj_S, 782, h, g)) : jj_R mX6_behindTogether (d + 1) kc ks (jj_S, 782, h, g) 0 [(0, .ref 38), (1, .int (nI n))] [] Q := by
  refine rr_iconst 0 rfl dX6_behindTogether_0 ?_
  refine rr_istore_n [(0, .ref 38), (1, .int (nI n)), (2, .int 0)] dX6_behindTogether_1 rfl (by decide) rfl ?_
  refine rr_iconst 0 rfl dX6_behindTogether_2 ?_
  refine rr_istore_n [(0, .ref 38), (1, .int (nI n)), (2, .int 0), (3, .int 0)] dX6_behindTogether_3 rfl (by decide) rfl ?_
  refine jj_for (fun k1 (a1 : Int32) => jj_R _ _ _ _ (jj_S, 782, h, g) 4 [(0, .ref 38), (1, .int (nI n)), (2, .int a1), (3, .int (nI k1))] [] Q) (fun k1 a1 => (a1 + (vX6_behindOf_n h (nI k1)))) n 0 ?_ ?_
  · intro k1 hk1 ih1
    generalize jj_fo _ k1 _ = a1 at ih1 ⊢
    try dsimp only at ih1 ⊢
    refine rr_iload_n 3 rfl rfl dX6_behindTogether_4 ?_
    refine rr_iload_n 1 rfl rfl dX6_behindTogether_5 ?_
    refine rr_icmp_ge dX6_behindTogether_6 (fun c => absurd c (nI_ge (a := k1) (b := n) (by omega) (by omega))) (fun _ => ?_)
    refine rr_iload_n 3 rfl rfl dX6_behindTogether_9 ?_
    refine rr_bipush 8 rfl dX6_behindTogether_10 ?_
    refine rr_icmp_ge dX6_behindTogether_12 (fun c => absurd c (nI_ge (a := k1) (b := 8) (by omega) (by omega))) (fun _ => ?_)
    refine rr_iload_n 2 rfl rfl dX6_behindTogether_15 ?_
    refine rr_aload_n 0 rfl rfl dX6_behindTogether_16 ?_
    refine rr_iload_n 3 rfl rfl dX6_behindTogether_17 ?_
    refine rr_callV (As := [.int (nI k1)]) (rest := [.int a1]) (kc2 := 0) (ks2 := 0) dX6_behindTogether_18 okX6_behindOf lX6_41 lo_38 sh_38 rfl rfl (Nat.le_of_ble_eq_true rfl) (Nat.le_of_ble_eq_true rfl) rfl (by omega) (by simp [jj_rk]) (by simp [jj_rk]) ?_
    refine sp_X6_behindOf_n (by first | assumption | exact vp_in_nI (by omega) (by decide) | decide | omega | exact jj_inL rfl) ?_
    show jj_R _ _ kc ks (jj_S, 782, h, g) 21 [(0, .ref 38), (1, .int (nI n)), (2, .int a1), (3, .int (nI k1))] [.int (vX6_behindOf_n h (nI k1)), .int a1] Q
    refine rr_iadd dX6_behindTogether_21 ?_
    refine rr_istore_n [(0, .ref 38), (1, .int (nI n)), (2, .int (a1 + (vX6_behindOf_n h (nI k1)))), (3, .int (nI k1))] dX6_behindTogether_22 rfl (by decide) rfl ?_
    refine rr_iinc 3 1 [(0, .ref 38), (1, .int (nI n)), (2, .int (a1 + (vX6_behindOf_n h (nI k1)))), (3, .int ((nI k1) + 1))] dX6_behindTogether_23 rfl rfl (by decide) rfl ?_
    refine rr_goto dX6_behindTogether_26 ?_
    simpa only [nI_1, (nI_clamp (show k1 < 2 ^ 31 by omega))] using ih1
  · try dsimp only
    refine rr_iload_n 3 rfl rfl dX6_behindTogether_4 ?_
    refine rr_iload_n 1 rfl rfl dX6_behindTogether_5 ?_
    refine rr_icmp_ge dX6_behindTogether_6 (fun _ => ?_) (fun c => absurd (jj_le_rf _) c)
    refine rr_iload_n 2 rfl rfl dX6_behindTogether_29 ?_
    refine rr_ireturn dX6_behindTogether_30 rfl ?_
    exact kq
def vX6_slipsTogether_n (h : Nat → Nat → Int32) (n : Nat) : Int32 := (jj_fo (fun k1 a1 => (a1 + (h 41 k1))) n 0)
theorem vc_X6_slipsTogether_n {h h2 : Nat → Nat → Int32} {n : Nat} (e41 : h2 41 = h 41) : vX6_slipsTogether_n h2 n = vX6_slipsTogether_n h n := by
  simp only [vX6_slipsTogether_n, e41]
set_option maxHeartbeats 1000000 in
theorem sp_X6_slipsTogether_n {d kc ks : Nat} {h : Nat → Nat → Int32} {g : Nat → Nat → Int64} {Q : jj_Rs → jj_St → Prop} {n : Nat} (hn : n ≤ 8) (kq : Q (.inl (some (.int (vX6_slipsTogether_n h n)))) (jj_S, 782, h, g)) : jj_R mX6_slipsTogether (d + 0) kc ks (jj_S, 782, h, g) 0 [(0, .ref 38), (1, .int (nI n))] [] Q := by
  refine rr_iconst 0 rfl dX6_slipsTogether_0 ?_
  refine rr_istore_n [(0, .ref 38), (1, .int (nI n)), (2, .int 0)] dX6_slipsTogether_1 rfl (by decide) rfl ?_
  refine rr_iconst 0 rfl dX6_slipsTogether_2 ?_
  refine rr_istore_n [(0, .ref 38), (1, .int (nI n)), (2, .int 0), (3, .int 0)] dX6_slipsTogether_3 rfl (by decide) rfl ?_
  refine jj_for (fun k1 (a1 : Int32) => jj_R _ _ _ _ (jj_S, 782, h, g) 4 [(0, .ref 38), (1, .int (nI n)), (2, .int a1), (3, .int (nI k1))] [] Q) (fun k1 a1 => (a1 + (h 41 k1))) n 0 ?_ ?_
  · intro k1 hk1 ih1
    generalize jj_fo _ k1 _ = a1 at ih1 ⊢
    try dsimp only at ih1 ⊢
    refine rr_iload_n 3 rfl rfl dX6_slipsTogether_4 ?_
    refine rr_iload_n 1 rfl rfl dX6_slipsTogether_5 ?_
    refine rr_icmp_ge dX6_slipsTogether_6 (fun c => absurd c (nI_ge (a := k1) (b := n) (by omega) (by omega))) (fun _ => ?_)
    refine rr_iload_n 3 rfl rfl dX6_slipsTogether_9 ?_
    refine rr_bipush 8 rfl dX6_slipsTogether_10 ?_
    refine rr_icmp_ge dX6_slipsTogether_12 (fun c => absurd c (nI_ge (a := k1) (b := 8) (by omega) (by omega))) (fun _ => ?_)
    refine rr_iload_n 2 rfl rfl dX6_slipsTogether_15 ?_
    refine rr_aload_n 0 rfl rfl dX6_slipsTogether_16 ?_
    refine rr_getR dX6_slipsTogether_17 fX6_18 lo_38 sh_38 rfl ?_
    refine rr_iload_n 3 rfl rfl dX6_slipsTogether_20 ?_
    refine rr_iaload dX6_slipsTogether_21 lo_41 sh_41 (by first | assumption | exact vp_in_nI (by omega) (by decide) | decide | omega | exact jj_inL rfl) ?_
    refine rr_iadd dX6_slipsTogether_22 ?_
    refine rr_istore_n [(0, .ref 38), (1, .int (nI n)), (2, .int (a1 + (h 41 ((nI k1) : Int32).toNatClampNeg))), (3, .int (nI k1))] dX6_slipsTogether_23 rfl (by decide) rfl ?_
    refine rr_iinc 3 1 [(0, .ref 38), (1, .int (nI n)), (2, .int (a1 + (h 41 ((nI k1) : Int32).toNatClampNeg))), (3, .int ((nI k1) + 1))] dX6_slipsTogether_24 rfl rfl (by decide) rfl ?_
    refine rr_goto dX6_slipsTogether_27 ?_
    simpa only [nI_1, (nI_clamp (show k1 < 2 ^ 31 by omega))] using ih1
  · try dsimp only
    refine rr_iload_n 3 rfl rfl dX6_slipsTogether_4 ?_
    refine rr_iload_n 1 rfl rfl dX6_slipsTogether_5 ?_
    refine rr_icmp_ge dX6_slipsTogether_6 (fun _ => ?_) (fun c => absurd (jj_le_rf _) c)
    refine rr_iload_n 2 rfl rfl dX6_slipsTogether_30 ?_
    refine rr_ireturn dX6_slipsTogether_31 rfl ?_
    exact kq
def vX6_behindBits_n (h : Nat → Nat → Int32) (n : Nat) : Int32 := (jj_fo (fun k1 a1 => (if (vX6_behindOf_n h (nI k1)) ≤ 0 then (a1 ||| 0) else (a1 ||| (1 <<< ((nI k1) &&& 31))))) n 0)
theorem vc_X6_behindBits_n {h h2 : Nat → Nat → Int32} {n : Nat} (e38 : h2 38 = h 38) (e39 : h2 39 = h 39) : vX6_behindBits_n h2 n = vX6_behindBits_n h n := by
  simp only [vX6_behindBits_n, e38, e39, vc_X6_behindOf_n e38 e39]
set_option maxHeartbeats 1000000 in
theorem sp_X6_behindBits_n {d kc ks : Nat} {h : Nat → Nat → Int32} {g : Nat → Nat → Int64} {Q : jj_Rs → jj_St → Prop} {n : Nat} (hn : n ≤ 8) (kq : Q (.inl (some (.int (vX6_behindBits_n h n)))) (jj_S, 782, h, g)) : jj_R mX6_behindBits (d + 1) kc ks (jj_S, 782, h, g) 0 [(0, .ref 38), (1, .int (nI n))] [] Q := by
  refine rr_iconst 0 rfl dX6_behindBits_0 ?_
  refine rr_istore_n [(0, .ref 38), (1, .int (nI n)), (2, .int 0)] dX6_behindBits_1 rfl (by decide) rfl ?_
  refine rr_iconst 0 rfl dX6_behindBits_2 ?_
  refine rr_istore_n [(0, .ref 38), (1, .int (nI n)), (2, .int 0), (3, .int 0)] dX6_behindBits_3 rfl (by decide) rfl ?_
  refine jj_for (fun k1 (a1 : Int32) => jj_R _ _ _ _ (jj_S, 782, h, g) 4 [(0, .ref 38), (1, .int (nI n)), (2, .int a1), (3, .int (nI k1))] [] Q) (fun k1 a1 => (if (vX6_behindOf_n h (nI k1)) ≤ 0 then (a1 ||| 0) else (a1 ||| (1 <<< ((nI k1) &&& 31))))) n 0 ?_ ?_
  · intro k1 hk1 ih1
    generalize jj_fo _ k1 _ = a1 at ih1 ⊢
    try dsimp only at ih1 ⊢
    refine rr_iload_n 3 rfl rfl dX6_behindBits_4 ?_
    refine rr_iload_n 1 rfl rfl dX6_behindBits_5 ?_
    refine rr_icmp_ge dX6_behindBits_6 (fun c => absurd c (nI_ge (a := k1) (b := n) (by omega) (by omega))) (fun _ => ?_)
    refine rr_iload_n 3 rfl rfl dX6_behindBits_9 ?_
    refine rr_bipush 8 rfl dX6_behindBits_10 ?_
    refine rr_icmp_ge dX6_behindBits_12 (fun c => absurd c (nI_ge (a := k1) (b := 8) (by omega) (by omega))) (fun _ => ?_)
    refine rr_iload_n 2 rfl rfl dX6_behindBits_15 ?_
    refine rr_aload_n 0 rfl rfl dX6_behindBits_16 ?_
    refine rr_iload_n 3 rfl rfl dX6_behindBits_17 ?_
    refine rr_callV (As := [.int (nI k1)]) (rest := [.int a1]) (kc2 := 0) (ks2 := 0) dX6_behindBits_18 okX6_behindOf lX6_41 lo_38 sh_38 rfl rfl (Nat.le_of_ble_eq_true rfl) (Nat.le_of_ble_eq_true rfl) rfl (by omega) (by simp [jj_rk]) (by simp [jj_rk]) ?_
    refine sp_X6_behindOf_n (by first | assumption | exact vp_in_nI (by omega) (by decide) | decide | omega | exact jj_inL rfl) ?_
    show jj_R _ _ kc ks (jj_S, 782, h, g) 21 [(0, .ref 38), (1, .int (nI n)), (2, .int a1), (3, .int (nI k1))] [.int (vX6_behindOf_n h (nI k1)), .int a1] Q
    refine rr_if_le dX6_behindBits_21 (fun c1 => ?_) (fun c1 => ?_)
    · skip
      refine rr_iconst 0 rfl dX6_behindBits_30 ?_
      refine rr_ior dX6_behindBits_31 ?_
      refine rr_istore_n [(0, .ref 38), (1, .int (nI n)), (2, .int (a1 ||| 0)), (3, .int (nI k1))] dX6_behindBits_32 rfl (by decide) rfl ?_
      refine rr_iinc 3 1 [(0, .ref 38), (1, .int (nI n)), (2, .int (a1 ||| 0)), (3, .int ((nI k1) + 1))] dX6_behindBits_33 rfl rfl (by decide) rfl ?_
      refine rr_goto dX6_behindBits_36 ?_
      try simp only [nI_clamp (show k1 < 2 ^ 31 by omega)] at c1
      simpa only [nI_1, (nI_clamp (show k1 < 2 ^ 31 by omega)), if_pos c1] using ih1
    · skip
      refine rr_iconst 1 rfl dX6_behindBits_24 ?_
      refine rr_iload_n 3 rfl rfl dX6_behindBits_25 ?_
      refine rr_ishl dX6_behindBits_26 ?_
      refine rr_goto dX6_behindBits_27 ?_
      refine rr_ior dX6_behindBits_31 ?_
      refine rr_istore_n [(0, .ref 38), (1, .int (nI n)), (2, .int (a1 ||| (1 <<< ((nI k1) &&& 31)))), (3, .int (nI k1))] dX6_behindBits_32 rfl (by decide) rfl ?_
      refine rr_iinc 3 1 [(0, .ref 38), (1, .int (nI n)), (2, .int (a1 ||| (1 <<< ((nI k1) &&& 31)))), (3, .int ((nI k1) + 1))] dX6_behindBits_33 rfl rfl (by decide) rfl ?_
      refine rr_goto dX6_behindBits_36 ?_
      try simp only [nI_clamp (show k1 < 2 ^ 31 by omega)] at c1
      simpa only [nI_1, (nI_clamp (show k1 < 2 ^ 31 by omega)), if_neg c1] using ih1
  · try dsimp only
    refine rr_iload_n 3 rfl rfl dX6_behindBits_4 ?_
    refine rr_iload_n 1 rfl rfl dX6_behindBits_5 ?_
    refine rr_icmp_ge dX6_behindBits_6 (fun _ => ?_) (fun c => absurd (jj_le_rf _) c)
    refine rr_iload_n 2 rfl rfl dX6_behindBits_39 ?_
    refine rr_ireturn dX6_behindBits_40 rfl ?_
    exact kq
def vX6_tiedBits_n (h : Nat → Nat → Int32) (n : Nat) (w : Int32) : Int32 := (jj_fo (fun k1 a1 => (if (h 40 k1) < w then (a1 ||| 0) else (a1 ||| (1 <<< ((nI k1) &&& 31))))) n 0)
theorem vc_X6_tiedBits_n {h h2 : Nat → Nat → Int32} {n : Nat} {w : Int32} (e40 : h2 40 = h 40) : vX6_tiedBits_n h2 n w = vX6_tiedBits_n h n w := by
  simp only [vX6_tiedBits_n, e40]
set_option maxHeartbeats 1000000 in
theorem sp_X6_tiedBits_n {d kc ks : Nat} {h : Nat → Nat → Int32} {g : Nat → Nat → Int64} {Q : jj_Rs → jj_St → Prop} {n : Nat} {w : Int32} (hn : n ≤ 8) (kq : Q (.inl (some (.int (vX6_tiedBits_n h n w)))) (jj_S, 782, h, g)) : jj_R mX6_tiedBits (d + 0) kc ks (jj_S, 782, h, g) 0 [(0, .ref 38), (1, .int (nI n)), (2, .int w)] [] Q := by
  refine rr_iconst 0 rfl dX6_tiedBits_0 ?_
  refine rr_istore_n [(0, .ref 38), (1, .int (nI n)), (2, .int w), (3, .int 0)] dX6_tiedBits_1 rfl (by decide) rfl ?_
  refine rr_iconst 0 rfl dX6_tiedBits_2 ?_
  refine rr_istore [(0, .ref 38), (1, .int (nI n)), (2, .int w), (3, .int 0), (4, .int 0)] dX6_tiedBits_3 (by decide) rfl ?_
  refine jj_for (fun k1 (a1 : Int32) => jj_R _ _ _ _ (jj_S, 782, h, g) 5 [(0, .ref 38), (1, .int (nI n)), (2, .int w), (3, .int a1), (4, .int (nI k1))] [] Q) (fun k1 a1 => (if (h 40 k1) < w then (a1 ||| 0) else (a1 ||| (1 <<< ((nI k1) &&& 31))))) n 0 ?_ ?_
  · intro k1 hk1 ih1
    generalize jj_fo _ k1 _ = a1 at ih1 ⊢
    try dsimp only at ih1 ⊢
    refine rr_iload 4 rfl dX6_tiedBits_5 ?_
    refine rr_iload_n 1 rfl rfl dX6_tiedBits_7 ?_
    refine rr_icmp_ge dX6_tiedBits_8 (fun c => absurd c (nI_ge (a := k1) (b := n) (by omega) (by omega))) (fun _ => ?_)
    refine rr_iload 4 rfl dX6_tiedBits_11 ?_
    refine rr_bipush 8 rfl dX6_tiedBits_13 ?_
    refine rr_icmp_ge dX6_tiedBits_15 (fun c => absurd c (nI_ge (a := k1) (b := 8) (by omega) (by omega))) (fun _ => ?_)
    refine rr_iload_n 3 rfl rfl dX6_tiedBits_18 ?_
    refine rr_aload_n 0 rfl rfl dX6_tiedBits_19 ?_
    refine rr_getR dX6_tiedBits_20 fX6_15 lo_38 sh_38 rfl ?_
    refine rr_iload 4 rfl dX6_tiedBits_23 ?_
    refine rr_iaload dX6_tiedBits_25 lo_40 sh_40 (by first | assumption | exact vp_in_nI (by omega) (by decide) | decide | omega | exact jj_inL rfl) ?_
    refine rr_iload_n 2 rfl rfl dX6_tiedBits_26 ?_
    refine rr_icmp_lt dX6_tiedBits_27 (fun c1 => ?_) (fun c1 => ?_)
    · skip
      refine rr_iconst 0 rfl dX6_tiedBits_37 ?_
      refine rr_ior dX6_tiedBits_38 ?_
      refine rr_istore_n [(0, .ref 38), (1, .int (nI n)), (2, .int w), (3, .int (a1 ||| 0)), (4, .int (nI k1))] dX6_tiedBits_39 rfl (by decide) rfl ?_
      refine rr_iinc 4 1 [(0, .ref 38), (1, .int (nI n)), (2, .int w), (3, .int (a1 ||| 0)), (4, .int ((nI k1) + 1))] dX6_tiedBits_40 rfl rfl (by decide) rfl ?_
      refine rr_goto dX6_tiedBits_43 ?_
      try simp only [nI_clamp (show k1 < 2 ^ 31 by omega)] at c1
      simpa only [nI_1, (nI_clamp (show k1 < 2 ^ 31 by omega)), if_pos c1] using ih1
    · skip
      refine rr_iconst 1 rfl dX6_tiedBits_30 ?_
      refine rr_iload 4 rfl dX6_tiedBits_31 ?_
      refine rr_ishl dX6_tiedBits_33 ?_
      refine rr_goto dX6_tiedBits_34 ?_
      refine rr_ior dX6_tiedBits_38 ?_
      refine rr_istore_n [(0, .ref 38), (1, .int (nI n)), (2, .int w), (3, .int (a1 ||| (1 <<< ((nI k1) &&& 31)))), (4, .int (nI k1))] dX6_tiedBits_39 rfl (by decide) rfl ?_
      refine rr_iinc 4 1 [(0, .ref 38), (1, .int (nI n)), (2, .int w), (3, .int (a1 ||| (1 <<< ((nI k1) &&& 31)))), (4, .int ((nI k1) + 1))] dX6_tiedBits_40 rfl rfl (by decide) rfl ?_
      refine rr_goto dX6_tiedBits_43 ?_
      try simp only [nI_clamp (show k1 < 2 ^ 31 by omega)] at c1
      simpa only [nI_1, (nI_clamp (show k1 < 2 ^ 31 by omega)), if_neg c1] using ih1
  · try dsimp only
    refine rr_iload 4 rfl dX6_tiedBits_5 ?_
    refine rr_iload_n 1 rfl rfl dX6_tiedBits_7 ?_
    refine rr_icmp_ge dX6_tiedBits_8 (fun _ => ?_) (fun c => absurd (jj_le_rf _) c)
    refine rr_iload_n 3 rfl rfl dX6_tiedBits_46 ?_
    refine rr_ireturn dX6_tiedBits_47 rfl ?_
    exact kq
def vX6_bitsInDay_n (h : Nat → Nat → Int32) (n : Nat) (w : Int32) : Int32 := (jj_fo (fun k1 a1 => (if (h 39 k1) = w then (a1 ||| (1 <<< ((nI k1) &&& 31))) else (a1 ||| 0))) n 0)
theorem vc_X6_bitsInDay_n {h h2 : Nat → Nat → Int32} {n : Nat} {w : Int32} (e39 : h2 39 = h 39) : vX6_bitsInDay_n h2 n w = vX6_bitsInDay_n h n w := by
  simp only [vX6_bitsInDay_n, e39]
set_option maxHeartbeats 1000000 in
theorem sp_X6_bitsInDay_n {d kc ks : Nat} {h : Nat → Nat → Int32} {g : Nat → Nat → Int64} {Q : jj_Rs → jj_St → Prop} {n : Nat} {w : Int32} (hn : n ≤ 8) (kq : Q (.inl (some (.int (vX6_bitsInDay_n h n w)))) (jj_S, 782, h, g)) : jj_R mX6_bitsInDay (d + 0) kc ks (jj_S, 782, h, g) 0 [(0, .ref 38), (1, .int (nI n)), (2, .int w)] [] Q := by
  refine rr_iconst 0 rfl dX6_bitsInDay_0 ?_
  refine rr_istore_n [(0, .ref 38), (1, .int (nI n)), (2, .int w), (3, .int 0)] dX6_bitsInDay_1 rfl (by decide) rfl ?_
  refine rr_iconst 0 rfl dX6_bitsInDay_2 ?_
  refine rr_istore [(0, .ref 38), (1, .int (nI n)), (2, .int w), (3, .int 0), (4, .int 0)] dX6_bitsInDay_3 (by decide) rfl ?_
  refine jj_for (fun k1 (a1 : Int32) => jj_R _ _ _ _ (jj_S, 782, h, g) 5 [(0, .ref 38), (1, .int (nI n)), (2, .int w), (3, .int a1), (4, .int (nI k1))] [] Q) (fun k1 a1 => (if (h 39 k1) = w then (a1 ||| (1 <<< ((nI k1) &&& 31))) else (a1 ||| 0))) n 0 ?_ ?_
  · intro k1 hk1 ih1
    generalize jj_fo _ k1 _ = a1 at ih1 ⊢
    try dsimp only at ih1 ⊢
    refine rr_iload 4 rfl dX6_bitsInDay_5 ?_
    refine rr_iload_n 1 rfl rfl dX6_bitsInDay_7 ?_
    refine rr_icmp_ge dX6_bitsInDay_8 (fun c => absurd c (nI_ge (a := k1) (b := n) (by omega) (by omega))) (fun _ => ?_)
    refine rr_iload 4 rfl dX6_bitsInDay_11 ?_
    refine rr_bipush 8 rfl dX6_bitsInDay_13 ?_
    refine rr_icmp_ge dX6_bitsInDay_15 (fun c => absurd c (nI_ge (a := k1) (b := 8) (by omega) (by omega))) (fun _ => ?_)
    refine rr_iload_n 3 rfl rfl dX6_bitsInDay_18 ?_
    refine rr_aload_n 0 rfl rfl dX6_bitsInDay_19 ?_
    refine rr_getR dX6_bitsInDay_20 fX6_9 lo_38 sh_38 rfl ?_
    refine rr_iload 4 rfl dX6_bitsInDay_23 ?_
    refine rr_iaload dX6_bitsInDay_25 lo_39 sh_39 (by first | assumption | exact vp_in_nI (by omega) (by decide) | decide | omega | exact jj_inL rfl) ?_
    refine rr_iload_n 2 rfl rfl dX6_bitsInDay_26 ?_
    refine rr_icmp_ne dX6_bitsInDay_27 (fun c1 => ?_) (fun c1 => ?_)
    · skip
      refine rr_iconst 0 rfl dX6_bitsInDay_37 ?_
      refine rr_ior dX6_bitsInDay_38 ?_
      refine rr_istore_n [(0, .ref 38), (1, .int (nI n)), (2, .int w), (3, .int (a1 ||| 0)), (4, .int (nI k1))] dX6_bitsInDay_39 rfl (by decide) rfl ?_
      refine rr_iinc 4 1 [(0, .ref 38), (1, .int (nI n)), (2, .int w), (3, .int (a1 ||| 0)), (4, .int ((nI k1) + 1))] dX6_bitsInDay_40 rfl rfl (by decide) rfl ?_
      refine rr_goto dX6_bitsInDay_43 ?_
      try simp only [nI_clamp (show k1 < 2 ^ 31 by omega)] at c1
      simpa only [nI_1, (nI_clamp (show k1 < 2 ^ 31 by omega)), if_neg c1] using ih1
    · skip
      refine rr_iconst 1 rfl dX6_bitsInDay_30 ?_
      refine rr_iload 4 rfl dX6_bitsInDay_31 ?_
      refine rr_ishl dX6_bitsInDay_33 ?_
      refine rr_goto dX6_bitsInDay_34 ?_
      refine rr_ior dX6_bitsInDay_38 ?_
      refine rr_istore_n [(0, .ref 38), (1, .int (nI n)), (2, .int w), (3, .int (a1 ||| (1 <<< ((nI k1) &&& 31)))), (4, .int (nI k1))] dX6_bitsInDay_39 rfl (by decide) rfl ?_
      refine rr_iinc 4 1 [(0, .ref 38), (1, .int (nI n)), (2, .int w), (3, .int (a1 ||| (1 <<< ((nI k1) &&& 31)))), (4, .int ((nI k1) + 1))] dX6_bitsInDay_40 rfl rfl (by decide) rfl ?_
      refine rr_goto dX6_bitsInDay_43 ?_
      try simp only [nI_clamp (show k1 < 2 ^ 31 by omega)] at c1
      simpa only [nI_1, (nI_clamp (show k1 < 2 ^ 31 by omega)), if_pos c1] using ih1
  · try dsimp only
    refine rr_iload 4 rfl dX6_bitsInDay_5 ?_
    refine rr_iload_n 1 rfl rfl dX6_bitsInDay_7 ?_
    refine rr_icmp_ge dX6_bitsInDay_8 (fun _ => ?_) (fun c => absurd (jj_le_rf _) c)
    refine rr_iload_n 3 rfl rfl dX6_bitsInDay_46 ?_
    refine rr_ireturn dX6_bitsInDay_47 rfl ?_
    exact kq
def hX6_passDay_n (h : Nat → Nat → Int32) (n : Nat) : Nat → Nat → Int32 := (jj_fo (fun k1 a1 => (if (a1 40 k1) = 1 then (if (vX6_isCut_n (jj_u2 a1 40 k1 0) (nI k1)) = 0 then (jj_u2 a1 40 k1 0) else (jj_u2 (jj_u2 a1 40 k1 0) 39 k1 (a1 38 0))) else (if (a1 40 k1) = 2 then (if (vX6_isCut_n (jj_u2 a1 39 k1 ((a1 39 k1) + 1)) (nI k1)) = 0 then (jj_u2 a1 39 k1 ((a1 39 k1) + 1)) else (jj_u2 (jj_u2 a1 39 k1 ((a1 39 k1) + 1)) 39 k1 (a1 38 0))) else (if (vX6_isCut_n a1 (nI k1)) = 0 then a1 else (jj_u2 a1 39 k1 (a1 38 0)))))) n (jj_u2 h 38 0 ((h 38 0) + 1)))
theorem hx_X6_passDay_n {X : List Nat} {h h2 : Nat → Nat → Int32} {n : Nat} (e : jj_eq X h h2) (hX : ∀ o, o ∈ [38] → o ∉ X) : jj_eq X (hX6_passDay_n h n) (hX6_passDay_n h2 n) := by
  have e38 : h2 38 = h 38 := e 38 (hX 38 (by decide))
  unfold hX6_passDay_n
  try simp only [e38, vc_X6_isCut_n e38]
  repeat (first | exact e | assumption | exact jj_eq.rf | refine jj_eq.u2 ?_ _ _ _ | refine jj_eq.cp ?_ _ _ _ _ _ (hX _ (by decide)) (hX _ (by decide)) | split | refine jj_fo_rel ?_ (fun k a b hk hab => ?_))
theorem hw_X6_passDay_n {h : Nat → Nat → Int32} {n : Nat} : jj_eq [38, 39, 40] h (hX6_passDay_n h n) := by
  unfold hX6_passDay_n
  repeat (first | exact jj_eq.rf | assumption | refine jj_eq.sw ?_ _ _ _ (by decide) | refine jj_eq.scp ?_ _ _ _ _ _ (by decide) | (refine jj_fo_I (I := fun x => jj_eq [38, 39, 40] h x) ?_ (fun k x hk hx => ?_)) | split)
set_option maxHeartbeats 1000000 in
theorem sp_X6_passDay_n {d kc ks : Nat} {h : Nat → Nat → Int32} {g : Nat → Nat → Int64} {Q : jj_Rs → jj_St → Prop} {n : Nat} (hn : n ≤ 8) (kq : Q (.inl none) (jj_S, 782, (hX6_passDay_n h n), g)) : jj_R mX6_passDay (d + 1) kc ks (jj_S, 782, h, g) 0 [(0, .ref 38), (1, .int (nI n))] [] Q := by
  refine rr_aload_n 0 rfl rfl dX6_passDay_0 ?_
  refine rr_dup rfl dX6_passDay_1 ?_
  refine rr_getI dX6_passDay_2 fX6_24 lo_38 sh_38 rfl ?_
  refine rr_iconst 1 rfl dX6_passDay_5 ?_
  refine rr_iadd dX6_passDay_6 ?_
  refine rr_putI dX6_passDay_7 fX6_24 ni6_0 lo_38 sh_38 rfl ?_
  refine rr_iconst 0 rfl dX6_passDay_10 ?_
  refine rr_istore_n [(0, .ref 38), (1, .int (nI n)), (2, .int 0)] dX6_passDay_11 rfl (by decide) rfl ?_
  refine jj_for (fun k1 (a1 : (Nat → Nat → Int32)) => jj_R _ _ _ _ (jj_S, 782, a1, g) 12 [(0, .ref 38), (1, .int (nI n)), (2, .int (nI k1))] [] Q) (fun k1 a1 => (if (a1 40 k1) = 1 then (if (vX6_isCut_n (jj_u2 a1 40 k1 0) (nI k1)) = 0 then (jj_u2 a1 40 k1 0) else (jj_u2 (jj_u2 a1 40 k1 0) 39 k1 (a1 38 0))) else (if (a1 40 k1) = 2 then (if (vX6_isCut_n (jj_u2 a1 39 k1 ((a1 39 k1) + 1)) (nI k1)) = 0 then (jj_u2 a1 39 k1 ((a1 39 k1) + 1)) else (jj_u2 (jj_u2 a1 39 k1 ((a1 39 k1) + 1)) 39 k1 (a1 38 0))) else (if (vX6_isCut_n a1 (nI k1)) = 0 then a1 else (jj_u2 a1 39 k1 (a1 38 0)))))) n (jj_u2 h 38 0 ((h 38 0) + 1)) ?_ ?_
  · intro k1 hk1 ih1
    generalize jj_fo _ k1 _ = a1 at ih1 ⊢
    try dsimp only at ih1 ⊢
    refine rr_iload_n 2 rfl rfl dX6_passDay_12 ?_
    refine rr_iload_n 1 rfl rfl dX6_passDay_13 ?_
    refine rr_icmp_ge dX6_passDay_14 (fun c => absurd c (nI_ge (a := k1) (b := n) (by omega) (by omega))) (fun _ => ?_)
    refine rr_iload_n 2 rfl rfl dX6_passDay_17 ?_
    refine rr_bipush 8 rfl dX6_passDay_18 ?_
    refine rr_icmp_ge dX6_passDay_20 (fun c => absurd c (nI_ge (a := k1) (b := 8) (by omega) (by omega))) (fun _ => ?_)
    refine rr_aload_n 0 rfl rfl dX6_passDay_23 ?_
    refine rr_getR dX6_passDay_24 fX6_15 lo_38 sh_38 rfl ?_
    refine rr_iload_n 2 rfl rfl dX6_passDay_27 ?_
    refine rr_iaload dX6_passDay_28 lo_40 sh_40 (by first | assumption | exact vp_in_nI (by omega) (by decide) | decide | omega | exact jj_inL rfl) ?_
    refine rr_iconst 1 rfl dX6_passDay_29 ?_
    refine rr_icmp_ne dX6_passDay_30 (fun c1 => ?_) (fun c1 => ?_)
    · skip
      refine rr_aload_n 0 rfl rfl dX6_passDay_43 ?_
      refine rr_getR dX6_passDay_44 fX6_15 lo_38 sh_38 rfl ?_
      refine rr_iload_n 2 rfl rfl dX6_passDay_47 ?_
      refine rr_iaload dX6_passDay_48 lo_40 sh_40 (by first | assumption | exact vp_in_nI (by omega) (by decide) | decide | omega | exact jj_inL rfl) ?_
      refine rr_iconst 2 rfl dX6_passDay_49 ?_
      refine rr_icmp_ne dX6_passDay_50 (fun c2 => ?_) (fun c2 => ?_)
      · skip
        refine rr_aload_n 0 rfl rfl dX6_passDay_63 ?_
        refine rr_iload_n 2 rfl rfl dX6_passDay_64 ?_
        refine rr_callV (As := [.int (nI k1)]) (rest := []) (kc2 := 0) (ks2 := 0) dX6_passDay_65 okX6_isCut lX6_34 lo_38 sh_38 rfl rfl (Nat.le_of_ble_eq_true rfl) (Nat.le_of_ble_eq_true rfl) rfl (by omega) (by simp [jj_rk]) (by simp [jj_rk]) ?_
        refine sp_X6_isCut_n  ?_
        show jj_R _ _ kc ks (jj_S, 782, a1, g) 68 [(0, .ref 38), (1, .int (nI n)), (2, .int (nI k1))] [.int (vX6_isCut_n a1 (nI k1))] Q
        refine rr_if_eq dX6_passDay_68 (fun c3 => ?_) (fun c3 => ?_)
        · skip
          refine rr_iinc 2 1 [(0, .ref 38), (1, .int (nI n)), (2, .int ((nI k1) + 1))] dX6_passDay_81 rfl rfl (by decide) rfl ?_
          refine rr_goto dX6_passDay_84 ?_
          try simp only [nI_clamp (show k1 < 2 ^ 31 by omega)] at c1
          try simp only [nI_clamp (show k1 < 2 ^ 31 by omega)] at c2
          try simp only [nI_clamp (show k1 < 2 ^ 31 by omega)] at c3
          simpa only [nI_1, (nI_clamp (show k1 < 2 ^ 31 by omega)), if_neg c1, if_neg c2, if_pos c3] using ih1
        · skip
          refine rr_aload_n 0 rfl rfl dX6_passDay_71 ?_
          refine rr_getR dX6_passDay_72 fX6_9 lo_38 sh_38 rfl ?_
          refine rr_iload_n 2 rfl rfl dX6_passDay_75 ?_
          refine rr_aload_n 0 rfl rfl dX6_passDay_76 ?_
          refine rr_getI dX6_passDay_77 fX6_24 lo_38 sh_38 rfl ?_
          refine rr_iastore dX6_passDay_80 lo_39 sh_39 (by first | assumption | exact vp_in_nI (by omega) (by decide) | decide | omega | exact jj_inL rfl) ?_
          refine rr_iinc 2 1 [(0, .ref 38), (1, .int (nI n)), (2, .int ((nI k1) + 1))] dX6_passDay_81 rfl rfl (by decide) rfl ?_
          refine rr_goto dX6_passDay_84 ?_
          try simp only [nI_clamp (show k1 < 2 ^ 31 by omega)] at c1
          try simp only [nI_clamp (show k1 < 2 ^ 31 by omega)] at c2
          try simp only [nI_clamp (show k1 < 2 ^ 31 by omega)] at c3
          simpa only [nI_1, (nI_clamp (show k1 < 2 ^ 31 by omega)), if_neg c1, if_neg c2, if_neg c3] using ih1
      · skip
        refine rr_aload_n 0 rfl rfl dX6_passDay_53 ?_
        refine rr_getR dX6_passDay_54 fX6_9 lo_38 sh_38 rfl ?_
        refine rr_iload_n 2 rfl rfl dX6_passDay_57 ?_
        refine rr_dup2 rfl rfl dX6_passDay_58 ?_
        refine rr_iaload dX6_passDay_59 lo_39 sh_39 (by first | assumption | exact vp_in_nI (by omega) (by decide) | decide | omega | exact jj_inL rfl) ?_
        refine rr_iconst 1 rfl dX6_passDay_60 ?_
        refine rr_iadd dX6_passDay_61 ?_
        refine rr_iastore dX6_passDay_62 lo_39 sh_39 (by first | assumption | exact vp_in_nI (by omega) (by decide) | decide | omega | exact jj_inL rfl) ?_
        refine rr_aload_n 0 rfl rfl dX6_passDay_63 ?_
        refine rr_iload_n 2 rfl rfl dX6_passDay_64 ?_
        refine rr_callV (As := [.int (nI k1)]) (rest := []) (kc2 := 0) (ks2 := 0) dX6_passDay_65 okX6_isCut lX6_34 lo_38 sh_38 rfl rfl (Nat.le_of_ble_eq_true rfl) (Nat.le_of_ble_eq_true rfl) rfl (by omega) (by simp [jj_rk]) (by simp [jj_rk]) ?_
        refine sp_X6_isCut_n  ?_
        show jj_R _ _ kc ks (jj_S, 782, (jj_u2 a1 39 ((nI k1) : Int32).toNatClampNeg ((a1 39 ((nI k1) : Int32).toNatClampNeg) + 1)), g) 68 [(0, .ref 38), (1, .int (nI n)), (2, .int (nI k1))] [.int (vX6_isCut_n (jj_u2 a1 39 ((nI k1) : Int32).toNatClampNeg ((a1 39 ((nI k1) : Int32).toNatClampNeg) + 1)) (nI k1))] Q
        refine rr_if_eq dX6_passDay_68 (fun c4 => ?_) (fun c4 => ?_)
        · skip
          refine rr_iinc 2 1 [(0, .ref 38), (1, .int (nI n)), (2, .int ((nI k1) + 1))] dX6_passDay_81 rfl rfl (by decide) rfl ?_
          refine rr_goto dX6_passDay_84 ?_
          try simp only [nI_clamp (show k1 < 2 ^ 31 by omega)] at c1
          try simp only [nI_clamp (show k1 < 2 ^ 31 by omega)] at c2
          try simp only [nI_clamp (show k1 < 2 ^ 31 by omega)] at c4
          simpa only [nI_1, (nI_clamp (show k1 < 2 ^ 31 by omega)), if_neg c1, if_pos c2, if_pos c4] using ih1
        · skip
          refine rr_aload_n 0 rfl rfl dX6_passDay_71 ?_
          refine rr_getR dX6_passDay_72 fX6_9 lo_38 sh_38 rfl ?_
          refine rr_iload_n 2 rfl rfl dX6_passDay_75 ?_
          refine rr_aload_n 0 rfl rfl dX6_passDay_76 ?_
          refine rr_getI dX6_passDay_77 fX6_24 lo_38 sh_38 rfl ?_
          rw [jj_u2_ne (h := a1) (o := 39) (a := 38) (by decide)]
          refine rr_iastore dX6_passDay_80 lo_39 sh_39 (by first | assumption | exact vp_in_nI (by omega) (by decide) | decide | omega | exact jj_inL rfl) ?_
          refine rr_iinc 2 1 [(0, .ref 38), (1, .int (nI n)), (2, .int ((nI k1) + 1))] dX6_passDay_81 rfl rfl (by decide) rfl ?_
          refine rr_goto dX6_passDay_84 ?_
          try simp only [nI_clamp (show k1 < 2 ^ 31 by omega)] at c1
          try simp only [nI_clamp (show k1 < 2 ^ 31 by omega)] at c2
          try simp only [nI_clamp (show k1 < 2 ^ 31 by omega)] at c4
          simpa only [nI_1, (nI_clamp (show k1 < 2 ^ 31 by omega)), if_neg c1, if_pos c2, if_neg c4] using ih1
    · skip
      refine rr_aload_n 0 rfl rfl dX6_passDay_33 ?_
      refine rr_getR dX6_passDay_34 fX6_15 lo_38 sh_38 rfl ?_
      refine rr_iload_n 2 rfl rfl dX6_passDay_37 ?_
      refine rr_iconst 0 rfl dX6_passDay_38 ?_
      refine rr_iastore dX6_passDay_39 lo_40 sh_40 (by first | assumption | exact vp_in_nI (by omega) (by decide) | decide | omega | exact jj_inL rfl) ?_
      refine rr_goto dX6_passDay_40 ?_
      refine rr_aload_n 0 rfl rfl dX6_passDay_63 ?_
      refine rr_iload_n 2 rfl rfl dX6_passDay_64 ?_
      refine rr_callV (As := [.int (nI k1)]) (rest := []) (kc2 := 0) (ks2 := 0) dX6_passDay_65 okX6_isCut lX6_34 lo_38 sh_38 rfl rfl (Nat.le_of_ble_eq_true rfl) (Nat.le_of_ble_eq_true rfl) rfl (by omega) (by simp [jj_rk]) (by simp [jj_rk]) ?_
      refine sp_X6_isCut_n  ?_
      show jj_R _ _ kc ks (jj_S, 782, (jj_u2 a1 40 ((nI k1) : Int32).toNatClampNeg 0), g) 68 [(0, .ref 38), (1, .int (nI n)), (2, .int (nI k1))] [.int (vX6_isCut_n (jj_u2 a1 40 ((nI k1) : Int32).toNatClampNeg 0) (nI k1))] Q
      refine rr_if_eq dX6_passDay_68 (fun c5 => ?_) (fun c5 => ?_)
      · skip
        refine rr_iinc 2 1 [(0, .ref 38), (1, .int (nI n)), (2, .int ((nI k1) + 1))] dX6_passDay_81 rfl rfl (by decide) rfl ?_
        refine rr_goto dX6_passDay_84 ?_
        try simp only [nI_clamp (show k1 < 2 ^ 31 by omega)] at c1
        try simp only [nI_clamp (show k1 < 2 ^ 31 by omega)] at c5
        simpa only [nI_1, (nI_clamp (show k1 < 2 ^ 31 by omega)), if_pos c1, if_pos c5] using ih1
      · skip
        refine rr_aload_n 0 rfl rfl dX6_passDay_71 ?_
        refine rr_getR dX6_passDay_72 fX6_9 lo_38 sh_38 rfl ?_
        refine rr_iload_n 2 rfl rfl dX6_passDay_75 ?_
        refine rr_aload_n 0 rfl rfl dX6_passDay_76 ?_
        refine rr_getI dX6_passDay_77 fX6_24 lo_38 sh_38 rfl ?_
        rw [jj_u2_ne (h := a1) (o := 40) (a := 38) (by decide)]
        refine rr_iastore dX6_passDay_80 lo_39 sh_39 (by first | assumption | exact vp_in_nI (by omega) (by decide) | decide | omega | exact jj_inL rfl) ?_
        refine rr_iinc 2 1 [(0, .ref 38), (1, .int (nI n)), (2, .int ((nI k1) + 1))] dX6_passDay_81 rfl rfl (by decide) rfl ?_
        refine rr_goto dX6_passDay_84 ?_
        try simp only [nI_clamp (show k1 < 2 ^ 31 by omega)] at c1
        try simp only [nI_clamp (show k1 < 2 ^ 31 by omega)] at c5
        simpa only [nI_1, (nI_clamp (show k1 < 2 ^ 31 by omega)), if_pos c1, if_neg c5] using ih1
  · try dsimp only
    refine rr_iload_n 2 rfl rfl dX6_passDay_12 ?_
    refine rr_iload_n 1 rfl rfl dX6_passDay_13 ?_
    refine rr_icmp_ge dX6_passDay_14 (fun _ => ?_) (fun c => absurd (jj_le_rf _) c)
    refine rr_return dX6_passDay_87 rfl ?_
    exact kq
def vX6_isCut_t (h : Nat → Nat → Int32) (p : Int32) : Int32 := (if ((h 43 2) &&& (1 <<< (p &&& 31))) = 0 then 0 else 1)
theorem vc_X6_isCut_t {h h2 : Nat → Nat → Int32} {p : Int32} (e43 : h2 43 = h 43) : vX6_isCut_t h2 p = vX6_isCut_t h p := by
  simp only [vX6_isCut_t, e43]
set_option maxHeartbeats 1000000 in
theorem sp_X6_isCut_t {d kc ks : Nat} {h : Nat → Nat → Int32} {g : Nat → Nat → Int64} {Q : jj_Rs → jj_St → Prop} {p : Int32} (kq : Q (.inl (some (.int (vX6_isCut_t h p)))) (jj_S, 782, h, g)) : jj_R mX6_isCut (d + 0) kc ks (jj_S, 782, h, g) 0 [(0, .ref 43), (1, .int p)] [] Q := by
  refine rr_aload_n 0 rfl rfl dX6_isCut_0 ?_
  refine rr_getI dX6_isCut_1 fX6_31 lo_43 sh_43 rfl ?_
  refine rr_iconst 1 rfl dX6_isCut_4 ?_
  refine rr_iload_n 1 rfl rfl dX6_isCut_5 ?_
  refine rr_ishl dX6_isCut_6 ?_
  refine rr_iand dX6_isCut_7 ?_
  refine rr_if_eq dX6_isCut_8 (fun c1 => ?_) (fun c1 => ?_)
  · skip
    refine rr_iconst 0 rfl dX6_isCut_15 ?_
    refine rr_nreturn dX6_isCut_16 rfl (by first | rfl | assumption) ?_
    simpa only [vX6_isCut_t, if_pos c1] using kq
  · skip
    refine rr_iconst 1 rfl dX6_isCut_11 ?_
    refine rr_goto dX6_isCut_12 ?_
    refine rr_nreturn dX6_isCut_16 rfl (by first | rfl | assumption) ?_
    simpa only [vX6_isCut_t, if_neg c1] using kq
def vX6_isLoose_t (h : Nat → Nat → Int32) (p : Int32) : Int32 := (if (h 45 (p : Int32).toNatClampNeg) = 0 then (if (vX6_isCut_t h p) = 0 then 1 else 0) else 0)
theorem vc_X6_isLoose_t {h h2 : Nat → Nat → Int32} {p : Int32} (e43 : h2 43 = h 43) (e45 : h2 45 = h 45) : vX6_isLoose_t h2 p = vX6_isLoose_t h p := by
  simp only [vX6_isLoose_t, e43, e45, vc_X6_isCut_t e43]
set_option maxHeartbeats 1000000 in
theorem sp_X6_isLoose_t {d kc ks : Nat} {h : Nat → Nat → Int32} {g : Nat → Nat → Int64} {Q : jj_Rs → jj_St → Prop} {p : Int32} (hp : vp_in p 8) (kq : Q (.inl (some (.int (vX6_isLoose_t h p)))) (jj_S, 782, h, g)) : jj_R mX6_isLoose (d + 1) kc ks (jj_S, 782, h, g) 0 [(0, .ref 43), (1, .int p)] [] Q := by
  refine rr_aload_n 0 rfl rfl dX6_isLoose_0 ?_
  refine rr_getR dX6_isLoose_1 fX6_15 lo_43 sh_43 rfl ?_
  refine rr_iload_n 1 rfl rfl dX6_isLoose_4 ?_
  refine rr_iaload dX6_isLoose_5 lo_45 sh_45 (by first | assumption | exact vp_in_nI (by omega) (by decide) | decide | omega | exact jj_inL rfl) ?_
  refine rr_if_ne dX6_isLoose_6 (fun c1 => ?_) (fun c1 => ?_)
  · skip
    refine rr_iconst 0 rfl dX6_isLoose_21 ?_
    refine rr_nreturn dX6_isLoose_22 rfl (by first | rfl | assumption) ?_
    simpa only [vX6_isLoose_t, if_neg c1] using kq
  · skip
    refine rr_aload_n 0 rfl rfl dX6_isLoose_9 ?_
    refine rr_iload_n 1 rfl rfl dX6_isLoose_10 ?_
    refine rr_callV (As := [.int p]) (rest := []) (kc2 := 0) (ks2 := 0) dX6_isLoose_11 okX6_isCut lX6_34 lo_43 sh_43 rfl rfl (Nat.le_of_ble_eq_true rfl) (Nat.le_of_ble_eq_true rfl) rfl (by omega) (by simp [jj_rk]) (by simp [jj_rk]) ?_
    refine sp_X6_isCut_t  ?_
    show jj_R _ _ kc ks (jj_S, 782, h, g) 14 [(0, .ref 43), (1, .int p)] [.int (vX6_isCut_t h p)] Q
    refine rr_if_ne dX6_isLoose_14 (fun c2 => ?_) (fun c2 => ?_)
    · skip
      refine rr_iconst 0 rfl dX6_isLoose_21 ?_
      refine rr_nreturn dX6_isLoose_22 rfl (by first | rfl | assumption) ?_
      simpa only [vX6_isLoose_t, if_pos c1, if_neg c2] using kq
    · skip
      refine rr_iconst 1 rfl dX6_isLoose_17 ?_
      refine rr_goto dX6_isLoose_18 ?_
      refine rr_nreturn dX6_isLoose_22 rfl (by first | rfl | assumption) ?_
      simpa only [vX6_isLoose_t, if_pos c1, if_pos c2] using kq
def vX6_mayTie_t (h : Nat → Nat → Int32) (a : Int32) (b : Int32) : Int32 := (if (vX6_isLoose_t h b) = 0 then 0 else (if a = b then 1 else (if (h 45 (a : Int32).toNatClampNeg) = 0 then 0 else 1)))
theorem vc_X6_mayTie_t {h h2 : Nat → Nat → Int32} {a : Int32} {b : Int32} (e43 : h2 43 = h 43) (e45 : h2 45 = h 45) : vX6_mayTie_t h2 a b = vX6_mayTie_t h a b := by
  simp only [vX6_mayTie_t, e43, e45, vc_X6_isLoose_t e43 e45]
set_option maxHeartbeats 1000000 in
theorem sp_X6_mayTie_t {d kc ks : Nat} {h : Nat → Nat → Int32} {g : Nat → Nat → Int64} {Q : jj_Rs → jj_St → Prop} {a : Int32} {b : Int32} (ha : vp_in a 8) (hb : vp_in b 8) (kq : Q (.inl (some (.int (vX6_mayTie_t h a b)))) (jj_S, 782, h, g)) : jj_R mX6_mayTie (d + 2) kc ks (jj_S, 782, h, g) 0 [(0, .ref 43), (1, .int a), (2, .int b)] [] Q := by
  refine rr_aload_n 0 rfl rfl dX6_mayTie_0 ?_
  refine rr_iload_n 2 rfl rfl dX6_mayTie_1 ?_
  refine rr_callV (As := [.int b]) (rest := []) (kc2 := 0) (ks2 := 0) dX6_mayTie_2 okX6_isLoose lX6_38 lo_43 sh_43 rfl rfl (Nat.le_of_ble_eq_true rfl) (Nat.le_of_ble_eq_true rfl) rfl (by omega) (by simp [jj_rk]) (by simp [jj_rk]) ?_
  refine sp_X6_isLoose_t (by first | assumption | exact vp_in_nI (by omega) (by decide) | decide | omega | exact jj_inL rfl) ?_
  show jj_R _ _ kc ks (jj_S, 782, h, g) 5 [(0, .ref 43), (1, .int a), (2, .int b)] [.int (vX6_isLoose_t h b)] Q
  refine rr_if_eq dX6_mayTie_5 (fun c1 => ?_) (fun c1 => ?_)
  · skip
    refine rr_iconst 0 rfl dX6_mayTie_26 ?_
    refine rr_nreturn dX6_mayTie_27 rfl (by first | rfl | assumption) ?_
    simpa only [vX6_mayTie_t, if_pos c1] using kq
  · skip
    refine rr_iload_n 1 rfl rfl dX6_mayTie_8 ?_
    refine rr_iload_n 2 rfl rfl dX6_mayTie_9 ?_
    refine rr_icmp_eq dX6_mayTie_10 (fun c2 => ?_) (fun c2 => ?_)
    · skip
      refine rr_iconst 1 rfl dX6_mayTie_22 ?_
      refine rr_goto dX6_mayTie_23 ?_
      refine rr_nreturn dX6_mayTie_27 rfl (by first | rfl | assumption) ?_
      simpa only [vX6_mayTie_t, if_neg c1, if_pos c2] using kq
    · skip
      refine rr_aload_n 0 rfl rfl dX6_mayTie_13 ?_
      refine rr_getR dX6_mayTie_14 fX6_15 lo_43 sh_43 rfl ?_
      refine rr_iload_n 1 rfl rfl dX6_mayTie_17 ?_
      refine rr_iaload dX6_mayTie_18 lo_45 sh_45 (by first | assumption | exact vp_in_nI (by omega) (by decide) | decide | omega | exact jj_inL rfl) ?_
      refine rr_if_eq dX6_mayTie_19 (fun c3 => ?_) (fun c3 => ?_)
      · skip
        refine rr_iconst 0 rfl dX6_mayTie_26 ?_
        refine rr_nreturn dX6_mayTie_27 rfl (by first | rfl | assumption) ?_
        simpa only [vX6_mayTie_t, if_neg c1, if_neg c2, if_pos c3] using kq
      · skip
        refine rr_iconst 1 rfl dX6_mayTie_22 ?_
        refine rr_goto dX6_mayTie_23 ?_
        refine rr_nreturn dX6_mayTie_27 rfl (by first | rfl | assumption) ?_
        simpa only [vX6_mayTie_t, if_neg c1, if_neg c2, if_neg c3] using kq
def vX6_behindOf_t (h : Nat → Nat → Int32) (p : Int32) : Int32 := ((h 43 0) - (h 44 (p : Int32).toNatClampNeg))
theorem vc_X6_behindOf_t {h h2 : Nat → Nat → Int32} {p : Int32} (e43 : h2 43 = h 43) (e44 : h2 44 = h 44) : vX6_behindOf_t h2 p = vX6_behindOf_t h p := by
  simp only [vX6_behindOf_t, e43, e44]
set_option maxHeartbeats 1000000 in
theorem sp_X6_behindOf_t {d kc ks : Nat} {h : Nat → Nat → Int32} {g : Nat → Nat → Int64} {Q : jj_Rs → jj_St → Prop} {p : Int32} (hp : vp_in p 8) (kq : Q (.inl (some (.int (vX6_behindOf_t h p)))) (jj_S, 782, h, g)) : jj_R mX6_behindOf (d + 0) kc ks (jj_S, 782, h, g) 0 [(0, .ref 43), (1, .int p)] [] Q := by
  refine rr_aload_n 0 rfl rfl dX6_behindOf_0 ?_
  refine rr_getI dX6_behindOf_1 fX6_24 lo_43 sh_43 rfl ?_
  refine rr_aload_n 0 rfl rfl dX6_behindOf_4 ?_
  refine rr_getR dX6_behindOf_5 fX6_9 lo_43 sh_43 rfl ?_
  refine rr_iload_n 1 rfl rfl dX6_behindOf_8 ?_
  refine rr_iaload dX6_behindOf_9 lo_44 sh_44 (by first | assumption | exact vp_in_nI (by omega) (by decide) | decide | omega | exact jj_inL rfl) ?_
  refine rr_isub dX6_behindOf_10 ?_
  refine rr_ireturn dX6_behindOf_11 rfl ?_
  simpa only [vX6_behindOf_t] using kq
def vX6_behindTogether_t (h : Nat → Nat → Int32) (n : Nat) : Int32 := (jj_fo (fun k1 a1 => (a1 + (vX6_behindOf_t h (nI k1)))) n 0)
theorem vc_X6_behindTogether_t {h h2 : Nat → Nat → Int32} {n : Nat} (e43 : h2 43 = h 43) (e44 : h2 44 = h 44) : vX6_behindTogether_t h2 n = vX6_behindTogether_t h n := by
  simp only [vX6_behindTogether_t, e43, e44, vc_X6_behindOf_t e43 e44]
set_option maxHeartbeats 1000000 in
theorem sp_X6_behindTogether_t {d kc ks : Nat} {h : Nat → Nat → Int32} {g : Nat → Nat → Int64} {Q : jj_Rs → jj_St → Prop} {n : Nat} (hn : n ≤ 8) (kq : Q (.inl (some (.int (vX6_behindTogether_t h n)))) (jj_S, 782, h, g)) : jj_R mX6_behindTogether (d + 1) kc ks (jj_S, 782, h, g) 0 [(0, .ref 43), (1, .int (nI n))] [] Q := by
  refine rr_iconst 0 rfl dX6_behindTogether_0 ?_
  refine rr_istore_n [(0, .ref 43), (1, .int (nI n)), (2, .int 0)] dX6_behindTogether_1 rfl (by decide) rfl ?_
  refine rr_iconst 0 rfl dX6_behindTogether_2 ?_
  refine rr_istore_n [(0, .ref 43), (1, .int (nI n)), (2, .int 0), (3, .int 0)] dX6_behindTogether_3 rfl (by decide) rfl ?_
  refine jj_for (fun k1 (a1 : Int32) => jj_R _ _ _ _ (jj_S, 782, h, g) 4 [(0, .ref 43), (1, .int (nI n)), (2, .int a1), (3, .int (nI k1))] [] Q) (fun k1 a1 => (a1 + (vX6_behindOf_t h (nI k1)))) n 0 ?_ ?_
  · intro k1 hk1 ih1
    generalize jj_fo _ k1 _ = a1 at ih1 ⊢
    try dsimp only at ih1 ⊢
    refine rr_iload_n 3 rfl rfl dX6_behindTogether_4 ?_
    refine rr_iload_n 1 rfl rfl dX6_behindTogether_5 ?_
    refine rr_icmp_ge dX6_behindTogether_6 (fun c => absurd c (nI_ge (a := k1) (b := n) (by omega) (by omega))) (fun _ => ?_)
    refine rr_iload_n 3 rfl rfl dX6_behindTogether_9 ?_
    refine rr_bipush 8 rfl dX6_behindTogether_10 ?_
    refine rr_icmp_ge dX6_behindTogether_12 (fun c => absurd c (nI_ge (a := k1) (b := 8) (by omega) (by omega))) (fun _ => ?_)
    refine rr_iload_n 2 rfl rfl dX6_behindTogether_15 ?_
    refine rr_aload_n 0 rfl rfl dX6_behindTogether_16 ?_
    refine rr_iload_n 3 rfl rfl dX6_behindTogether_17 ?_
    refine rr_callV (As := [.int (nI k1)]) (rest := [.int a1]) (kc2 := 0) (ks2 := 0) dX6_behindTogether_18 okX6_behindOf lX6_41 lo_43 sh_43 rfl rfl (Nat.le_of_ble_eq_true rfl) (Nat.le_of_ble_eq_true rfl) rfl (by omega) (by simp [jj_rk]) (by simp [jj_rk]) ?_
    refine sp_X6_behindOf_t (by first | assumption | exact vp_in_nI (by omega) (by decide) | decide | omega | exact jj_inL rfl) ?_
    show jj_R _ _ kc ks (jj_S, 782, h, g) 21 [(0, .ref 43), (1, .int (nI n)), (2, .int a1), (3, .int (nI k1))] [.int (vX6_behindOf_t h (nI k1)), .int a1] Q
    refine rr_iadd dX6_behindTogether_21 ?_
    refine rr_istore_n [(0, .ref 43), (1, .int (nI n)), (2, .int (a1 + (vX6_behindOf_t h (nI k1)))), (3, .int (nI k1))] dX6_behindTogether_22 rfl (by decide) rfl ?_
    refine rr_iinc 3 1 [(0, .ref 43), (1, .int (nI n)), (2, .int (a1 + (vX6_behindOf_t h (nI k1)))), (3, .int ((nI k1) + 1))] dX6_behindTogether_23 rfl rfl (by decide) rfl ?_
    refine rr_goto dX6_behindTogether_26 ?_
    simpa only [nI_1, (nI_clamp (show k1 < 2 ^ 31 by omega))] using ih1
  · try dsimp only
    refine rr_iload_n 3 rfl rfl dX6_behindTogether_4 ?_
    refine rr_iload_n 1 rfl rfl dX6_behindTogether_5 ?_
    refine rr_icmp_ge dX6_behindTogether_6 (fun _ => ?_) (fun c => absurd (jj_le_rf _) c)
    refine rr_iload_n 2 rfl rfl dX6_behindTogether_29 ?_
    refine rr_ireturn dX6_behindTogether_30 rfl ?_
    exact kq
def vX6_slipsTogether_t (h : Nat → Nat → Int32) (n : Nat) : Int32 := (jj_fo (fun k1 a1 => (a1 + (h 46 k1))) n 0)
theorem vc_X6_slipsTogether_t {h h2 : Nat → Nat → Int32} {n : Nat} (e46 : h2 46 = h 46) : vX6_slipsTogether_t h2 n = vX6_slipsTogether_t h n := by
  simp only [vX6_slipsTogether_t, e46]
set_option maxHeartbeats 1000000 in
theorem sp_X6_slipsTogether_t {d kc ks : Nat} {h : Nat → Nat → Int32} {g : Nat → Nat → Int64} {Q : jj_Rs → jj_St → Prop} {n : Nat} (hn : n ≤ 8) (kq : Q (.inl (some (.int (vX6_slipsTogether_t h n)))) (jj_S, 782, h, g)) : jj_R mX6_slipsTogether (d + 0) kc ks (jj_S, 782, h, g) 0 [(0, .ref 43), (1, .int (nI n))] [] Q := by
  refine rr_iconst 0 rfl dX6_slipsTogether_0 ?_
  refine rr_istore_n [(0, .ref 43), (1, .int (nI n)), (2, .int 0)] dX6_slipsTogether_1 rfl (by decide) rfl ?_
  refine rr_iconst 0 rfl dX6_slipsTogether_2 ?_
  refine rr_istore_n [(0, .ref 43), (1, .int (nI n)), (2, .int 0), (3, .int 0)] dX6_slipsTogether_3 rfl (by decide) rfl ?_
  refine jj_for (fun k1 (a1 : Int32) => jj_R _ _ _ _ (jj_S, 782, h, g) 4 [(0, .ref 43), (1, .int (nI n)), (2, .int a1), (3, .int (nI k1))] [] Q) (fun k1 a1 => (a1 + (h 46 k1))) n 0 ?_ ?_
  · intro k1 hk1 ih1
    generalize jj_fo _ k1 _ = a1 at ih1 ⊢
    try dsimp only at ih1 ⊢
    refine rr_iload_n 3 rfl rfl dX6_slipsTogether_4 ?_
    refine rr_iload_n 1 rfl rfl dX6_slipsTogether_5 ?_
    refine rr_icmp_ge dX6_slipsTogether_6 (fun c => absurd c (nI_ge (a := k1) (b := n) (by omega) (by omega))) (fun _ => ?_)
    refine rr_iload_n 3 rfl rfl dX6_slipsTogether_9 ?_
    refine rr_bipush 8 rfl dX6_slipsTogether_10 ?_
    refine rr_icmp_ge dX6_slipsTogether_12 (fun c => absurd c (nI_ge (a := k1) (b := 8) (by omega) (by omega))) (fun _ => ?_)
    refine rr_iload_n 2 rfl rfl dX6_slipsTogether_15 ?_
    refine rr_aload_n 0 rfl rfl dX6_slipsTogether_16 ?_
    refine rr_getR dX6_slipsTogether_17 fX6_18 lo_43 sh_43 rfl ?_
    refine rr_iload_n 3 rfl rfl dX6_slipsTogether_20 ?_
    refine rr_iaload dX6_slipsTogether_21 lo_46 sh_46 (by first | assumption | exact vp_in_nI (by omega) (by decide) | decide | omega | exact jj_inL rfl) ?_
    refine rr_iadd dX6_slipsTogether_22 ?_
    refine rr_istore_n [(0, .ref 43), (1, .int (nI n)), (2, .int (a1 + (h 46 ((nI k1) : Int32).toNatClampNeg))), (3, .int (nI k1))] dX6_slipsTogether_23 rfl (by decide) rfl ?_
    refine rr_iinc 3 1 [(0, .ref 43), (1, .int (nI n)), (2, .int (a1 + (h 46 ((nI k1) : Int32).toNatClampNeg))), (3, .int ((nI k1) + 1))] dX6_slipsTogether_24 rfl rfl (by decide) rfl ?_
    refine rr_goto dX6_slipsTogether_27 ?_
    simpa only [nI_1, (nI_clamp (show k1 < 2 ^ 31 by omega))] using ih1
  · try dsimp only
    refine rr_iload_n 3 rfl rfl dX6_slipsTogether_4 ?_
    refine rr_iload_n 1 rfl rfl dX6_slipsTogether_5 ?_
    refine rr_icmp_ge dX6_slipsTogether_6 (fun _ => ?_) (fun c => absurd (jj_le_rf _) c)
    refine rr_iload_n 2 rfl rfl dX6_slipsTogether_30 ?_
    refine rr_ireturn dX6_slipsTogether_31 rfl ?_
    exact kq
def vX6_behindBits_t (h : Nat → Nat → Int32) (n : Nat) : Int32 := (jj_fo (fun k1 a1 => (if (vX6_behindOf_t h (nI k1)) ≤ 0 then (a1 ||| 0) else (a1 ||| (1 <<< ((nI k1) &&& 31))))) n 0)
theorem vc_X6_behindBits_t {h h2 : Nat → Nat → Int32} {n : Nat} (e43 : h2 43 = h 43) (e44 : h2 44 = h 44) : vX6_behindBits_t h2 n = vX6_behindBits_t h n := by
  simp only [vX6_behindBits_t, e43, e44, vc_X6_behindOf_t e43 e44]
set_option maxHeartbeats 1000000 in
theorem sp_X6_behindBits_t {d kc ks : Nat} {h : Nat → Nat → Int32} {g : Nat → Nat → Int64} {Q : jj_Rs → jj_St → Prop} {n : Nat} (hn : n ≤ 8) (kq : Q (.inl (some (.int (vX6_behindBits_t h n)))) (jj_S, 782, h, g)) : jj_R mX6_behindBits (d + 1) kc ks (jj_S, 782, h, g) 0 [(0, .ref 43), (1, .int (nI n))] [] Q := by
  refine rr_iconst 0 rfl dX6_behindBits_0 ?_
  refine rr_istore_n [(0, .ref 43), (1, .int (nI n)), (2, .int 0)] dX6_behindBits_1 rfl (by decide) rfl ?_
  refine rr_iconst 0 rfl dX6_behindBits_2 ?_
  refine rr_istore_n [(0, .ref 43), (1, .int (nI n)), (2, .int 0), (3, .int 0)] dX6_behindBits_3 rfl (by decide) rfl ?_
  refine jj_for (fun k1 (a1 : Int32) => jj_R _ _ _ _ (jj_S, 782, h, g) 4 [(0, .ref 43), (1, .int (nI n)), (2, .int a1), (3, .int (nI k1))] [] Q) (fun k1 a1 => (if (vX6_behindOf_t h (nI k1)) ≤ 0 then (a1 ||| 0) else (a1 ||| (1 <<< ((nI k1) &&& 31))))) n 0 ?_ ?_
  · intro k1 hk1 ih1
    generalize jj_fo _ k1 _ = a1 at ih1 ⊢
    try dsimp only at ih1 ⊢
    refine rr_iload_n 3 rfl rfl dX6_behindBits_4 ?_
    refine rr_iload_n 1 rfl rfl dX6_behindBits_5 ?_
    refine rr_icmp_ge dX6_behindBits_6 (fun c => absurd c (nI_ge (a := k1) (b := n) (by omega) (by omega))) (fun _ => ?_)
    refine rr_iload_n 3 rfl rfl dX6_behindBits_9 ?_
    refine rr_bipush 8 rfl dX6_behindBits_10 ?_
    refine rr_icmp_ge dX6_behindBits_12 (fun c => absurd c (nI_ge (a := k1) (b := 8) (by omega) (by omega))) (fun _ => ?_)
    refine rr_iload_n 2 rfl rfl dX6_behindBits_15 ?_
    refine rr_aload_n 0 rfl rfl dX6_behindBits_16 ?_
    refine rr_iload_n 3 rfl rfl dX6_behindBits_17 ?_
    refine rr_callV (As := [.int (nI k1)]) (rest := [.int a1]) (kc2 := 0) (ks2 := 0) dX6_behindBits_18 okX6_behindOf lX6_41 lo_43 sh_43 rfl rfl (Nat.le_of_ble_eq_true rfl) (Nat.le_of_ble_eq_true rfl) rfl (by omega) (by simp [jj_rk]) (by simp [jj_rk]) ?_
    refine sp_X6_behindOf_t (by first | assumption | exact vp_in_nI (by omega) (by decide) | decide | omega | exact jj_inL rfl) ?_
    show jj_R _ _ kc ks (jj_S, 782, h, g) 21 [(0, .ref 43), (1, .int (nI n)), (2, .int a1), (3, .int (nI k1))] [.int (vX6_behindOf_t h (nI k1)), .int a1] Q
    refine rr_if_le dX6_behindBits_21 (fun c1 => ?_) (fun c1 => ?_)
    · skip
      refine rr_iconst 0 rfl dX6_behindBits_30 ?_
      refine rr_ior dX6_behindBits_31 ?_
      refine rr_istore_n [(0, .ref 43), (1, .int (nI n)), (2, .int (a1 ||| 0)), (3, .int (nI k1))] dX6_behindBits_32 rfl (by decide) rfl ?_
      refine rr_iinc 3 1 [(0, .ref 43), (1, .int (nI n)), (2, .int (a1 ||| 0)), (3, .int ((nI k1) + 1))] dX6_behindBits_33 rfl rfl (by decide) rfl ?_
      refine rr_goto dX6_behindBits_36 ?_
      try simp only [nI_clamp (show k1 < 2 ^ 31 by omega)] at c1
      simpa only [nI_1, (nI_clamp (show k1 < 2 ^ 31 by omega)), if_pos c1] using ih1
    · skip
      refine rr_iconst 1 rfl dX6_behindBits_24 ?_
      refine rr_iload_n 3 rfl rfl dX6_behindBits_25 ?_
      refine rr_ishl dX6_behindBits_26 ?_
      refine rr_goto dX6_behindBits_27 ?_
      refine rr_ior dX6_behindBits_31 ?_
      refine rr_istore_n [(0, .ref 43), (1, .int (nI n)), (2, .int (a1 ||| (1 <<< ((nI k1) &&& 31)))), (3, .int (nI k1))] dX6_behindBits_32 rfl (by decide) rfl ?_
      refine rr_iinc 3 1 [(0, .ref 43), (1, .int (nI n)), (2, .int (a1 ||| (1 <<< ((nI k1) &&& 31)))), (3, .int ((nI k1) + 1))] dX6_behindBits_33 rfl rfl (by decide) rfl ?_
      refine rr_goto dX6_behindBits_36 ?_
      try simp only [nI_clamp (show k1 < 2 ^ 31 by omega)] at c1
      simpa only [nI_1, (nI_clamp (show k1 < 2 ^ 31 by omega)), if_neg c1] using ih1
  · try dsimp only
    refine rr_iload_n 3 rfl rfl dX6_behindBits_4 ?_
    refine rr_iload_n 1 rfl rfl dX6_behindBits_5 ?_
    refine rr_icmp_ge dX6_behindBits_6 (fun _ => ?_) (fun c => absurd (jj_le_rf _) c)
    refine rr_iload_n 2 rfl rfl dX6_behindBits_39 ?_
    refine rr_ireturn dX6_behindBits_40 rfl ?_
    exact kq
def vX6_tiedBits_t (h : Nat → Nat → Int32) (n : Nat) (w : Int32) : Int32 := (jj_fo (fun k1 a1 => (if (h 45 k1) < w then (a1 ||| 0) else (a1 ||| (1 <<< ((nI k1) &&& 31))))) n 0)
theorem vc_X6_tiedBits_t {h h2 : Nat → Nat → Int32} {n : Nat} {w : Int32} (e45 : h2 45 = h 45) : vX6_tiedBits_t h2 n w = vX6_tiedBits_t h n w := by
  simp only [vX6_tiedBits_t, e45]
set_option maxHeartbeats 1000000 in
theorem sp_X6_tiedBits_t {d kc ks : Nat} {h : Nat → Nat → Int32} {g : Nat → Nat → Int64} {Q : jj_Rs → jj_St → Prop} {n : Nat} {w : Int32} (hn : n ≤ 8) (kq : Q (.inl (some (.int (vX6_tiedBits_t h n w)))) (jj_S, 782, h, g)) : jj_R mX6_tiedBits (d + 0) kc ks (jj_S, 782, h, g) 0 [(0, .ref 43), (1, .int (nI n)), (2, .int w)] [] Q := by
  refine rr_iconst 0 rfl dX6_tiedBits_0 ?_
  refine rr_istore_n [(0, .ref 43), (1, .int (nI n)), (2, .int w), (3, .int 0)] dX6_tiedBits_1 rfl (by decide) rfl ?_
  refine rr_iconst 0 rfl dX6_tiedBits_2 ?_
  refine rr_istore [(0, .ref 43), (1, .int (nI n)), (2, .int w), (3, .int 0), (4, .int 0)] dX6_tiedBits_3 (by decide) rfl ?_
  refine jj_for (fun k1 (a1 : Int32) => jj_R _ _ _ _ (jj_S, 782, h, g) 5 [(0, .ref 43), (1, .int (nI n)), (2, .int w), (3, .int a1), (4, .int (nI k1))] [] Q) (fun k1 a1 => (if (h 45 k1) < w then (a1 ||| 0) else (a1 ||| (1 <<< ((nI k1) &&& 31))))) n 0 ?_ ?_
  · intro k1 hk1 ih1
    generalize jj_fo _ k1 _ = a1 at ih1 ⊢
    try dsimp only at ih1 ⊢
    refine rr_iload 4 rfl dX6_tiedBits_5 ?_
    refine rr_iload_n 1 rfl rfl dX6_tiedBits_7 ?_
    refine rr_icmp_ge dX6_tiedBits_8 (fun c => absurd c (nI_ge (a := k1) (b := n) (by omega) (by omega))) (fun _ => ?_)
    refine rr_iload 4 rfl dX6_tiedBits_11 ?_
    refine rr_bipush 8 rfl dX6_tiedBits_13 ?_
    refine rr_icmp_ge dX6_tiedBits_15 (fun c => absurd c (nI_ge (a := k1) (b := 8) (by omega) (by omega))) (fun _ => ?_)
    refine rr_iload_n 3 rfl rfl dX6_tiedBits_18 ?_
    refine rr_aload_n 0 rfl rfl dX6_tiedBits_19 ?_
    refine rr_getR dX6_tiedBits_20 fX6_15 lo_43 sh_43 rfl ?_
    refine rr_iload 4 rfl dX6_tiedBits_23 ?_
    refine rr_iaload dX6_tiedBits_25 lo_45 sh_45 (by first | assumption | exact vp_in_nI (by omega) (by decide) | decide | omega | exact jj_inL rfl) ?_
    refine rr_iload_n 2 rfl rfl dX6_tiedBits_26 ?_
    refine rr_icmp_lt dX6_tiedBits_27 (fun c1 => ?_) (fun c1 => ?_)
    · skip
      refine rr_iconst 0 rfl dX6_tiedBits_37 ?_
      refine rr_ior dX6_tiedBits_38 ?_
      refine rr_istore_n [(0, .ref 43), (1, .int (nI n)), (2, .int w), (3, .int (a1 ||| 0)), (4, .int (nI k1))] dX6_tiedBits_39 rfl (by decide) rfl ?_
      refine rr_iinc 4 1 [(0, .ref 43), (1, .int (nI n)), (2, .int w), (3, .int (a1 ||| 0)), (4, .int ((nI k1) + 1))] dX6_tiedBits_40 rfl rfl (by decide) rfl ?_
      refine rr_goto dX6_tiedBits_43 ?_
      try simp only [nI_clamp (show k1 < 2 ^ 31 by omega)] at c1
      simpa only [nI_1, (nI_clamp (show k1 < 2 ^ 31 by omega)), if_pos c1] using ih1
    · skip
      refine rr_iconst 1 rfl dX6_tiedBits_30 ?_
      refine rr_iload 4 rfl dX6_tiedBits_31 ?_
      refine rr_ishl dX6_tiedBits_33 ?_
      refine rr_goto dX6_tiedBits_34 ?_
      refine rr_ior dX6_tiedBits_38 ?_
      refine rr_istore_n [(0, .ref 43), (1, .int (nI n)), (2, .int w), (3, .int (a1 ||| (1 <<< ((nI k1) &&& 31)))), (4, .int (nI k1))] dX6_tiedBits_39 rfl (by decide) rfl ?_
      refine rr_iinc 4 1 [(0, .ref 43), (1, .int (nI n)), (2, .int w), (3, .int (a1 ||| (1 <<< ((nI k1) &&& 31)))), (4, .int ((nI k1) + 1))] dX6_tiedBits_40 rfl rfl (by decide) rfl ?_
      refine rr_goto dX6_tiedBits_43 ?_
      try simp only [nI_clamp (show k1 < 2 ^ 31 by omega)] at c1
      simpa only [nI_1, (nI_clamp (show k1 < 2 ^ 31 by omega)), if_neg c1] using ih1
  · try dsimp only
    refine rr_iload 4 rfl dX6_tiedBits_5 ?_
    refine rr_iload_n 1 rfl rfl dX6_tiedBits_7 ?_
    refine rr_icmp_ge dX6_tiedBits_8 (fun _ => ?_) (fun c => absurd (jj_le_rf _) c)
    refine rr_iload_n 3 rfl rfl dX6_tiedBits_46 ?_
    refine rr_ireturn dX6_tiedBits_47 rfl ?_
    exact kq
def vX6_bitsInDay_t (h : Nat → Nat → Int32) (n : Nat) (w : Int32) : Int32 := (jj_fo (fun k1 a1 => (if (h 44 k1) = w then (a1 ||| (1 <<< ((nI k1) &&& 31))) else (a1 ||| 0))) n 0)
theorem vc_X6_bitsInDay_t {h h2 : Nat → Nat → Int32} {n : Nat} {w : Int32} (e44 : h2 44 = h 44) : vX6_bitsInDay_t h2 n w = vX6_bitsInDay_t h n w := by
  simp only [vX6_bitsInDay_t, e44]
set_option maxHeartbeats 1000000 in
theorem sp_X6_bitsInDay_t {d kc ks : Nat} {h : Nat → Nat → Int32} {g : Nat → Nat → Int64} {Q : jj_Rs → jj_St → Prop} {n : Nat} {w : Int32} (hn : n ≤ 8) (kq : Q (.inl (some (.int (vX6_bitsInDay_t h n w)))) (jj_S, 782, h, g)) : jj_R mX6_bitsInDay (d + 0) kc ks (jj_S, 782, h, g) 0 [(0, .ref 43), (1, .int (nI n)), (2, .int w)] [] Q := by
  refine rr_iconst 0 rfl dX6_bitsInDay_0 ?_
  refine rr_istore_n [(0, .ref 43), (1, .int (nI n)), (2, .int w), (3, .int 0)] dX6_bitsInDay_1 rfl (by decide) rfl ?_
  refine rr_iconst 0 rfl dX6_bitsInDay_2 ?_
  refine rr_istore [(0, .ref 43), (1, .int (nI n)), (2, .int w), (3, .int 0), (4, .int 0)] dX6_bitsInDay_3 (by decide) rfl ?_
  refine jj_for (fun k1 (a1 : Int32) => jj_R _ _ _ _ (jj_S, 782, h, g) 5 [(0, .ref 43), (1, .int (nI n)), (2, .int w), (3, .int a1), (4, .int (nI k1))] [] Q) (fun k1 a1 => (if (h 44 k1) = w then (a1 ||| (1 <<< ((nI k1) &&& 31))) else (a1 ||| 0))) n 0 ?_ ?_
  · intro k1 hk1 ih1
    generalize jj_fo _ k1 _ = a1 at ih1 ⊢
    try dsimp only at ih1 ⊢
    refine rr_iload 4 rfl dX6_bitsInDay_5 ?_
    refine rr_iload_n 1 rfl rfl dX6_bitsInDay_7 ?_
    refine rr_icmp_ge dX6_bitsInDay_8 (fun c => absurd c (nI_ge (a := k1) (b := n) (by omega) (by omega))) (fun _ => ?_)
    refine rr_iload 4 rfl dX6_bitsInDay_11 ?_
    refine rr_bipush 8 rfl dX6_bitsInDay_13 ?_
    refine rr_icmp_ge dX6_bitsInDay_15 (fun c => absurd c (nI_ge (a := k1) (b := 8) (by omega) (by omega))) (fun _ => ?_)
    refine rr_iload_n 3 rfl rfl dX6_bitsInDay_18 ?_
    refine rr_aload_n 0 rfl rfl dX6_bitsInDay_19 ?_
    refine rr_getR dX6_bitsInDay_20 fX6_9 lo_43 sh_43 rfl ?_
    refine rr_iload 4 rfl dX6_bitsInDay_23 ?_
    refine rr_iaload dX6_bitsInDay_25 lo_44 sh_44 (by first | assumption | exact vp_in_nI (by omega) (by decide) | decide | omega | exact jj_inL rfl) ?_
    refine rr_iload_n 2 rfl rfl dX6_bitsInDay_26 ?_
    refine rr_icmp_ne dX6_bitsInDay_27 (fun c1 => ?_) (fun c1 => ?_)
    · skip
      refine rr_iconst 0 rfl dX6_bitsInDay_37 ?_
      refine rr_ior dX6_bitsInDay_38 ?_
      refine rr_istore_n [(0, .ref 43), (1, .int (nI n)), (2, .int w), (3, .int (a1 ||| 0)), (4, .int (nI k1))] dX6_bitsInDay_39 rfl (by decide) rfl ?_
      refine rr_iinc 4 1 [(0, .ref 43), (1, .int (nI n)), (2, .int w), (3, .int (a1 ||| 0)), (4, .int ((nI k1) + 1))] dX6_bitsInDay_40 rfl rfl (by decide) rfl ?_
      refine rr_goto dX6_bitsInDay_43 ?_
      try simp only [nI_clamp (show k1 < 2 ^ 31 by omega)] at c1
      simpa only [nI_1, (nI_clamp (show k1 < 2 ^ 31 by omega)), if_neg c1] using ih1
    · skip
      refine rr_iconst 1 rfl dX6_bitsInDay_30 ?_
      refine rr_iload 4 rfl dX6_bitsInDay_31 ?_
      refine rr_ishl dX6_bitsInDay_33 ?_
      refine rr_goto dX6_bitsInDay_34 ?_
      refine rr_ior dX6_bitsInDay_38 ?_
      refine rr_istore_n [(0, .ref 43), (1, .int (nI n)), (2, .int w), (3, .int (a1 ||| (1 <<< ((nI k1) &&& 31)))), (4, .int (nI k1))] dX6_bitsInDay_39 rfl (by decide) rfl ?_
      refine rr_iinc 4 1 [(0, .ref 43), (1, .int (nI n)), (2, .int w), (3, .int (a1 ||| (1 <<< ((nI k1) &&& 31)))), (4, .int ((nI k1) + 1))] dX6_bitsInDay_40 rfl rfl (by decide) rfl ?_
      refine rr_goto dX6_bitsInDay_43 ?_
      try simp only [nI_clamp (show k1 < 2 ^ 31 by omega)] at c1
      simpa only [nI_1, (nI_clamp (show k1 < 2 ^ 31 by omega)), if_pos c1] using ih1
  · try dsimp only
    refine rr_iload 4 rfl dX6_bitsInDay_5 ?_
    refine rr_iload_n 1 rfl rfl dX6_bitsInDay_7 ?_
    refine rr_icmp_ge dX6_bitsInDay_8 (fun _ => ?_) (fun c => absurd (jj_le_rf _) c)
    refine rr_iload_n 3 rfl rfl dX6_bitsInDay_46 ?_
    refine rr_ireturn dX6_bitsInDay_47 rfl ?_
    exact kq
def hX6_passDay_t (h : Nat → Nat → Int32) (n : Nat) : Nat → Nat → Int32 := (jj_fo (fun k1 a1 => (if (a1 45 k1) = 1 then (if (vX6_isCut_t (jj_u2 a1 45 k1 0) (nI k1)) = 0 then (jj_u2 a1 45 k1 0) else (jj_u2 (jj_u2 a1 45 k1 0) 44 k1 (a1 43 0))) else (if (a1 45 k1) = 2 then (if (vX6_isCut_t (jj_u2 a1 44 k1 ((a1 44 k1) + 1)) (nI k1)) = 0 then (jj_u2 a1 44 k1 ((a1 44 k1) + 1)) else (jj_u2 (jj_u2 a1 44 k1 ((a1 44 k1) + 1)) 44 k1 (a1 43 0))) else (if (vX6_isCut_t a1 (nI k1)) = 0 then a1 else (jj_u2 a1 44 k1 (a1 43 0)))))) n (jj_u2 h 43 0 ((h 43 0) + 1)))
theorem hx_X6_passDay_t {X : List Nat} {h h2 : Nat → Nat → Int32} {n : Nat} (e : jj_eq X h h2) (hX : ∀ o, o ∈ [43] → o ∉ X) : jj_eq X (hX6_passDay_t h n) (hX6_passDay_t h2 n) := by
  have e43 : h2 43 = h 43 := e 43 (hX 43 (by decide))
  unfold hX6_passDay_t
  try simp only [e43, vc_X6_isCut_t e43]
  repeat (first | exact e | assumption | exact jj_eq.rf | refine jj_eq.u2 ?_ _ _ _ | refine jj_eq.cp ?_ _ _ _ _ _ (hX _ (by decide)) (hX _ (by decide)) | split | refine jj_fo_rel ?_ (fun k a b hk hab => ?_))
theorem hw_X6_passDay_t {h : Nat → Nat → Int32} {n : Nat} : jj_eq [43, 44, 45] h (hX6_passDay_t h n) := by
  unfold hX6_passDay_t
  repeat (first | exact jj_eq.rf | assumption | refine jj_eq.sw ?_ _ _ _ (by decide) | refine jj_eq.scp ?_ _ _ _ _ _ (by decide) | (refine jj_fo_I (I := fun x => jj_eq [43, 44, 45] h x) ?_ (fun k x hk hx => ?_)) | split)
set_option maxHeartbeats 1000000 in
theorem sp_X6_passDay_t {d kc ks : Nat} {h : Nat → Nat → Int32} {g : Nat → Nat → Int64} {Q : jj_Rs → jj_St → Prop} {n : Nat} (hn : n ≤ 8) (kq : Q (.inl none) (jj_S, 782, (hX6_passDay_t h n), g)) : jj_R mX6_passDay (d + 1) kc ks (jj_S, 782, h, g) 0 [(0, .ref 43), (1, .int (nI n))] [] Q := by
  refine rr_aload_n 0 rfl rfl dX6_passDay_0 ?_
  refine rr_dup rfl dX6_passDay_1 ?_
  refine rr_getI dX6_passDay_2 fX6_24 lo_43 sh_43 rfl ?_
  refine rr_iconst 1 rfl dX6_passDay_5 ?_
  refine rr_iadd dX6_passDay_6 ?_
  refine rr_putI dX6_passDay_7 fX6_24 ni6_0 lo_43 sh_43 rfl ?_
  refine rr_iconst 0 rfl dX6_passDay_10 ?_
  refine rr_istore_n [(0, .ref 43), (1, .int (nI n)), (2, .int 0)] dX6_passDay_11 rfl (by decide) rfl ?_
  refine jj_for (fun k1 (a1 : (Nat → Nat → Int32)) => jj_R _ _ _ _ (jj_S, 782, a1, g) 12 [(0, .ref 43), (1, .int (nI n)), (2, .int (nI k1))] [] Q) (fun k1 a1 => (if (a1 45 k1) = 1 then (if (vX6_isCut_t (jj_u2 a1 45 k1 0) (nI k1)) = 0 then (jj_u2 a1 45 k1 0) else (jj_u2 (jj_u2 a1 45 k1 0) 44 k1 (a1 43 0))) else (if (a1 45 k1) = 2 then (if (vX6_isCut_t (jj_u2 a1 44 k1 ((a1 44 k1) + 1)) (nI k1)) = 0 then (jj_u2 a1 44 k1 ((a1 44 k1) + 1)) else (jj_u2 (jj_u2 a1 44 k1 ((a1 44 k1) + 1)) 44 k1 (a1 43 0))) else (if (vX6_isCut_t a1 (nI k1)) = 0 then a1 else (jj_u2 a1 44 k1 (a1 43 0)))))) n (jj_u2 h 43 0 ((h 43 0) + 1)) ?_ ?_
  · intro k1 hk1 ih1
    generalize jj_fo _ k1 _ = a1 at ih1 ⊢
    try dsimp only at ih1 ⊢
    refine rr_iload_n 2 rfl rfl dX6_passDay_12 ?_
    refine rr_iload_n 1 rfl rfl dX6_passDay_13 ?_
    refine rr_icmp_ge dX6_passDay_14 (fun c => absurd c (nI_ge (a := k1) (b := n) (by omega) (by omega))) (fun _ => ?_)
    refine rr_iload_n 2 rfl rfl dX6_passDay_17 ?_
    refine rr_bipush 8 rfl dX6_passDay_18 ?_
    refine rr_icmp_ge dX6_passDay_20 (fun c => absurd c (nI_ge (a := k1) (b := 8) (by omega) (by omega))) (fun _ => ?_)
    refine rr_aload_n 0 rfl rfl dX6_passDay_23 ?_
    refine rr_getR dX6_passDay_24 fX6_15 lo_43 sh_43 rfl ?_
    refine rr_iload_n 2 rfl rfl dX6_passDay_27 ?_
    refine rr_iaload dX6_passDay_28 lo_45 sh_45 (by first | assumption | exact vp_in_nI (by omega) (by decide) | decide | omega | exact jj_inL rfl) ?_
    refine rr_iconst 1 rfl dX6_passDay_29 ?_
    refine rr_icmp_ne dX6_passDay_30 (fun c1 => ?_) (fun c1 => ?_)
    · skip
      refine rr_aload_n 0 rfl rfl dX6_passDay_43 ?_
      refine rr_getR dX6_passDay_44 fX6_15 lo_43 sh_43 rfl ?_
      refine rr_iload_n 2 rfl rfl dX6_passDay_47 ?_
      refine rr_iaload dX6_passDay_48 lo_45 sh_45 (by first | assumption | exact vp_in_nI (by omega) (by decide) | decide | omega | exact jj_inL rfl) ?_
      refine rr_iconst 2 rfl dX6_passDay_49 ?_
      refine rr_icmp_ne dX6_passDay_50 (fun c2 => ?_) (fun c2 => ?_)
      · skip
        refine rr_aload_n 0 rfl rfl dX6_passDay_63 ?_
        refine rr_iload_n 2 rfl rfl dX6_passDay_64 ?_
        refine rr_callV (As := [.int (nI k1)]) (rest := []) (kc2 := 0) (ks2 := 0) dX6_passDay_65 okX6_isCut lX6_34 lo_43 sh_43 rfl rfl (Nat.le_of_ble_eq_true rfl) (Nat.le_of_ble_eq_true rfl) rfl (by omega) (by simp [jj_rk]) (by simp [jj_rk]) ?_
        refine sp_X6_isCut_t  ?_
        show jj_R _ _ kc ks (jj_S, 782, a1, g) 68 [(0, .ref 43), (1, .int (nI n)), (2, .int (nI k1))] [.int (vX6_isCut_t a1 (nI k1))] Q
        refine rr_if_eq dX6_passDay_68 (fun c3 => ?_) (fun c3 => ?_)
        · skip
          refine rr_iinc 2 1 [(0, .ref 43), (1, .int (nI n)), (2, .int ((nI k1) + 1))] dX6_passDay_81 rfl rfl (by decide) rfl ?_
          refine rr_goto dX6_passDay_84 ?_
          try simp only [nI_clamp (show k1 < 2 ^ 31 by omega)] at c1
          try simp only [nI_clamp (show k1 < 2 ^ 31 by omega)] at c2
          try simp only [nI_clamp (show k1 < 2 ^ 31 by omega)] at c3
          simpa only [nI_1, (nI_clamp (show k1 < 2 ^ 31 by omega)), if_neg c1, if_neg c2, if_pos c3] using ih1
        · skip
          refine rr_aload_n 0 rfl rfl dX6_passDay_71 ?_
          refine rr_getR dX6_passDay_72 fX6_9 lo_43 sh_43 rfl ?_
          refine rr_iload_n 2 rfl rfl dX6_passDay_75 ?_
          refine rr_aload_n 0 rfl rfl dX6_passDay_76 ?_
          refine rr_getI dX6_passDay_77 fX6_24 lo_43 sh_43 rfl ?_
          refine rr_iastore dX6_passDay_80 lo_44 sh_44 (by first | assumption | exact vp_in_nI (by omega) (by decide) | decide | omega | exact jj_inL rfl) ?_
          refine rr_iinc 2 1 [(0, .ref 43), (1, .int (nI n)), (2, .int ((nI k1) + 1))] dX6_passDay_81 rfl rfl (by decide) rfl ?_
          refine rr_goto dX6_passDay_84 ?_
          try simp only [nI_clamp (show k1 < 2 ^ 31 by omega)] at c1
          try simp only [nI_clamp (show k1 < 2 ^ 31 by omega)] at c2
          try simp only [nI_clamp (show k1 < 2 ^ 31 by omega)] at c3
          simpa only [nI_1, (nI_clamp (show k1 < 2 ^ 31 by omega)), if_neg c1, if_neg c2, if_neg c3] using ih1
      · skip
        refine rr_aload_n 0 rfl rfl dX6_passDay_53 ?_
        refine rr_getR dX6_passDay_54 fX6_9 lo_43 sh_43 rfl ?_
        refine rr_iload_n 2 rfl rfl dX6_passDay_57 ?_
        refine rr_dup2 rfl rfl dX6_passDay_58 ?_
        refine rr_iaload dX6_passDay_59 lo_44 sh_44 (by first | assumption | exact vp_in_nI (by omega) (by decide) | decide | omega | exact jj_inL rfl) ?_
        refine rr_iconst 1 rfl dX6_passDay_60 ?_
        refine rr_iadd dX6_passDay_61 ?_
        refine rr_iastore dX6_passDay_62 lo_44 sh_44 (by first | assumption | exact vp_in_nI (by omega) (by decide) | decide | omega | exact jj_inL rfl) ?_
        refine rr_aload_n 0 rfl rfl dX6_passDay_63 ?_
        refine rr_iload_n 2 rfl rfl dX6_passDay_64 ?_
        refine rr_callV (As := [.int (nI k1)]) (rest := []) (kc2 := 0) (ks2 := 0) dX6_passDay_65 okX6_isCut lX6_34 lo_43 sh_43 rfl rfl (Nat.le_of_ble_eq_true rfl) (Nat.le_of_ble_eq_true rfl) rfl (by omega) (by simp [jj_rk]) (by simp [jj_rk]) ?_
        refine sp_X6_isCut_t  ?_
        show jj_R _ _ kc ks (jj_S, 782, (jj_u2 a1 44 ((nI k1) : Int32).toNatClampNeg ((a1 44 ((nI k1) : Int32).toNatClampNeg) + 1)), g) 68 [(0, .ref 43), (1, .int (nI n)), (2, .int (nI k1))] [.int (vX6_isCut_t (jj_u2 a1 44 ((nI k1) : Int32).toNatClampNeg ((a1 44 ((nI k1) : Int32).toNatClampNeg) + 1)) (nI k1))] Q
        refine rr_if_eq dX6_passDay_68 (fun c4 => ?_) (fun c4 => ?_)
        · skip
          refine rr_iinc 2 1 [(0, .ref 43), (1, .int (nI n)), (2, .int ((nI k1) + 1))] dX6_passDay_81 rfl rfl (by decide) rfl ?_
          refine rr_goto dX6_passDay_84 ?_
          try simp only [nI_clamp (show k1 < 2 ^ 31 by omega)] at c1
          try simp only [nI_clamp (show k1 < 2 ^ 31 by omega)] at c2
          try simp only [nI_clamp (show k1 < 2 ^ 31 by omega)] at c4
          simpa only [nI_1, (nI_clamp (show k1 < 2 ^ 31 by omega)), if_neg c1, if_pos c2, if_pos c4] using ih1
        · skip
          refine rr_aload_n 0 rfl rfl dX6_passDay_71 ?_
          refine rr_getR dX6_passDay_72 fX6_9 lo_43 sh_43 rfl ?_
          refine rr_iload_n 2 rfl rfl dX6_passDay_75 ?_
          refine rr_aload_n 0 rfl rfl dX6_passDay_76 ?_
          refine rr_getI dX6_passDay_77 fX6_24 lo_43 sh_43 rfl ?_
          rw [jj_u2_ne (h := a1) (o := 44) (a := 43) (by decide)]
          refine rr_iastore dX6_passDay_80 lo_44 sh_44 (by first | assumption | exact vp_in_nI (by omega) (by decide) | decide | omega | exact jj_inL rfl) ?_
          refine rr_iinc 2 1 [(0, .ref 43), (1, .int (nI n)), (2, .int ((nI k1) + 1))] dX6_passDay_81 rfl rfl (by decide) rfl ?_
          refine rr_goto dX6_passDay_84 ?_
          try simp only [nI_clamp (show k1 < 2 ^ 31 by omega)] at c1
          try simp only [nI_clamp (show k1 < 2 ^ 31 by omega)] at c2
          try simp only [nI_clamp (show k1 < 2 ^ 31 by omega)] at c4
          simpa only [nI_1, (nI_clamp (show k1 < 2 ^ 31 by omega)), if_neg c1, if_pos c2, if_neg c4] using ih1
    · skip
      refine rr_aload_n 0 rfl rfl dX6_passDay_33 ?_
      refine rr_getR dX6_passDay_34 fX6_15 lo_43 sh_43 rfl ?_
      refine rr_iload_n 2 rfl rfl dX6_passDay_37 ?_
      refine rr_iconst 0 rfl dX6_passDay_38 ?_
      refine rr_iastore dX6_passDay_39 lo_45 sh_45 (by first | assumption | exact vp_in_nI (by omega) (by decide) | decide | omega | exact jj_inL rfl) ?_
      refine rr_goto dX6_passDay_40 ?_
      refine rr_aload_n 0 rfl rfl dX6_passDay_63 ?_
      refine rr_iload_n 2 rfl rfl dX6_passDay_64 ?_
      refine rr_callV (As := [.int (nI k1)]) (rest := []) (kc2 := 0) (ks2 := 0) dX6_passDay_65 okX6_isCut lX6_34 lo_43 sh_43 rfl rfl (Nat.le_of_ble_eq_true rfl) (Nat.le_of_ble_eq_true rfl) rfl (by omega) (by simp [jj_rk]) (by simp [jj_rk]) ?_
      refine sp_X6_isCut_t  ?_
      show jj_R _ _ kc ks (jj_S, 782, (jj_u2 a1 45 ((nI k1) : Int32).toNatClampNeg 0), g) 68 [(0, .ref 43), (1, .int (nI n)), (2, .int (nI k1))] [.int (vX6_isCut_t (jj_u2 a1 45 ((nI k1) : Int32).toNatClampNeg 0) (nI k1))] Q
      refine rr_if_eq dX6_passDay_68 (fun c5 => ?_) (fun c5 => ?_)
      · skip
        refine rr_iinc 2 1 [(0, .ref 43), (1, .int (nI n)), (2, .int ((nI k1) + 1))] dX6_passDay_81 rfl rfl (by decide) rfl ?_
        refine rr_goto dX6_passDay_84 ?_
        try simp only [nI_clamp (show k1 < 2 ^ 31 by omega)] at c1
        try simp only [nI_clamp (show k1 < 2 ^ 31 by omega)] at c5
        simpa only [nI_1, (nI_clamp (show k1 < 2 ^ 31 by omega)), if_pos c1, if_pos c5] using ih1
      · skip
        refine rr_aload_n 0 rfl rfl dX6_passDay_71 ?_
        refine rr_getR dX6_passDay_72 fX6_9 lo_43 sh_43 rfl ?_
        refine rr_iload_n 2 rfl rfl dX6_passDay_75 ?_
        refine rr_aload_n 0 rfl rfl dX6_passDay_76 ?_
        refine rr_getI dX6_passDay_77 fX6_24 lo_43 sh_43 rfl ?_
        rw [jj_u2_ne (h := a1) (o := 45) (a := 43) (by decide)]
        refine rr_iastore dX6_passDay_80 lo_44 sh_44 (by first | assumption | exact vp_in_nI (by omega) (by decide) | decide | omega | exact jj_inL rfl) ?_
        refine rr_iinc 2 1 [(0, .ref 43), (1, .int (nI n)), (2, .int ((nI k1) + 1))] dX6_passDay_81 rfl rfl (by decide) rfl ?_
        refine rr_goto dX6_passDay_84 ?_
        try simp only [nI_clamp (show k1 < 2 ^ 31 by omega)] at c1
        try simp only [nI_clamp (show k1 < 2 ^ 31 by omega)] at c5
        simpa only [nI_1, (nI_clamp (show k1 < 2 ^ 31 by omega)), if_pos c1, if_neg c5] using ih1
  · try dsimp only
    refine rr_iload_n 2 rfl rfl dX6_passDay_12 ?_
    refine rr_iload_n 1 rfl rfl dX6_passDay_13 ?_
    refine rr_icmp_ge dX6_passDay_14 (fun _ => ?_) (fun c => absurd (jj_le_rf _) c)
    refine rr_return dX6_passDay_87 rfl ?_
    exact kq
def hX6_copyFrom (h : Nat → Nat → Int32)  : Nat → Nat → Int32 := (jj_fo (fun k1 a1 => (jj_u2 (jj_u2 (jj_u2 (jj_u2 a1 44 k1 (a1 39 k1)) 45 k1 (a1 40 k1)) 46 k1 (a1 41 k1)) 47 k1 (a1 42 k1))) 8 (jj_u2 (jj_u2 (jj_u2 h 43 0 (h 38 0)) 43 1 (h 38 1)) 43 2 (h 38 2)))
theorem hx_X6_copyFrom {X : List Nat} {h h2 : Nat → Nat → Int32}  (e : jj_eq X h h2) (hX : ∀ o, o ∈ [38] → o ∉ X) : jj_eq X (hX6_copyFrom h) (hX6_copyFrom h2) := by
  have e38 : h2 38 = h 38 := e 38 (hX 38 (by decide))
  unfold hX6_copyFrom
  try simp only [e38]
  repeat (first | exact e | assumption | exact jj_eq.rf | refine jj_eq.u2 ?_ _ _ _ | refine jj_eq.cp ?_ _ _ _ _ _ (hX _ (by decide)) (hX _ (by decide)) | split | refine jj_fo_rel ?_ (fun k a b hk hab => ?_))
theorem hw_X6_copyFrom {h : Nat → Nat → Int32}  : jj_eq [43, 44, 45, 46, 47] h (hX6_copyFrom h) := by
  unfold hX6_copyFrom
  repeat (first | exact jj_eq.rf | assumption | refine jj_eq.sw ?_ _ _ _ (by decide) | refine jj_eq.scp ?_ _ _ _ _ _ (by decide) | (refine jj_fo_I (I := fun x => jj_eq [43, 44, 45, 46, 47] h x) ?_ (fun k x hk hx => ?_)) | split)
set_option maxHeartbeats 1000000 in
theorem sp_X6_copyFrom {d kc ks : Nat} {h : Nat → Nat → Int32} {g : Nat → Nat → Int64} {Q : jj_Rs → jj_St → Prop}  (kq : Q (.inl none) (jj_S, 782, (hX6_copyFrom h), g)) : jj_R mX6_copyFrom (d + 0) kc ks (jj_S, 782, h, g) 0 [(0, .ref 43), (1, .ref 38)] [] Q := by
  refine rr_aload_n 0 rfl rfl dX6_copyFrom_0 ?_
  refine rr_aload_n 1 rfl rfl dX6_copyFrom_1 ?_
  refine rr_getI dX6_copyFrom_2 fX6_24 lo_38 sh_38 rfl ?_
  refine rr_putI dX6_copyFrom_5 fX6_24 ni6_0 lo_43 sh_43 rfl ?_
  refine rr_aload_n 0 rfl rfl dX6_copyFrom_8 ?_
  refine rr_aload_n 1 rfl rfl dX6_copyFrom_9 ?_
  refine rr_getI dX6_copyFrom_10 fX6_28 lo_38 sh_38 rfl ?_
  rw [jj_u2_ne (h := h) (o := 43) (a := 38) (by decide)]
  refine rr_putI dX6_copyFrom_13 fX6_28 ni6_1 lo_43 sh_43 rfl ?_
  refine rr_aload_n 0 rfl rfl dX6_copyFrom_16 ?_
  refine rr_aload_n 1 rfl rfl dX6_copyFrom_17 ?_
  refine rr_getI dX6_copyFrom_18 fX6_31 lo_38 sh_38 rfl ?_
  rw [jj_u2_ne (h := (jj_u2 h 43 0 (h 38 0))) (o := 43) (a := 38) (by decide)]
  rw [jj_u2_ne (h := h) (o := 43) (a := 38) (by decide)]
  refine rr_putI dX6_copyFrom_21 fX6_31 ni6_2 lo_43 sh_43 rfl ?_
  refine rr_iconst 0 rfl dX6_copyFrom_24 ?_
  refine rr_istore_n [(0, .ref 43), (1, .ref 38), (2, .int 0)] dX6_copyFrom_25 rfl (by decide) rfl ?_
  refine jj_for (fun k1 (a1 : (Nat → Nat → Int32)) => jj_R _ _ _ _ (jj_S, 782, a1, g) 26 [(0, .ref 43), (1, .ref 38), (2, .int (nI k1))] [] Q) (fun k1 a1 => (jj_u2 (jj_u2 (jj_u2 (jj_u2 a1 44 k1 (a1 39 k1)) 45 k1 (a1 40 k1)) 46 k1 (a1 41 k1)) 47 k1 (a1 42 k1))) 8 (jj_u2 (jj_u2 (jj_u2 h 43 0 (h 38 0)) 43 1 (h 38 1)) 43 2 (h 38 2)) ?_ ?_
  · intro k1 hk1 ih1
    generalize jj_fo _ k1 _ = a1 at ih1 ⊢
    try dsimp only at ih1 ⊢
    refine rr_iload_n 2 rfl rfl dX6_copyFrom_26 ?_
    refine rr_bipush 8 rfl dX6_copyFrom_27 ?_
    refine rr_icmp_ge dX6_copyFrom_29 (fun c => absurd c (nI_ge (a := k1) (b := 8) (by omega) (by omega))) (fun _ => ?_)
    refine rr_aload_n 0 rfl rfl dX6_copyFrom_32 ?_
    refine rr_getR dX6_copyFrom_33 fX6_9 lo_43 sh_43 rfl ?_
    refine rr_iload_n 2 rfl rfl dX6_copyFrom_36 ?_
    refine rr_aload_n 1 rfl rfl dX6_copyFrom_37 ?_
    refine rr_getR dX6_copyFrom_38 fX6_9 lo_38 sh_38 rfl ?_
    refine rr_iload_n 2 rfl rfl dX6_copyFrom_41 ?_
    refine rr_iaload dX6_copyFrom_42 lo_39 sh_39 (by first | assumption | exact vp_in_nI (by omega) (by decide) | decide | omega | exact jj_inL rfl) ?_
    refine rr_iastore dX6_copyFrom_43 lo_44 sh_44 (by first | assumption | exact vp_in_nI (by omega) (by decide) | decide | omega | exact jj_inL rfl) ?_
    refine rr_aload_n 0 rfl rfl dX6_copyFrom_44 ?_
    refine rr_getR dX6_copyFrom_45 fX6_15 lo_43 sh_43 rfl ?_
    refine rr_iload_n 2 rfl rfl dX6_copyFrom_48 ?_
    refine rr_aload_n 1 rfl rfl dX6_copyFrom_49 ?_
    refine rr_getR dX6_copyFrom_50 fX6_15 lo_38 sh_38 rfl ?_
    refine rr_iload_n 2 rfl rfl dX6_copyFrom_53 ?_
    refine rr_iaload dX6_copyFrom_54 lo_40 sh_40 (by first | assumption | exact vp_in_nI (by omega) (by decide) | decide | omega | exact jj_inL rfl) ?_
    rw [jj_u2_ne (h := a1) (o := 44) (a := 40) (by decide)]
    refine rr_iastore dX6_copyFrom_55 lo_45 sh_45 (by first | assumption | exact vp_in_nI (by omega) (by decide) | decide | omega | exact jj_inL rfl) ?_
    refine rr_aload_n 0 rfl rfl dX6_copyFrom_56 ?_
    refine rr_getR dX6_copyFrom_57 fX6_18 lo_43 sh_43 rfl ?_
    refine rr_iload_n 2 rfl rfl dX6_copyFrom_60 ?_
    refine rr_aload_n 1 rfl rfl dX6_copyFrom_61 ?_
    refine rr_getR dX6_copyFrom_62 fX6_18 lo_38 sh_38 rfl ?_
    refine rr_iload_n 2 rfl rfl dX6_copyFrom_65 ?_
    refine rr_iaload dX6_copyFrom_66 lo_41 sh_41 (by first | assumption | exact vp_in_nI (by omega) (by decide) | decide | omega | exact jj_inL rfl) ?_
    rw [jj_u2_ne (h := (jj_u2 a1 44 ((nI k1) : Int32).toNatClampNeg (a1 39 ((nI k1) : Int32).toNatClampNeg))) (o := 45) (a := 41) (by decide)]
    rw [jj_u2_ne (h := a1) (o := 44) (a := 41) (by decide)]
    refine rr_iastore dX6_copyFrom_67 lo_46 sh_46 (by first | assumption | exact vp_in_nI (by omega) (by decide) | decide | omega | exact jj_inL rfl) ?_
    refine rr_aload_n 0 rfl rfl dX6_copyFrom_68 ?_
    refine rr_getR dX6_copyFrom_69 fX6_21 lo_43 sh_43 rfl ?_
    refine rr_iload_n 2 rfl rfl dX6_copyFrom_72 ?_
    refine rr_aload_n 1 rfl rfl dX6_copyFrom_73 ?_
    refine rr_getR dX6_copyFrom_74 fX6_21 lo_38 sh_38 rfl ?_
    refine rr_iload_n 2 rfl rfl dX6_copyFrom_77 ?_
    refine rr_iaload dX6_copyFrom_78 lo_42 sh_42 (by first | assumption | exact vp_in_nI (by omega) (by decide) | decide | omega | exact jj_inL rfl) ?_
    rw [jj_u2_ne (h := (jj_u2 (jj_u2 a1 44 ((nI k1) : Int32).toNatClampNeg (a1 39 ((nI k1) : Int32).toNatClampNeg)) 45 ((nI k1) : Int32).toNatClampNeg (a1 40 ((nI k1) : Int32).toNatClampNeg))) (o := 46) (a := 42) (by decide)]
    rw [jj_u2_ne (h := (jj_u2 a1 44 ((nI k1) : Int32).toNatClampNeg (a1 39 ((nI k1) : Int32).toNatClampNeg))) (o := 45) (a := 42) (by decide)]
    rw [jj_u2_ne (h := a1) (o := 44) (a := 42) (by decide)]
    refine rr_iastore dX6_copyFrom_79 lo_47 sh_47 (by first | assumption | exact vp_in_nI (by omega) (by decide) | decide | omega | exact jj_inL rfl) ?_
    refine rr_iinc 2 1 [(0, .ref 43), (1, .ref 38), (2, .int ((nI k1) + 1))] dX6_copyFrom_80 rfl rfl (by decide) rfl ?_
    refine rr_goto dX6_copyFrom_83 ?_
    simpa only [nI_1, (nI_clamp (show k1 < 2 ^ 31 by omega))] using ih1
  · try dsimp only
    refine rr_iload_n 2 rfl rfl dX6_copyFrom_26 ?_
    refine rr_bipush 8 rfl dX6_copyFrom_27 ?_
    refine rr_icmp_ge dX6_copyFrom_29 (fun _ => ?_) (fun c => absurd (jj_le_rf _) c)
    refine rr_return dX6_copyFrom_86 rfl ?_
    exact kq
def hX6_begin (h : Nat → Nat → Int32)  : Nat → Nat → Int32 := (jj_fo (fun k1 a1 => (jj_u2 (jj_u2 (jj_u2 (jj_u2 a1 39 k1 0) 40 k1 0) 41 k1 0) 42 k1 (-1))) 8 (jj_u2 (jj_u2 (jj_u2 h 38 0 0) 38 1 0) 38 2 0))
theorem hx_X6_begin {X : List Nat} {h h2 : Nat → Nat → Int32}  (e : jj_eq X h h2) (hX : ∀ o, o ∈ [] → o ∉ X) : jj_eq X (hX6_begin h) (hX6_begin h2) := by
  unfold hX6_begin
  repeat (first | exact e | assumption | exact jj_eq.rf | refine jj_eq.u2 ?_ _ _ _ | refine jj_eq.cp ?_ _ _ _ _ _ (hX _ (by decide)) (hX _ (by decide)) | split | refine jj_fo_rel ?_ (fun k a b hk hab => ?_))
theorem hw_X6_begin {h : Nat → Nat → Int32}  : jj_eq [38, 39, 40, 41, 42] h (hX6_begin h) := by
  unfold hX6_begin
  repeat (first | exact jj_eq.rf | assumption | refine jj_eq.sw ?_ _ _ _ (by decide) | refine jj_eq.scp ?_ _ _ _ _ _ (by decide) | (refine jj_fo_I (I := fun x => jj_eq [38, 39, 40, 41, 42] h x) ?_ (fun k x hk hx => ?_)) | split)
set_option maxHeartbeats 1000000 in
theorem sp_X6_begin {d kc ks : Nat} {h : Nat → Nat → Int32} {g : Nat → Nat → Int64} {Q : jj_Rs → jj_St → Prop}  (kq : Q (.inl none) (jj_S, 782, (hX6_begin h), g)) : jj_R mX6_begin (d + 0) kc ks (jj_S, 782, h, g) 0 [(0, .ref 38)] [] Q := by
  refine rr_aload_n 0 rfl rfl dX6_begin_0 ?_
  refine rr_iconst 0 rfl dX6_begin_1 ?_
  refine rr_putI dX6_begin_2 fX6_24 ni6_0 lo_38 sh_38 rfl ?_
  refine rr_aload_n 0 rfl rfl dX6_begin_5 ?_
  refine rr_iconst 0 rfl dX6_begin_6 ?_
  refine rr_putI dX6_begin_7 fX6_28 ni6_1 lo_38 sh_38 rfl ?_
  refine rr_aload_n 0 rfl rfl dX6_begin_10 ?_
  refine rr_iconst 0 rfl dX6_begin_11 ?_
  refine rr_putI dX6_begin_12 fX6_31 ni6_2 lo_38 sh_38 rfl ?_
  refine rr_iconst 0 rfl dX6_begin_15 ?_
  refine rr_istore_n [(0, .ref 38), (1, .int 0)] dX6_begin_16 rfl (by decide) rfl ?_
  refine jj_for (fun k1 (a1 : (Nat → Nat → Int32)) => jj_R _ _ _ _ (jj_S, 782, a1, g) 17 [(0, .ref 38), (1, .int (nI k1))] [] Q) (fun k1 a1 => (jj_u2 (jj_u2 (jj_u2 (jj_u2 a1 39 k1 0) 40 k1 0) 41 k1 0) 42 k1 (-1))) 8 (jj_u2 (jj_u2 (jj_u2 h 38 0 0) 38 1 0) 38 2 0) ?_ ?_
  · intro k1 hk1 ih1
    generalize jj_fo _ k1 _ = a1 at ih1 ⊢
    try dsimp only at ih1 ⊢
    refine rr_iload_n 1 rfl rfl dX6_begin_17 ?_
    refine rr_bipush 8 rfl dX6_begin_18 ?_
    refine rr_icmp_ge dX6_begin_20 (fun c => absurd c (nI_ge (a := k1) (b := 8) (by omega) (by omega))) (fun _ => ?_)
    refine rr_aload_n 0 rfl rfl dX6_begin_23 ?_
    refine rr_getR dX6_begin_24 fX6_9 lo_38 sh_38 rfl ?_
    refine rr_iload_n 1 rfl rfl dX6_begin_27 ?_
    refine rr_iconst 0 rfl dX6_begin_28 ?_
    refine rr_iastore dX6_begin_29 lo_39 sh_39 (by first | assumption | exact vp_in_nI (by omega) (by decide) | decide | omega | exact jj_inL rfl) ?_
    refine rr_aload_n 0 rfl rfl dX6_begin_30 ?_
    refine rr_getR dX6_begin_31 fX6_15 lo_38 sh_38 rfl ?_
    refine rr_iload_n 1 rfl rfl dX6_begin_34 ?_
    refine rr_iconst 0 rfl dX6_begin_35 ?_
    refine rr_iastore dX6_begin_36 lo_40 sh_40 (by first | assumption | exact vp_in_nI (by omega) (by decide) | decide | omega | exact jj_inL rfl) ?_
    refine rr_aload_n 0 rfl rfl dX6_begin_37 ?_
    refine rr_getR dX6_begin_38 fX6_18 lo_38 sh_38 rfl ?_
    refine rr_iload_n 1 rfl rfl dX6_begin_41 ?_
    refine rr_iconst 0 rfl dX6_begin_42 ?_
    refine rr_iastore dX6_begin_43 lo_41 sh_41 (by first | assumption | exact vp_in_nI (by omega) (by decide) | decide | omega | exact jj_inL rfl) ?_
    refine rr_aload_n 0 rfl rfl dX6_begin_44 ?_
    refine rr_getR dX6_begin_45 fX6_21 lo_38 sh_38 rfl ?_
    refine rr_iload_n 1 rfl rfl dX6_begin_48 ?_
    refine rr_iconst (-1) rfl dX6_begin_49 ?_
    refine rr_iastore dX6_begin_50 lo_42 sh_42 (by first | assumption | exact vp_in_nI (by omega) (by decide) | decide | omega | exact jj_inL rfl) ?_
    refine rr_iinc 1 1 [(0, .ref 38), (1, .int ((nI k1) + 1))] dX6_begin_51 rfl rfl (by decide) rfl ?_
    refine rr_goto dX6_begin_54 ?_
    simpa only [nI_1, (nI_clamp (show k1 < 2 ^ 31 by omega))] using ih1
  · try dsimp only
    refine rr_iload_n 1 rfl rfl dX6_begin_17 ?_
    refine rr_bipush 8 rfl dX6_begin_18 ?_
    refine rr_icmp_ge dX6_begin_20 (fun _ => ?_) (fun c => absurd (jj_le_rf _) c)
    refine rr_return dX6_begin_57 rfl ?_
    exact kq
