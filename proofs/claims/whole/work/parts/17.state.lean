def vX6_isCut_n (r38 : Nat → Int32) (p : Int32) : Int32 := (if ((r38 2) &&& (1 <<< (p &&& 31))) = 0 then 0 else 1)
set_option maxHeartbeats 1000000 in
theorem sp_X6_isCut_n {d kc ks : Nat} {h : Nat → Nat → Int32} {g : Nat → Nat → Int64} {Q : jj_Rs → jj_St → Prop} {p : Int32} (kq : Q (.inl (some (.int (vX6_isCut_n (h 38) p)))) (jj_S, 782, h, g)) : jj_R mX6_isCut (d + 0) kc ks (jj_S, 782, h, g) 0 [(0, .ref 38), (1, .int p)] [] Q := by
  refine rr_aload_n 0 rfl rfl dX6_isCut_0 ?_
  refine rr_getI dX6_isCut_1 fX6_31 lo_38 sh_38 rfl ?_
  refine rr_iconst 1 rfl dX6_isCut_4 ?_
  refine rr_iload_n 1 rfl rfl dX6_isCut_5 ?_
  refine rr_ishl dX6_isCut_6 ?_
  refine rr_iand dX6_isCut_7 ?_
  refine rr_if_eq dX6_isCut_8 (fun c1 => ?_) (fun c1 => ?_)
  · skip
    refine rr_iconst 0 rfl dX6_isCut_15 ?_
    refine rr_nreturn dX6_isCut_16 rfl (by first | rfl | assumption) ?_
    simpa only [vX6_isCut_n, if_pos c1] using kq
  · skip
    refine rr_iconst 1 rfl dX6_isCut_11 ?_
    refine rr_goto dX6_isCut_12 ?_
    refine rr_nreturn dX6_isCut_16 rfl (by first | rfl | assumption) ?_
    simpa only [vX6_isCut_n, if_neg c1] using kq
def vX6_isLoose_n (r38 : Nat → Int32) (r40 : Nat → Int32) (p : Int32) : Int32 := (if (r40 (p : Int32).toNatClampNeg) = 0 then (if (vX6_isCut_n r38 p) = 0 then 1 else 0) else 0)
set_option maxHeartbeats 1000000 in
theorem sp_X6_isLoose_n {d kc ks : Nat} {h : Nat → Nat → Int32} {g : Nat → Nat → Int64} {Q : jj_Rs → jj_St → Prop} {p : Int32} (hp : vp_in p 8) (kq : Q (.inl (some (.int (vX6_isLoose_n (h 38) (h 40) p)))) (jj_S, 782, h, g)) : jj_R mX6_isLoose (d + 1) kc ks (jj_S, 782, h, g) 0 [(0, .ref 38), (1, .int p)] [] Q := by
  refine rr_aload_n 0 rfl rfl dX6_isLoose_0 ?_
  refine rr_getR dX6_isLoose_1 fX6_15 lo_38 sh_38 rfl ?_
  refine rr_iload_n 1 rfl rfl dX6_isLoose_4 ?_
  refine rr_iaload dX6_isLoose_5 lo_40 sh_40 (by first | assumption | exact vp_in_nI (by omega) (by decide) | decide | omega | exact jj_inL rfl) ?_
  refine rr_if_ne dX6_isLoose_6 (fun c1 => ?_) (fun c1 => ?_)
  · skip
    refine rr_iconst 0 rfl dX6_isLoose_21 ?_
    refine rr_nreturn dX6_isLoose_22 rfl (by first | rfl | assumption) ?_
    simpa only [vX6_isLoose_n, if_neg c1] using kq
  · skip
    refine rr_aload_n 0 rfl rfl dX6_isLoose_9 ?_
    refine rr_iload_n 1 rfl rfl dX6_isLoose_10 ?_
    refine rr_callV (As := [.int p]) (rest := []) (kc2 := 0) (ks2 := 0) dX6_isLoose_11 okX6_isCut lX6_34 lo_38 sh_38 rfl rfl (Nat.le_of_ble_eq_true rfl) (Nat.le_of_ble_eq_true rfl) rfl (by omega) (by simp [jj_rk]) (by simp [jj_rk]) ?_
    refine sp_X6_isCut_n  ?_
    show jj_R _ _ kc ks (jj_S, 782, h, g) 14 [(0, .ref 38), (1, .int p)] [.int (vX6_isCut_n (h 38) p)] Q
    refine rr_if_ne dX6_isLoose_14 (fun c2 => ?_) (fun c2 => ?_)
    · skip
      refine rr_iconst 0 rfl dX6_isLoose_21 ?_
      refine rr_nreturn dX6_isLoose_22 rfl (by first | rfl | assumption) ?_
      simpa only [vX6_isLoose_n, if_pos c1, if_neg c2] using kq
    · skip
      refine rr_iconst 1 rfl dX6_isLoose_17 ?_
      refine rr_goto dX6_isLoose_18 ?_
      refine rr_nreturn dX6_isLoose_22 rfl (by first | rfl | assumption) ?_
      simpa only [vX6_isLoose_n, if_pos c1, if_pos c2] using kq
def vX6_mayTie_n (r38 : Nat → Int32) (r40 : Nat → Int32) (a : Int32) (b : Int32) : Int32 := (if (vX6_isLoose_n r38 r40 b) = 0 then 0 else (if a = b then 1 else (if (r40 (a : Int32).toNatClampNeg) = 0 then 0 else 1)))
set_option maxHeartbeats 1000000 in
theorem sp_X6_mayTie_n {d kc ks : Nat} {h : Nat → Nat → Int32} {g : Nat → Nat → Int64} {Q : jj_Rs → jj_St → Prop} {a : Int32} {b : Int32} (ha : vp_in a 8) (hb : vp_in b 8) (kq : Q (.inl (some (.int (vX6_mayTie_n (h 38) (h 40) a b)))) (jj_S, 782, h, g)) : jj_R mX6_mayTie (d + 2) kc ks (jj_S, 782, h, g) 0 [(0, .ref 38), (1, .int a), (2, .int b)] [] Q := by
  refine rr_aload_n 0 rfl rfl dX6_mayTie_0 ?_
  refine rr_iload_n 2 rfl rfl dX6_mayTie_1 ?_
  refine rr_callV (As := [.int b]) (rest := []) (kc2 := 0) (ks2 := 0) dX6_mayTie_2 okX6_isLoose lX6_38 lo_38 sh_38 rfl rfl (Nat.le_of_ble_eq_true rfl) (Nat.le_of_ble_eq_true rfl) rfl (by omega) (by simp [jj_rk]) (by simp [jj_rk]) ?_
  refine sp_X6_isLoose_n (by first | assumption | exact vp_in_nI (by omega) (by decide) | decide | omega | exact jj_inL rfl) ?_
  show jj_R _ _ kc ks (jj_S, 782, h, g) 5 [(0, .ref 38), (1, .int a), (2, .int b)] [.int (vX6_isLoose_n (h 38) (h 40) b)] Q
  refine rr_if_eq dX6_mayTie_5 (fun c1 => ?_) (fun c1 => ?_)
  · skip
    refine rr_iconst 0 rfl dX6_mayTie_26 ?_
    refine rr_nreturn dX6_mayTie_27 rfl (by first | rfl | assumption) ?_
    simpa only [vX6_mayTie_n, if_pos c1] using kq
  · skip
    refine rr_iload_n 1 rfl rfl dX6_mayTie_8 ?_
    refine rr_iload_n 2 rfl rfl dX6_mayTie_9 ?_
    refine rr_icmp_eq dX6_mayTie_10 (fun c2 => ?_) (fun c2 => ?_)
    · skip
      refine rr_iconst 1 rfl dX6_mayTie_22 ?_
      refine rr_goto dX6_mayTie_23 ?_
      refine rr_nreturn dX6_mayTie_27 rfl (by first | rfl | assumption) ?_
      simpa only [vX6_mayTie_n, if_neg c1, if_pos c2] using kq
    · skip
      refine rr_aload_n 0 rfl rfl dX6_mayTie_13 ?_
      refine rr_getR dX6_mayTie_14 fX6_15 lo_38 sh_38 rfl ?_
      refine rr_iload_n 1 rfl rfl dX6_mayTie_17 ?_
      refine rr_iaload dX6_mayTie_18 lo_40 sh_40 (by first | assumption | exact vp_in_nI (by omega) (by decide) | decide | omega | exact jj_inL rfl) ?_
      refine rr_if_eq dX6_mayTie_19 (fun c3 => ?_) (fun c3 => ?_)
      · skip
        refine rr_iconst 0 rfl dX6_mayTie_26 ?_
        refine rr_nreturn dX6_mayTie_27 rfl (by first | rfl | assumption) ?_
        simpa only [vX6_mayTie_n, if_neg c1, if_neg c2, if_pos c3] using kq
      · skip
        refine rr_iconst 1 rfl dX6_mayTie_22 ?_
        refine rr_goto dX6_mayTie_23 ?_
        refine rr_nreturn dX6_mayTie_27 rfl (by first | rfl | assumption) ?_
        simpa only [vX6_mayTie_n, if_neg c1, if_neg c2, if_neg c3] using kq
def vX6_behindOf_n (r38 : Nat → Int32) (r39 : Nat → Int32) (p : Int32) : Int32 := ((r38 0) - (r39 (p : Int32).toNatClampNeg))
set_option maxHeartbeats 1000000 in
theorem sp_X6_behindOf_n {d kc ks : Nat} {h : Nat → Nat → Int32} {g : Nat → Nat → Int64} {Q : jj_Rs → jj_St → Prop} {p : Int32} (hp : vp_in p 8) (kq : Q (.inl (some (.int (vX6_behindOf_n (h 38) (h 39) p)))) (jj_S, 782, h, g)) : jj_R mX6_behindOf (d + 0) kc ks (jj_S, 782, h, g) 0 [(0, .ref 38), (1, .int p)] [] Q := by
  refine rr_aload_n 0 rfl rfl dX6_behindOf_0 ?_
  refine rr_getI dX6_behindOf_1 fX6_24 lo_38 sh_38 rfl ?_
  refine rr_aload_n 0 rfl rfl dX6_behindOf_4 ?_
  refine rr_getR dX6_behindOf_5 fX6_9 lo_38 sh_38 rfl ?_
  refine rr_iload_n 1 rfl rfl dX6_behindOf_8 ?_
  refine rr_iaload dX6_behindOf_9 lo_39 sh_39 (by first | assumption | exact vp_in_nI (by omega) (by decide) | decide | omega | exact jj_inL rfl) ?_
  refine rr_isub dX6_behindOf_10 ?_
  refine rr_ireturn dX6_behindOf_11 rfl ?_
  simpa only [vX6_behindOf_n] using kq
def vX6_behindTogether_n (r38 : Nat → Int32) (r39 : Nat → Int32) (n : Nat) : Int32 := (jj_fo (fun k1 a1 => (a1 + (vX6_behindOf_n r38 r39 (nI k1)))) n 0)
set_option maxHeartbeats 1000000 in
theorem sp_X6_behindTogether_n {d kc ks : Nat} {h : Nat → Nat → Int32} {g : Nat → Nat → Int64} {Q : jj_Rs → jj_St → Prop} {n : Nat} (hn : n ≤ 8) (kq : Q (.inl (some (.int (vX6_behindTogether_n (h 38) (h 39) n)))) (jj_S, 782, h, g)) : jj_R mX6_behindTogether (d + 1) kc ks (jj_S, 782, h, g) 0 [(0, .ref 38), (1, .int (nI n))] [] Q := by
  refine rr_iconst 0 rfl dX6_behindTogether_0 ?_
  refine rr_istore_n [(0, .ref 38), (1, .int (nI n)), (2, .int 0)] dX6_behindTogether_1 rfl (by decide) rfl ?_
  refine rr_iconst 0 rfl dX6_behindTogether_2 ?_
  refine rr_istore_n [(0, .ref 38), (1, .int (nI n)), (2, .int 0), (3, .int 0)] dX6_behindTogether_3 rfl (by decide) rfl ?_
  refine jj_for (fun k1 (a1 : Int32) => jj_R _ _ kc ks (jj_S, 782, h, g) 4 [(0, .ref 38), (1, .int (nI n)), (2, .int a1), (3, .int (nI k1))] [] Q) (fun k1 a1 => (a1 + (vX6_behindOf_n (h 38) (h 39) (nI k1)))) n 0 ?_ ?_
  · intro k1 hk1 ih1
    generalize jj_fo _ k1 _ = a1 at ih1 ⊢
    try dsimp only at ih1 ⊢
    refine rr_iload_n 3 rfl rfl dX6_behindTogether_4 ?_
    refine rr_iload_n 1 rfl rfl dX6_behindTogether_5 ?_
    refine rr_icmp_ge dX6_behindTogether_6 (fun c => absurd c (nI_ge (a := k1) (b := n) (by omega) (by omega))) (fun _ => ?_)
    refine rr_iload_n 3 rfl rfl dX6_behindTogether_9 ?_
    refine rr_bipush 8 rfl dX6_behindTogether_10 ?_
    refine rr_icmp_ge dX6_behindTogether_12 (fun c => absurd c (nI_ge (a := k1) (b := 8) (by omega) (by omega))) (fun _ => ?_)
    refine rr_iload_n 2 rfl rfl dX6_behindTogether_15 ?_
    refine rr_aload_n 0 rfl rfl dX6_behindTogether_16 ?_
    refine rr_iload_n 3 rfl rfl dX6_behindTogether_17 ?_
    refine rr_callV (As := [.int (nI k1)]) (rest := [.int a1]) (kc2 := 0) (ks2 := 0) dX6_behindTogether_18 okX6_behindOf lX6_41 lo_38 sh_38 rfl rfl (Nat.le_of_ble_eq_true rfl) (Nat.le_of_ble_eq_true rfl) rfl (by omega) (by simp [jj_rk]) (by simp [jj_rk]) ?_
    refine sp_X6_behindOf_n (by first | assumption | exact vp_in_nI (by omega) (by decide) | decide | omega | exact jj_inL rfl) ?_
    show jj_R _ _ kc ks (jj_S, 782, h, g) 21 [(0, .ref 38), (1, .int (nI n)), (2, .int a1), (3, .int (nI k1))] [.int (vX6_behindOf_n (h 38) (h 39) (nI k1)), .int a1] Q
    refine rr_iadd dX6_behindTogether_21 ?_
    refine rr_istore_n [(0, .ref 38), (1, .int (nI n)), (2, .int (a1 + (vX6_behindOf_n (h 38) (h 39) (nI k1)))), (3, .int (nI k1))] dX6_behindTogether_22 rfl (by decide) rfl ?_
    refine rr_iinc 3 1 [(0, .ref 38), (1, .int (nI n)), (2, .int (a1 + (vX6_behindOf_n (h 38) (h 39) (nI k1)))), (3, .int ((nI k1) + 1))] dX6_behindTogether_23 rfl rfl (by decide) rfl ?_
    refine rr_goto dX6_behindTogether_26 ?_
    simpa only [nI_1, (nI_clamp (show k1 < 2 ^ 31 by omega))] using ih1
  · try dsimp only
    refine rr_iload_n 3 rfl rfl dX6_behindTogether_4 ?_
    refine rr_iload_n 1 rfl rfl dX6_behindTogether_5 ?_
    refine rr_icmp_ge dX6_behindTogether_6 (fun _ => ?_) (fun c => absurd (jj_le_rf _) c)
    refine rr_iload_n 2 rfl rfl dX6_behindTogether_29 ?_
    refine rr_ireturn dX6_behindTogether_30 rfl ?_
    simpa only [vX6_behindTogether_n] using kq
def vX6_slipsTogether_n (r41 : Nat → Int32) (n : Nat) : Int32 := (jj_fo (fun k1 a1 => (a1 + (r41 k1))) n 0)
set_option maxHeartbeats 1000000 in
theorem sp_X6_slipsTogether_n {d kc ks : Nat} {h : Nat → Nat → Int32} {g : Nat → Nat → Int64} {Q : jj_Rs → jj_St → Prop} {n : Nat} (hn : n ≤ 8) (kq : Q (.inl (some (.int (vX6_slipsTogether_n (h 41) n)))) (jj_S, 782, h, g)) : jj_R mX6_slipsTogether (d + 0) kc ks (jj_S, 782, h, g) 0 [(0, .ref 38), (1, .int (nI n))] [] Q := by
  refine rr_iconst 0 rfl dX6_slipsTogether_0 ?_
  refine rr_istore_n [(0, .ref 38), (1, .int (nI n)), (2, .int 0)] dX6_slipsTogether_1 rfl (by decide) rfl ?_
  refine rr_iconst 0 rfl dX6_slipsTogether_2 ?_
  refine rr_istore_n [(0, .ref 38), (1, .int (nI n)), (2, .int 0), (3, .int 0)] dX6_slipsTogether_3 rfl (by decide) rfl ?_
  refine jj_for (fun k1 (a1 : Int32) => jj_R _ _ kc ks (jj_S, 782, h, g) 4 [(0, .ref 38), (1, .int (nI n)), (2, .int a1), (3, .int (nI k1))] [] Q) (fun k1 a1 => (a1 + ((h 41) k1))) n 0 ?_ ?_
  · intro k1 hk1 ih1
    generalize jj_fo _ k1 _ = a1 at ih1 ⊢
    try dsimp only at ih1 ⊢
    refine rr_iload_n 3 rfl rfl dX6_slipsTogether_4 ?_
    refine rr_iload_n 1 rfl rfl dX6_slipsTogether_5 ?_
    refine rr_icmp_ge dX6_slipsTogether_6 (fun c => absurd c (nI_ge (a := k1) (b := n) (by omega) (by omega))) (fun _ => ?_)
    refine rr_iload_n 3 rfl rfl dX6_slipsTogether_9 ?_
    refine rr_bipush 8 rfl dX6_slipsTogether_10 ?_
    refine rr_icmp_ge dX6_slipsTogether_12 (fun c => absurd c (nI_ge (a := k1) (b := 8) (by omega) (by omega))) (fun _ => ?_)
    refine rr_iload_n 2 rfl rfl dX6_slipsTogether_15 ?_
    refine rr_aload_n 0 rfl rfl dX6_slipsTogether_16 ?_
    refine rr_getR dX6_slipsTogether_17 fX6_18 lo_38 sh_38 rfl ?_
    refine rr_iload_n 3 rfl rfl dX6_slipsTogether_20 ?_
    refine rr_iaload dX6_slipsTogether_21 lo_41 sh_41 (by first | assumption | exact vp_in_nI (by omega) (by decide) | decide | omega | exact jj_inL rfl) ?_
    refine rr_iadd dX6_slipsTogether_22 ?_
    refine rr_istore_n [(0, .ref 38), (1, .int (nI n)), (2, .int (a1 + ((h 41) ((nI k1) : Int32).toNatClampNeg))), (3, .int (nI k1))] dX6_slipsTogether_23 rfl (by decide) rfl ?_
    refine rr_iinc 3 1 [(0, .ref 38), (1, .int (nI n)), (2, .int (a1 + ((h 41) ((nI k1) : Int32).toNatClampNeg))), (3, .int ((nI k1) + 1))] dX6_slipsTogether_24 rfl rfl (by decide) rfl ?_
    refine rr_goto dX6_slipsTogether_27 ?_
    simpa only [nI_1, (nI_clamp (show k1 < 2 ^ 31 by omega))] using ih1
  · try dsimp only
    refine rr_iload_n 3 rfl rfl dX6_slipsTogether_4 ?_
    refine rr_iload_n 1 rfl rfl dX6_slipsTogether_5 ?_
    refine rr_icmp_ge dX6_slipsTogether_6 (fun _ => ?_) (fun c => absurd (jj_le_rf _) c)
    refine rr_iload_n 2 rfl rfl dX6_slipsTogether_30 ?_
    refine rr_ireturn dX6_slipsTogether_31 rfl ?_
    simpa only [vX6_slipsTogether_n] using kq
def vX6_behindBits_n (r38 : Nat → Int32) (r39 : Nat → Int32) (n : Nat) : Int32 := (jj_fo (fun k1 a1 => (if (vX6_behindOf_n r38 r39 (nI k1)) ≤ 0 then (a1 ||| 0) else (a1 ||| (1 <<< ((nI k1) &&& 31))))) n 0)
set_option maxHeartbeats 1000000 in
theorem sp_X6_behindBits_n {d kc ks : Nat} {h : Nat → Nat → Int32} {g : Nat → Nat → Int64} {Q : jj_Rs → jj_St → Prop} {n : Nat} (hn : n ≤ 8) (kq : Q (.inl (some (.int (vX6_behindBits_n (h 38) (h 39) n)))) (jj_S, 782, h, g)) : jj_R mX6_behindBits (d + 1) kc ks (jj_S, 782, h, g) 0 [(0, .ref 38), (1, .int (nI n))] [] Q := by
  refine rr_iconst 0 rfl dX6_behindBits_0 ?_
  refine rr_istore_n [(0, .ref 38), (1, .int (nI n)), (2, .int 0)] dX6_behindBits_1 rfl (by decide) rfl ?_
  refine rr_iconst 0 rfl dX6_behindBits_2 ?_
  refine rr_istore_n [(0, .ref 38), (1, .int (nI n)), (2, .int 0), (3, .int 0)] dX6_behindBits_3 rfl (by decide) rfl ?_
  refine jj_for (fun k1 (a1 : Int32) => jj_R _ _ kc ks (jj_S, 782, h, g) 4 [(0, .ref 38), (1, .int (nI n)), (2, .int a1), (3, .int (nI k1))] [] Q) (fun k1 a1 => (if (vX6_behindOf_n (h 38) (h 39) (nI k1)) ≤ 0 then (a1 ||| 0) else (a1 ||| (1 <<< ((nI k1) &&& 31))))) n 0 ?_ ?_
  · intro k1 hk1 ih1
    generalize jj_fo _ k1 _ = a1 at ih1 ⊢
    try dsimp only at ih1 ⊢
    refine rr_iload_n 3 rfl rfl dX6_behindBits_4 ?_
    refine rr_iload_n 1 rfl rfl dX6_behindBits_5 ?_
    refine rr_icmp_ge dX6_behindBits_6 (fun c => absurd c (nI_ge (a := k1) (b := n) (by omega) (by omega))) (fun _ => ?_)
    refine rr_iload_n 3 rfl rfl dX6_behindBits_9 ?_
    refine rr_bipush 8 rfl dX6_behindBits_10 ?_
    refine rr_icmp_ge dX6_behindBits_12 (fun c => absurd c (nI_ge (a := k1) (b := 8) (by omega) (by omega))) (fun _ => ?_)
    refine rr_iload_n 2 rfl rfl dX6_behindBits_15 ?_
    refine rr_aload_n 0 rfl rfl dX6_behindBits_16 ?_
    refine rr_iload_n 3 rfl rfl dX6_behindBits_17 ?_
    refine rr_callV (As := [.int (nI k1)]) (rest := [.int a1]) (kc2 := 0) (ks2 := 0) dX6_behindBits_18 okX6_behindOf lX6_41 lo_38 sh_38 rfl rfl (Nat.le_of_ble_eq_true rfl) (Nat.le_of_ble_eq_true rfl) rfl (by omega) (by simp [jj_rk]) (by simp [jj_rk]) ?_
    refine sp_X6_behindOf_n (by first | assumption | exact vp_in_nI (by omega) (by decide) | decide | omega | exact jj_inL rfl) ?_
    show jj_R _ _ kc ks (jj_S, 782, h, g) 21 [(0, .ref 38), (1, .int (nI n)), (2, .int a1), (3, .int (nI k1))] [.int (vX6_behindOf_n (h 38) (h 39) (nI k1)), .int a1] Q
    refine rr_if_le dX6_behindBits_21 (fun c1 => ?_) (fun c1 => ?_)
    · skip
      refine rr_iconst 0 rfl dX6_behindBits_30 ?_
      refine rr_ior dX6_behindBits_31 ?_
      refine rr_istore_n [(0, .ref 38), (1, .int (nI n)), (2, .int (a1 ||| 0)), (3, .int (nI k1))] dX6_behindBits_32 rfl (by decide) rfl ?_
      refine rr_iinc 3 1 [(0, .ref 38), (1, .int (nI n)), (2, .int (a1 ||| 0)), (3, .int ((nI k1) + 1))] dX6_behindBits_33 rfl rfl (by decide) rfl ?_
      refine rr_goto dX6_behindBits_36 ?_
      try simp only [(nI_clamp (show k1 < 2 ^ 31 by omega))] at c1
      simpa only [nI_1, (nI_clamp (show k1 < 2 ^ 31 by omega)), if_pos c1] using ih1
    · skip
      refine rr_iconst 1 rfl dX6_behindBits_24 ?_
      refine rr_iload_n 3 rfl rfl dX6_behindBits_25 ?_
      refine rr_ishl dX6_behindBits_26 ?_
      refine rr_goto dX6_behindBits_27 ?_
      refine rr_ior dX6_behindBits_31 ?_
      refine rr_istore_n [(0, .ref 38), (1, .int (nI n)), (2, .int (a1 ||| (1 <<< ((nI k1) &&& 31)))), (3, .int (nI k1))] dX6_behindBits_32 rfl (by decide) rfl ?_
      refine rr_iinc 3 1 [(0, .ref 38), (1, .int (nI n)), (2, .int (a1 ||| (1 <<< ((nI k1) &&& 31)))), (3, .int ((nI k1) + 1))] dX6_behindBits_33 rfl rfl (by decide) rfl ?_
      refine rr_goto dX6_behindBits_36 ?_
      try simp only [(nI_clamp (show k1 < 2 ^ 31 by omega))] at c1
      simpa only [nI_1, (nI_clamp (show k1 < 2 ^ 31 by omega)), if_neg c1] using ih1
  · try dsimp only
    refine rr_iload_n 3 rfl rfl dX6_behindBits_4 ?_
    refine rr_iload_n 1 rfl rfl dX6_behindBits_5 ?_
    refine rr_icmp_ge dX6_behindBits_6 (fun _ => ?_) (fun c => absurd (jj_le_rf _) c)
    refine rr_iload_n 2 rfl rfl dX6_behindBits_39 ?_
    refine rr_ireturn dX6_behindBits_40 rfl ?_
    simpa only [vX6_behindBits_n] using kq
def vX6_tiedBits_n (r40 : Nat → Int32) (n : Nat) (w : Int32) : Int32 := (jj_fo (fun k1 a1 => (if (r40 k1) < w then (a1 ||| 0) else (a1 ||| (1 <<< ((nI k1) &&& 31))))) n 0)
set_option maxHeartbeats 1000000 in
theorem sp_X6_tiedBits_n {d kc ks : Nat} {h : Nat → Nat → Int32} {g : Nat → Nat → Int64} {Q : jj_Rs → jj_St → Prop} {n : Nat} {w : Int32} (hn : n ≤ 8) (kq : Q (.inl (some (.int (vX6_tiedBits_n (h 40) n w)))) (jj_S, 782, h, g)) : jj_R mX6_tiedBits (d + 0) kc ks (jj_S, 782, h, g) 0 [(0, .ref 38), (1, .int (nI n)), (2, .int w)] [] Q := by
  refine rr_iconst 0 rfl dX6_tiedBits_0 ?_
  refine rr_istore_n [(0, .ref 38), (1, .int (nI n)), (2, .int w), (3, .int 0)] dX6_tiedBits_1 rfl (by decide) rfl ?_
  refine rr_iconst 0 rfl dX6_tiedBits_2 ?_
  refine rr_istore [(0, .ref 38), (1, .int (nI n)), (2, .int w), (3, .int 0), (4, .int 0)] dX6_tiedBits_3 (by decide) rfl ?_
  refine jj_for (fun k1 (a1 : Int32) => jj_R _ _ kc ks (jj_S, 782, h, g) 5 [(0, .ref 38), (1, .int (nI n)), (2, .int w), (3, .int a1), (4, .int (nI k1))] [] Q) (fun k1 a1 => (if ((h 40) k1) < w then (a1 ||| 0) else (a1 ||| (1 <<< ((nI k1) &&& 31))))) n 0 ?_ ?_
  · intro k1 hk1 ih1
    generalize jj_fo _ k1 _ = a1 at ih1 ⊢
    try dsimp only at ih1 ⊢
    refine rr_iload 4 rfl dX6_tiedBits_5 ?_
    refine rr_iload_n 1 rfl rfl dX6_tiedBits_7 ?_
    refine rr_icmp_ge dX6_tiedBits_8 (fun c => absurd c (nI_ge (a := k1) (b := n) (by omega) (by omega))) (fun _ => ?_)
    refine rr_iload 4 rfl dX6_tiedBits_11 ?_
    refine rr_bipush 8 rfl dX6_tiedBits_13 ?_
    refine rr_icmp_ge dX6_tiedBits_15 (fun c => absurd c (nI_ge (a := k1) (b := 8) (by omega) (by omega))) (fun _ => ?_)
    refine rr_iload_n 3 rfl rfl dX6_tiedBits_18 ?_
    refine rr_aload_n 0 rfl rfl dX6_tiedBits_19 ?_
    refine rr_getR dX6_tiedBits_20 fX6_15 lo_38 sh_38 rfl ?_
    refine rr_iload 4 rfl dX6_tiedBits_23 ?_
    refine rr_iaload dX6_tiedBits_25 lo_40 sh_40 (by first | assumption | exact vp_in_nI (by omega) (by decide) | decide | omega | exact jj_inL rfl) ?_
    refine rr_iload_n 2 rfl rfl dX6_tiedBits_26 ?_
    refine rr_icmp_lt dX6_tiedBits_27 (fun c1 => ?_) (fun c1 => ?_)
    · skip
      refine rr_iconst 0 rfl dX6_tiedBits_37 ?_
      refine rr_ior dX6_tiedBits_38 ?_
      refine rr_istore_n [(0, .ref 38), (1, .int (nI n)), (2, .int w), (3, .int (a1 ||| 0)), (4, .int (nI k1))] dX6_tiedBits_39 rfl (by decide) rfl ?_
      refine rr_iinc 4 1 [(0, .ref 38), (1, .int (nI n)), (2, .int w), (3, .int (a1 ||| 0)), (4, .int ((nI k1) + 1))] dX6_tiedBits_40 rfl rfl (by decide) rfl ?_
      refine rr_goto dX6_tiedBits_43 ?_
      try simp only [(nI_clamp (show k1 < 2 ^ 31 by omega))] at c1
      simpa only [nI_1, (nI_clamp (show k1 < 2 ^ 31 by omega)), if_pos c1] using ih1
    · skip
      refine rr_iconst 1 rfl dX6_tiedBits_30 ?_
      refine rr_iload 4 rfl dX6_tiedBits_31 ?_
      refine rr_ishl dX6_tiedBits_33 ?_
      refine rr_goto dX6_tiedBits_34 ?_
      refine rr_ior dX6_tiedBits_38 ?_
      refine rr_istore_n [(0, .ref 38), (1, .int (nI n)), (2, .int w), (3, .int (a1 ||| (1 <<< ((nI k1) &&& 31)))), (4, .int (nI k1))] dX6_tiedBits_39 rfl (by decide) rfl ?_
      refine rr_iinc 4 1 [(0, .ref 38), (1, .int (nI n)), (2, .int w), (3, .int (a1 ||| (1 <<< ((nI k1) &&& 31)))), (4, .int ((nI k1) + 1))] dX6_tiedBits_40 rfl rfl (by decide) rfl ?_
      refine rr_goto dX6_tiedBits_43 ?_
      try simp only [(nI_clamp (show k1 < 2 ^ 31 by omega))] at c1
      simpa only [nI_1, (nI_clamp (show k1 < 2 ^ 31 by omega)), if_neg c1] using ih1
  · try dsimp only
    refine rr_iload 4 rfl dX6_tiedBits_5 ?_
    refine rr_iload_n 1 rfl rfl dX6_tiedBits_7 ?_
    refine rr_icmp_ge dX6_tiedBits_8 (fun _ => ?_) (fun c => absurd (jj_le_rf _) c)
    refine rr_iload_n 3 rfl rfl dX6_tiedBits_46 ?_
    refine rr_ireturn dX6_tiedBits_47 rfl ?_
    simpa only [vX6_tiedBits_n] using kq
def vX6_bitsInDay_n (r39 : Nat → Int32) (n : Nat) (w : Int32) : Int32 := (jj_fo (fun k1 a1 => (if (r39 k1) = w then (a1 ||| (1 <<< ((nI k1) &&& 31))) else (a1 ||| 0))) n 0)
set_option maxHeartbeats 1000000 in
theorem sp_X6_bitsInDay_n {d kc ks : Nat} {h : Nat → Nat → Int32} {g : Nat → Nat → Int64} {Q : jj_Rs → jj_St → Prop} {n : Nat} {w : Int32} (hn : n ≤ 8) (kq : Q (.inl (some (.int (vX6_bitsInDay_n (h 39) n w)))) (jj_S, 782, h, g)) : jj_R mX6_bitsInDay (d + 0) kc ks (jj_S, 782, h, g) 0 [(0, .ref 38), (1, .int (nI n)), (2, .int w)] [] Q := by
  refine rr_iconst 0 rfl dX6_bitsInDay_0 ?_
  refine rr_istore_n [(0, .ref 38), (1, .int (nI n)), (2, .int w), (3, .int 0)] dX6_bitsInDay_1 rfl (by decide) rfl ?_
  refine rr_iconst 0 rfl dX6_bitsInDay_2 ?_
  refine rr_istore [(0, .ref 38), (1, .int (nI n)), (2, .int w), (3, .int 0), (4, .int 0)] dX6_bitsInDay_3 (by decide) rfl ?_
  refine jj_for (fun k1 (a1 : Int32) => jj_R _ _ kc ks (jj_S, 782, h, g) 5 [(0, .ref 38), (1, .int (nI n)), (2, .int w), (3, .int a1), (4, .int (nI k1))] [] Q) (fun k1 a1 => (if ((h 39) k1) = w then (a1 ||| (1 <<< ((nI k1) &&& 31))) else (a1 ||| 0))) n 0 ?_ ?_
  · intro k1 hk1 ih1
    generalize jj_fo _ k1 _ = a1 at ih1 ⊢
    try dsimp only at ih1 ⊢
    refine rr_iload 4 rfl dX6_bitsInDay_5 ?_
    refine rr_iload_n 1 rfl rfl dX6_bitsInDay_7 ?_
    refine rr_icmp_ge dX6_bitsInDay_8 (fun c => absurd c (nI_ge (a := k1) (b := n) (by omega) (by omega))) (fun _ => ?_)
    refine rr_iload 4 rfl dX6_bitsInDay_11 ?_
    refine rr_bipush 8 rfl dX6_bitsInDay_13 ?_
    refine rr_icmp_ge dX6_bitsInDay_15 (fun c => absurd c (nI_ge (a := k1) (b := 8) (by omega) (by omega))) (fun _ => ?_)
    refine rr_iload_n 3 rfl rfl dX6_bitsInDay_18 ?_
    refine rr_aload_n 0 rfl rfl dX6_bitsInDay_19 ?_
    refine rr_getR dX6_bitsInDay_20 fX6_9 lo_38 sh_38 rfl ?_
    refine rr_iload 4 rfl dX6_bitsInDay_23 ?_
    refine rr_iaload dX6_bitsInDay_25 lo_39 sh_39 (by first | assumption | exact vp_in_nI (by omega) (by decide) | decide | omega | exact jj_inL rfl) ?_
    refine rr_iload_n 2 rfl rfl dX6_bitsInDay_26 ?_
    refine rr_icmp_ne dX6_bitsInDay_27 (fun c1 => ?_) (fun c1 => ?_)
    · skip
      refine rr_iconst 0 rfl dX6_bitsInDay_37 ?_
      refine rr_ior dX6_bitsInDay_38 ?_
      refine rr_istore_n [(0, .ref 38), (1, .int (nI n)), (2, .int w), (3, .int (a1 ||| 0)), (4, .int (nI k1))] dX6_bitsInDay_39 rfl (by decide) rfl ?_
      refine rr_iinc 4 1 [(0, .ref 38), (1, .int (nI n)), (2, .int w), (3, .int (a1 ||| 0)), (4, .int ((nI k1) + 1))] dX6_bitsInDay_40 rfl rfl (by decide) rfl ?_
      refine rr_goto dX6_bitsInDay_43 ?_
      try simp only [(nI_clamp (show k1 < 2 ^ 31 by omega))] at c1
      simpa only [nI_1, (nI_clamp (show k1 < 2 ^ 31 by omega)), if_neg c1] using ih1
    · skip
      refine rr_iconst 1 rfl dX6_bitsInDay_30 ?_
      refine rr_iload 4 rfl dX6_bitsInDay_31 ?_
      refine rr_ishl dX6_bitsInDay_33 ?_
      refine rr_goto dX6_bitsInDay_34 ?_
      refine rr_ior dX6_bitsInDay_38 ?_
      refine rr_istore_n [(0, .ref 38), (1, .int (nI n)), (2, .int w), (3, .int (a1 ||| (1 <<< ((nI k1) &&& 31)))), (4, .int (nI k1))] dX6_bitsInDay_39 rfl (by decide) rfl ?_
      refine rr_iinc 4 1 [(0, .ref 38), (1, .int (nI n)), (2, .int w), (3, .int (a1 ||| (1 <<< ((nI k1) &&& 31)))), (4, .int ((nI k1) + 1))] dX6_bitsInDay_40 rfl rfl (by decide) rfl ?_
      refine rr_goto dX6_bitsInDay_43 ?_
      try simp only [(nI_clamp (show k1 < 2 ^ 31 by omega))] at c1
      simpa only [nI_1, (nI_clamp (show k1 < 2 ^ 31 by omega)), if_pos c1] using ih1
  · try dsimp only
    refine rr_iload 4 rfl dX6_bitsInDay_5 ?_
    refine rr_iload_n 1 rfl rfl dX6_bitsInDay_7 ?_
    refine rr_icmp_ge dX6_bitsInDay_8 (fun _ => ?_) (fun c => absurd (jj_le_rf _) c)
    refine rr_iload_n 3 rfl rfl dX6_bitsInDay_46 ?_
    refine rr_ireturn dX6_bitsInDay_47 rfl ?_
    simpa only [vX6_bitsInDay_n] using kq
def rX6_passDay_n_38 (r38 : Nat → Int32) (r39 : Nat → Int32) (r40 : Nat → Int32) (n : Nat) : Nat → Int32 := (upd r38 (0) ((r38 0) + 1))
def rX6_passDay_n_39 (r38 : Nat → Int32) (r39 : Nat → Int32) (r40 : Nat → Int32) (n : Nat) : Nat → Int32 := (jj_fo (fun k1 a1 => (if (a1.2 k1) = 1 then (if (vX6_isCut_n (upd r38 (0) ((r38 0) + 1)) (nI k1)) = 0 then (a1.1, (upd a1.2 (k1) 0)) else ((upd a1.1 (k1) ((upd r38 (0) ((r38 0) + 1)) 0)), (upd a1.2 (k1) 0))) else (if (a1.2 k1) = 2 then (if (vX6_isCut_n (upd r38 (0) ((r38 0) + 1)) (nI k1)) = 0 then ((upd a1.1 (k1) ((a1.1 k1) + 1)), a1.2) else ((upd (upd a1.1 (k1) ((a1.1 k1) + 1)) (k1) ((upd r38 (0) ((r38 0) + 1)) 0)), a1.2)) else (if (vX6_isCut_n (upd r38 (0) ((r38 0) + 1)) (nI k1)) = 0 then (a1.1, a1.2) else ((upd a1.1 (k1) ((upd r38 (0) ((r38 0) + 1)) 0)), a1.2))))) n (r39, r40)).1
def rX6_passDay_n_40 (r38 : Nat → Int32) (r39 : Nat → Int32) (r40 : Nat → Int32) (n : Nat) : Nat → Int32 := (jj_fo (fun k1 a1 => (if (a1.2 k1) = 1 then (if (vX6_isCut_n (upd r38 (0) ((r38 0) + 1)) (nI k1)) = 0 then (a1.1, (upd a1.2 (k1) 0)) else ((upd a1.1 (k1) ((upd r38 (0) ((r38 0) + 1)) 0)), (upd a1.2 (k1) 0))) else (if (a1.2 k1) = 2 then (if (vX6_isCut_n (upd r38 (0) ((r38 0) + 1)) (nI k1)) = 0 then ((upd a1.1 (k1) ((a1.1 k1) + 1)), a1.2) else ((upd (upd a1.1 (k1) ((a1.1 k1) + 1)) (k1) ((upd r38 (0) ((r38 0) + 1)) 0)), a1.2)) else (if (vX6_isCut_n (upd r38 (0) ((r38 0) + 1)) (nI k1)) = 0 then (a1.1, a1.2) else ((upd a1.1 (k1) ((upd r38 (0) ((r38 0) + 1)) 0)), a1.2))))) n (r39, r40)).2
set_option maxHeartbeats 1000000 in
theorem sp_X6_passDay_n {d kc ks : Nat} {h : Nat → Nat → Int32} {g : Nat → Nat → Int64} {Q : jj_Rs → jj_St → Prop} {n : Nat} (hn : n ≤ 8) (kq : Q (.inl none) (jj_S, 782, (jj_rs h [(38, (rX6_passDay_n_38 (h 38) (h 39) (h 40) n)), (39, (rX6_passDay_n_39 (h 38) (h 39) (h 40) n)), (40, (rX6_passDay_n_40 (h 38) (h 39) (h 40) n))]), g)) : jj_R mX6_passDay (d + 1) kc ks (jj_S, 782, h, g) 0 [(0, .ref 38), (1, .int (nI n))] [] Q := by
  refine rr_aload_n 0 rfl rfl dX6_passDay_0 ?_
  refine rr_dup rfl dX6_passDay_1 ?_
  refine rr_getI dX6_passDay_2 fX6_24 lo_38 sh_38 rfl ?_
  refine rr_iconst 1 rfl dX6_passDay_5 ?_
  refine rr_iadd dX6_passDay_6 ?_
  refine rr_putI dX6_passDay_7 fX6_24 ni6_0 lo_38 sh_38 rfl ?_
  rw [jj_rs_set0 (B := h) (o := 38) (r := (h 38)) rfl]
  refine rr_iconst 0 rfl dX6_passDay_10 ?_
  refine rr_istore_n [(0, .ref 38), (1, .int (nI n)), (2, .int 0)] dX6_passDay_11 rfl (by decide) rfl ?_
  rw [jj_rs_add (B := h) (L := [(38, (upd (h 38) (0) (((h 38) 0) + 1)))]) (L2 := [(38, (upd (h 38) (0) (((h 38) 0) + 1))), (39, (h 39))]) (o := 39) (r := (h 39)) rfl rfl]
  rw [jj_rs_add (B := h) (L := [(38, (upd (h 38) (0) (((h 38) 0) + 1))), (39, (h 39))]) (L2 := [(38, (upd (h 38) (0) (((h 38) 0) + 1))), (39, (h 39)), (40, (h 40))]) (o := 40) (r := (h 40)) rfl rfl]
  refine jj_for (fun k1 (a1 : (Nat → Int32) × (Nat → Int32)) => jj_R _ _ kc ks (jj_S, 782, (jj_rs h [(38, (upd (h 38) (0) (((h 38) 0) + 1))), (39, a1.1), (40, a1.2)]), g) 12 [(0, .ref 38), (1, .int (nI n)), (2, .int (nI k1))] [] Q) (fun k1 a1 => (if (a1.2 k1) = 1 then (if (vX6_isCut_n (upd (h 38) (0) (((h 38) 0) + 1)) (nI k1)) = 0 then (a1.1, (upd a1.2 (k1) 0)) else ((upd a1.1 (k1) ((upd (h 38) (0) (((h 38) 0) + 1)) 0)), (upd a1.2 (k1) 0))) else (if (a1.2 k1) = 2 then (if (vX6_isCut_n (upd (h 38) (0) (((h 38) 0) + 1)) (nI k1)) = 0 then ((upd a1.1 (k1) ((a1.1 k1) + 1)), a1.2) else ((upd (upd a1.1 (k1) ((a1.1 k1) + 1)) (k1) ((upd (h 38) (0) (((h 38) 0) + 1)) 0)), a1.2)) else (if (vX6_isCut_n (upd (h 38) (0) (((h 38) 0) + 1)) (nI k1)) = 0 then (a1.1, a1.2) else ((upd a1.1 (k1) ((upd (h 38) (0) (((h 38) 0) + 1)) 0)), a1.2))))) n ((h 39), (h 40)) ?_ ?_
  · intro k1 hk1 ih1
    generalize jj_fo _ k1 _ = a1 at ih1 ⊢
    try dsimp only at ih1 ⊢
    refine rr_iload_n 2 rfl rfl dX6_passDay_12 ?_
    refine rr_iload_n 1 rfl rfl dX6_passDay_13 ?_
    refine rr_icmp_ge dX6_passDay_14 (fun c => absurd c (nI_ge (a := k1) (b := n) (by omega) (by omega))) (fun _ => ?_)
    refine rr_iload_n 2 rfl rfl dX6_passDay_17 ?_
    refine rr_bipush 8 rfl dX6_passDay_18 ?_
    refine rr_icmp_ge dX6_passDay_20 (fun c => absurd c (nI_ge (a := k1) (b := 8) (by omega) (by omega))) (fun _ => ?_)
    refine rr_aload_n 0 rfl rfl dX6_passDay_23 ?_
    refine rr_getR dX6_passDay_24 fX6_15 lo_38 sh_38 rfl ?_
    refine rr_iload_n 2 rfl rfl dX6_passDay_27 ?_
    refine rr_iaload dX6_passDay_28 lo_40 sh_40 (by first | assumption | exact vp_in_nI (by omega) (by decide) | decide | omega | exact jj_inL rfl) ?_
    rw [show (jj_rs h [(38, (upd (h 38) (0) (((h 38) 0) + 1))), (39, a1.1), (40, a1.2)]) 40 = a1.2 from rfl]
    refine rr_iconst 1 rfl dX6_passDay_29 ?_
    refine rr_icmp_ne dX6_passDay_30 (fun c1 => ?_) (fun c1 => ?_)
    · skip
      refine rr_aload_n 0 rfl rfl dX6_passDay_43 ?_
      refine rr_getR dX6_passDay_44 fX6_15 lo_38 sh_38 rfl ?_
      refine rr_iload_n 2 rfl rfl dX6_passDay_47 ?_
      refine rr_iaload dX6_passDay_48 lo_40 sh_40 (by first | assumption | exact vp_in_nI (by omega) (by decide) | decide | omega | exact jj_inL rfl) ?_
      rw [show (jj_rs h [(38, (upd (h 38) (0) (((h 38) 0) + 1))), (39, a1.1), (40, a1.2)]) 40 = a1.2 from rfl]
      refine rr_iconst 2 rfl dX6_passDay_49 ?_
      refine rr_icmp_ne dX6_passDay_50 (fun c2 => ?_) (fun c2 => ?_)
      · skip
        refine rr_aload_n 0 rfl rfl dX6_passDay_63 ?_
        refine rr_iload_n 2 rfl rfl dX6_passDay_64 ?_
        refine rr_callV (As := [.int (nI k1)]) (rest := []) (kc2 := 0) (ks2 := 0) dX6_passDay_65 okX6_isCut lX6_34 lo_38 sh_38 rfl rfl (Nat.le_of_ble_eq_true rfl) (Nat.le_of_ble_eq_true rfl) rfl (by omega) (by simp [jj_rk]) (by simp [jj_rk]) ?_
        refine sp_X6_isCut_n  ?_
        show jj_R _ _ kc ks (jj_S, 782, (jj_rs h [(38, (upd (h 38) (0) (((h 38) 0) + 1))), (39, a1.1), (40, a1.2)]), g) 68 [(0, .ref 38), (1, .int (nI n)), (2, .int (nI k1))] [.int (vX6_isCut_n (upd (h 38) (0) (((h 38) 0) + 1)) (nI k1))] Q
        refine rr_if_eq dX6_passDay_68 (fun c3 => ?_) (fun c3 => ?_)
        · skip
          refine rr_iinc 2 1 [(0, .ref 38), (1, .int (nI n)), (2, .int ((nI k1) + 1))] dX6_passDay_81 rfl rfl (by decide) rfl ?_
          refine rr_goto dX6_passDay_84 ?_
          try simp only [(nI_clamp (show k1 < 2 ^ 31 by omega))] at c1
          try simp only [(nI_clamp (show k1 < 2 ^ 31 by omega))] at c2
          try simp only [(nI_clamp (show k1 < 2 ^ 31 by omega))] at c3
          simpa only [nI_1, (nI_clamp (show k1 < 2 ^ 31 by omega)), if_neg c1, if_neg c2, if_pos c3] using ih1
        · skip
          refine rr_aload_n 0 rfl rfl dX6_passDay_71 ?_
          refine rr_getR dX6_passDay_72 fX6_9 lo_38 sh_38 rfl ?_
          refine rr_iload_n 2 rfl rfl dX6_passDay_75 ?_
          refine rr_aload_n 0 rfl rfl dX6_passDay_76 ?_
          refine rr_getI dX6_passDay_77 fX6_24 lo_38 sh_38 rfl ?_
          rw [show (jj_rs h [(38, (upd (h 38) (0) (((h 38) 0) + 1))), (39, a1.1), (40, a1.2)]) 38 = (upd (h 38) (0) (((h 38) 0) + 1)) from rfl]
          refine rr_iastore dX6_passDay_80 lo_39 sh_39 (by first | assumption | exact vp_in_nI (by omega) (by decide) | decide | omega | exact jj_inL rfl) ?_
          rw [jj_rs_set (B := h) (L := [(38, (upd (h 38) (0) (((h 38) 0) + 1))), (39, a1.1), (40, a1.2)]) (L2 := [(38, (upd (h 38) (0) (((h 38) 0) + 1))), (39, (upd a1.1 (((nI k1) : Int32).toNatClampNeg) ((upd (h 38) (0) (((h 38) 0) + 1)) 0))), (40, a1.2)]) (r := a1.1) rfl rfl]
          refine rr_iinc 2 1 [(0, .ref 38), (1, .int (nI n)), (2, .int ((nI k1) + 1))] dX6_passDay_81 rfl rfl (by decide) rfl ?_
          refine rr_goto dX6_passDay_84 ?_
          try simp only [(nI_clamp (show k1 < 2 ^ 31 by omega))] at c1
          try simp only [(nI_clamp (show k1 < 2 ^ 31 by omega))] at c2
          try simp only [(nI_clamp (show k1 < 2 ^ 31 by omega))] at c3
          simpa only [nI_1, (nI_clamp (show k1 < 2 ^ 31 by omega)), if_neg c1, if_neg c2, if_neg c3] using ih1
      · skip
        refine rr_aload_n 0 rfl rfl dX6_passDay_53 ?_
        refine rr_getR dX6_passDay_54 fX6_9 lo_38 sh_38 rfl ?_
        refine rr_iload_n 2 rfl rfl dX6_passDay_57 ?_
        refine rr_dup2 rfl rfl dX6_passDay_58 ?_
        refine rr_iaload dX6_passDay_59 lo_39 sh_39 (by first | assumption | exact vp_in_nI (by omega) (by decide) | decide | omega | exact jj_inL rfl) ?_
        rw [show (jj_rs h [(38, (upd (h 38) (0) (((h 38) 0) + 1))), (39, a1.1), (40, a1.2)]) 39 = a1.1 from rfl]
        refine rr_iconst 1 rfl dX6_passDay_60 ?_
        refine rr_iadd dX6_passDay_61 ?_
        refine rr_iastore dX6_passDay_62 lo_39 sh_39 (by first | assumption | exact vp_in_nI (by omega) (by decide) | decide | omega | exact jj_inL rfl) ?_
        rw [jj_rs_set (B := h) (L := [(38, (upd (h 38) (0) (((h 38) 0) + 1))), (39, a1.1), (40, a1.2)]) (L2 := [(38, (upd (h 38) (0) (((h 38) 0) + 1))), (39, (upd a1.1 (((nI k1) : Int32).toNatClampNeg) ((a1.1 ((nI k1) : Int32).toNatClampNeg) + 1))), (40, a1.2)]) (r := a1.1) rfl rfl]
        refine rr_aload_n 0 rfl rfl dX6_passDay_63 ?_
        refine rr_iload_n 2 rfl rfl dX6_passDay_64 ?_
        refine rr_callV (As := [.int (nI k1)]) (rest := []) (kc2 := 0) (ks2 := 0) dX6_passDay_65 okX6_isCut lX6_34 lo_38 sh_38 rfl rfl (Nat.le_of_ble_eq_true rfl) (Nat.le_of_ble_eq_true rfl) rfl (by omega) (by simp [jj_rk]) (by simp [jj_rk]) ?_
        refine sp_X6_isCut_n  ?_
        show jj_R _ _ kc ks (jj_S, 782, (jj_rs h [(38, (upd (h 38) (0) (((h 38) 0) + 1))), (39, (upd a1.1 (((nI k1) : Int32).toNatClampNeg) ((a1.1 ((nI k1) : Int32).toNatClampNeg) + 1))), (40, a1.2)]), g) 68 [(0, .ref 38), (1, .int (nI n)), (2, .int (nI k1))] [.int (vX6_isCut_n (upd (h 38) (0) (((h 38) 0) + 1)) (nI k1))] Q
        refine rr_if_eq dX6_passDay_68 (fun c4 => ?_) (fun c4 => ?_)
        · skip
          refine rr_iinc 2 1 [(0, .ref 38), (1, .int (nI n)), (2, .int ((nI k1) + 1))] dX6_passDay_81 rfl rfl (by decide) rfl ?_
          refine rr_goto dX6_passDay_84 ?_
          try simp only [(nI_clamp (show k1 < 2 ^ 31 by omega))] at c1
          try simp only [(nI_clamp (show k1 < 2 ^ 31 by omega))] at c2
          try simp only [(nI_clamp (show k1 < 2 ^ 31 by omega))] at c4
          simpa only [nI_1, (nI_clamp (show k1 < 2 ^ 31 by omega)), if_neg c1, if_pos c2, if_pos c4] using ih1
        · skip
          refine rr_aload_n 0 rfl rfl dX6_passDay_71 ?_
          refine rr_getR dX6_passDay_72 fX6_9 lo_38 sh_38 rfl ?_
          refine rr_iload_n 2 rfl rfl dX6_passDay_75 ?_
          refine rr_aload_n 0 rfl rfl dX6_passDay_76 ?_
          refine rr_getI dX6_passDay_77 fX6_24 lo_38 sh_38 rfl ?_
          rw [show (jj_rs h [(38, (upd (h 38) (0) (((h 38) 0) + 1))), (39, (upd a1.1 (((nI k1) : Int32).toNatClampNeg) ((a1.1 ((nI k1) : Int32).toNatClampNeg) + 1))), (40, a1.2)]) 38 = (upd (h 38) (0) (((h 38) 0) + 1)) from rfl]
          refine rr_iastore dX6_passDay_80 lo_39 sh_39 (by first | assumption | exact vp_in_nI (by omega) (by decide) | decide | omega | exact jj_inL rfl) ?_
          rw [jj_rs_set (B := h) (L := [(38, (upd (h 38) (0) (((h 38) 0) + 1))), (39, (upd a1.1 (((nI k1) : Int32).toNatClampNeg) ((a1.1 ((nI k1) : Int32).toNatClampNeg) + 1))), (40, a1.2)]) (L2 := [(38, (upd (h 38) (0) (((h 38) 0) + 1))), (39, (upd (upd a1.1 (((nI k1) : Int32).toNatClampNeg) ((a1.1 ((nI k1) : Int32).toNatClampNeg) + 1)) (((nI k1) : Int32).toNatClampNeg) ((upd (h 38) (0) (((h 38) 0) + 1)) 0))), (40, a1.2)]) (r := (upd a1.1 (((nI k1) : Int32).toNatClampNeg) ((a1.1 ((nI k1) : Int32).toNatClampNeg) + 1))) rfl rfl]
          refine rr_iinc 2 1 [(0, .ref 38), (1, .int (nI n)), (2, .int ((nI k1) + 1))] dX6_passDay_81 rfl rfl (by decide) rfl ?_
          refine rr_goto dX6_passDay_84 ?_
          try simp only [(nI_clamp (show k1 < 2 ^ 31 by omega))] at c1
          try simp only [(nI_clamp (show k1 < 2 ^ 31 by omega))] at c2
          try simp only [(nI_clamp (show k1 < 2 ^ 31 by omega))] at c4
          simpa only [nI_1, (nI_clamp (show k1 < 2 ^ 31 by omega)), if_neg c1, if_pos c2, if_neg c4] using ih1
    · skip
      refine rr_aload_n 0 rfl rfl dX6_passDay_33 ?_
      refine rr_getR dX6_passDay_34 fX6_15 lo_38 sh_38 rfl ?_
      refine rr_iload_n 2 rfl rfl dX6_passDay_37 ?_
      refine rr_iconst 0 rfl dX6_passDay_38 ?_
      refine rr_iastore dX6_passDay_39 lo_40 sh_40 (by first | assumption | exact vp_in_nI (by omega) (by decide) | decide | omega | exact jj_inL rfl) ?_
      rw [jj_rs_set (B := h) (L := [(38, (upd (h 38) (0) (((h 38) 0) + 1))), (39, a1.1), (40, a1.2)]) (L2 := [(38, (upd (h 38) (0) (((h 38) 0) + 1))), (39, a1.1), (40, (upd a1.2 (((nI k1) : Int32).toNatClampNeg) 0))]) (r := a1.2) rfl rfl]
      refine rr_goto dX6_passDay_40 ?_
      refine rr_aload_n 0 rfl rfl dX6_passDay_63 ?_
      refine rr_iload_n 2 rfl rfl dX6_passDay_64 ?_
      refine rr_callV (As := [.int (nI k1)]) (rest := []) (kc2 := 0) (ks2 := 0) dX6_passDay_65 okX6_isCut lX6_34 lo_38 sh_38 rfl rfl (Nat.le_of_ble_eq_true rfl) (Nat.le_of_ble_eq_true rfl) rfl (by omega) (by simp [jj_rk]) (by simp [jj_rk]) ?_
      refine sp_X6_isCut_n  ?_
      show jj_R _ _ kc ks (jj_S, 782, (jj_rs h [(38, (upd (h 38) (0) (((h 38) 0) + 1))), (39, a1.1), (40, (upd a1.2 (((nI k1) : Int32).toNatClampNeg) 0))]), g) 68 [(0, .ref 38), (1, .int (nI n)), (2, .int (nI k1))] [.int (vX6_isCut_n (upd (h 38) (0) (((h 38) 0) + 1)) (nI k1))] Q
      refine rr_if_eq dX6_passDay_68 (fun c5 => ?_) (fun c5 => ?_)
      · skip
        refine rr_iinc 2 1 [(0, .ref 38), (1, .int (nI n)), (2, .int ((nI k1) + 1))] dX6_passDay_81 rfl rfl (by decide) rfl ?_
        refine rr_goto dX6_passDay_84 ?_
        try simp only [(nI_clamp (show k1 < 2 ^ 31 by omega))] at c1
        try simp only [(nI_clamp (show k1 < 2 ^ 31 by omega))] at c5
        simpa only [nI_1, (nI_clamp (show k1 < 2 ^ 31 by omega)), if_pos c1, if_pos c5] using ih1
      · skip
        refine rr_aload_n 0 rfl rfl dX6_passDay_71 ?_
        refine rr_getR dX6_passDay_72 fX6_9 lo_38 sh_38 rfl ?_
        refine rr_iload_n 2 rfl rfl dX6_passDay_75 ?_
        refine rr_aload_n 0 rfl rfl dX6_passDay_76 ?_
        refine rr_getI dX6_passDay_77 fX6_24 lo_38 sh_38 rfl ?_
        rw [show (jj_rs h [(38, (upd (h 38) (0) (((h 38) 0) + 1))), (39, a1.1), (40, (upd a1.2 (((nI k1) : Int32).toNatClampNeg) 0))]) 38 = (upd (h 38) (0) (((h 38) 0) + 1)) from rfl]
        refine rr_iastore dX6_passDay_80 lo_39 sh_39 (by first | assumption | exact vp_in_nI (by omega) (by decide) | decide | omega | exact jj_inL rfl) ?_
        rw [jj_rs_set (B := h) (L := [(38, (upd (h 38) (0) (((h 38) 0) + 1))), (39, a1.1), (40, (upd a1.2 (((nI k1) : Int32).toNatClampNeg) 0))]) (L2 := [(38, (upd (h 38) (0) (((h 38) 0) + 1))), (39, (upd a1.1 (((nI k1) : Int32).toNatClampNeg) ((upd (h 38) (0) (((h 38) 0) + 1)) 0))), (40, (upd a1.2 (((nI k1) : Int32).toNatClampNeg) 0))]) (r := a1.1) rfl rfl]
        refine rr_iinc 2 1 [(0, .ref 38), (1, .int (nI n)), (2, .int ((nI k1) + 1))] dX6_passDay_81 rfl rfl (by decide) rfl ?_
        refine rr_goto dX6_passDay_84 ?_
        try simp only [(nI_clamp (show k1 < 2 ^ 31 by omega))] at c1
        try simp only [(nI_clamp (show k1 < 2 ^ 31 by omega))] at c5
        simpa only [nI_1, (nI_clamp (show k1 < 2 ^ 31 by omega)), if_pos c1, if_neg c5] using ih1
  · try dsimp only
    refine rr_iload_n 2 rfl rfl dX6_passDay_12 ?_
    refine rr_iload_n 1 rfl rfl dX6_passDay_13 ?_
    refine rr_icmp_ge dX6_passDay_14 (fun _ => ?_) (fun c => absurd (jj_le_rf _) c)
    refine rr_return dX6_passDay_87 rfl ?_
    simpa only [rX6_passDay_n_38, rX6_passDay_n_39, rX6_passDay_n_40] using kq
def vX6_isCut_t (r43 : Nat → Int32) (p : Int32) : Int32 := (if ((r43 2) &&& (1 <<< (p &&& 31))) = 0 then 0 else 1)
set_option maxHeartbeats 1000000 in
theorem sp_X6_isCut_t {d kc ks : Nat} {h : Nat → Nat → Int32} {g : Nat → Nat → Int64} {Q : jj_Rs → jj_St → Prop} {p : Int32} (kq : Q (.inl (some (.int (vX6_isCut_t (h 43) p)))) (jj_S, 782, h, g)) : jj_R mX6_isCut (d + 0) kc ks (jj_S, 782, h, g) 0 [(0, .ref 43), (1, .int p)] [] Q := by
  refine rr_aload_n 0 rfl rfl dX6_isCut_0 ?_
  refine rr_getI dX6_isCut_1 fX6_31 lo_43 sh_43 rfl ?_
  refine rr_iconst 1 rfl dX6_isCut_4 ?_
  refine rr_iload_n 1 rfl rfl dX6_isCut_5 ?_
  refine rr_ishl dX6_isCut_6 ?_
  refine rr_iand dX6_isCut_7 ?_
  refine rr_if_eq dX6_isCut_8 (fun c1 => ?_) (fun c1 => ?_)
  · skip
    refine rr_iconst 0 rfl dX6_isCut_15 ?_
    refine rr_nreturn dX6_isCut_16 rfl (by first | rfl | assumption) ?_
    simpa only [vX6_isCut_t, if_pos c1] using kq
  · skip
    refine rr_iconst 1 rfl dX6_isCut_11 ?_
    refine rr_goto dX6_isCut_12 ?_
    refine rr_nreturn dX6_isCut_16 rfl (by first | rfl | assumption) ?_
    simpa only [vX6_isCut_t, if_neg c1] using kq
def vX6_isLoose_t (r43 : Nat → Int32) (r45 : Nat → Int32) (p : Int32) : Int32 := (if (r45 (p : Int32).toNatClampNeg) = 0 then (if (vX6_isCut_t r43 p) = 0 then 1 else 0) else 0)
set_option maxHeartbeats 1000000 in
theorem sp_X6_isLoose_t {d kc ks : Nat} {h : Nat → Nat → Int32} {g : Nat → Nat → Int64} {Q : jj_Rs → jj_St → Prop} {p : Int32} (hp : vp_in p 8) (kq : Q (.inl (some (.int (vX6_isLoose_t (h 43) (h 45) p)))) (jj_S, 782, h, g)) : jj_R mX6_isLoose (d + 1) kc ks (jj_S, 782, h, g) 0 [(0, .ref 43), (1, .int p)] [] Q := by
  refine rr_aload_n 0 rfl rfl dX6_isLoose_0 ?_
  refine rr_getR dX6_isLoose_1 fX6_15 lo_43 sh_43 rfl ?_
  refine rr_iload_n 1 rfl rfl dX6_isLoose_4 ?_
  refine rr_iaload dX6_isLoose_5 lo_45 sh_45 (by first | assumption | exact vp_in_nI (by omega) (by decide) | decide | omega | exact jj_inL rfl) ?_
  refine rr_if_ne dX6_isLoose_6 (fun c1 => ?_) (fun c1 => ?_)
  · skip
    refine rr_iconst 0 rfl dX6_isLoose_21 ?_
    refine rr_nreturn dX6_isLoose_22 rfl (by first | rfl | assumption) ?_
    simpa only [vX6_isLoose_t, if_neg c1] using kq
  · skip
    refine rr_aload_n 0 rfl rfl dX6_isLoose_9 ?_
    refine rr_iload_n 1 rfl rfl dX6_isLoose_10 ?_
    refine rr_callV (As := [.int p]) (rest := []) (kc2 := 0) (ks2 := 0) dX6_isLoose_11 okX6_isCut lX6_34 lo_43 sh_43 rfl rfl (Nat.le_of_ble_eq_true rfl) (Nat.le_of_ble_eq_true rfl) rfl (by omega) (by simp [jj_rk]) (by simp [jj_rk]) ?_
    refine sp_X6_isCut_t  ?_
    show jj_R _ _ kc ks (jj_S, 782, h, g) 14 [(0, .ref 43), (1, .int p)] [.int (vX6_isCut_t (h 43) p)] Q
    refine rr_if_ne dX6_isLoose_14 (fun c2 => ?_) (fun c2 => ?_)
    · skip
      refine rr_iconst 0 rfl dX6_isLoose_21 ?_
      refine rr_nreturn dX6_isLoose_22 rfl (by first | rfl | assumption) ?_
      simpa only [vX6_isLoose_t, if_pos c1, if_neg c2] using kq
    · skip
      refine rr_iconst 1 rfl dX6_isLoose_17 ?_
      refine rr_goto dX6_isLoose_18 ?_
      refine rr_nreturn dX6_isLoose_22 rfl (by first | rfl | assumption) ?_
      simpa only [vX6_isLoose_t, if_pos c1, if_pos c2] using kq
def vX6_mayTie_t (r43 : Nat → Int32) (r45 : Nat → Int32) (a : Int32) (b : Int32) : Int32 := (if (vX6_isLoose_t r43 r45 b) = 0 then 0 else (if a = b then 1 else (if (r45 (a : Int32).toNatClampNeg) = 0 then 0 else 1)))
set_option maxHeartbeats 1000000 in
theorem sp_X6_mayTie_t {d kc ks : Nat} {h : Nat → Nat → Int32} {g : Nat → Nat → Int64} {Q : jj_Rs → jj_St → Prop} {a : Int32} {b : Int32} (ha : vp_in a 8) (hb : vp_in b 8) (kq : Q (.inl (some (.int (vX6_mayTie_t (h 43) (h 45) a b)))) (jj_S, 782, h, g)) : jj_R mX6_mayTie (d + 2) kc ks (jj_S, 782, h, g) 0 [(0, .ref 43), (1, .int a), (2, .int b)] [] Q := by
  refine rr_aload_n 0 rfl rfl dX6_mayTie_0 ?_
  refine rr_iload_n 2 rfl rfl dX6_mayTie_1 ?_
  refine rr_callV (As := [.int b]) (rest := []) (kc2 := 0) (ks2 := 0) dX6_mayTie_2 okX6_isLoose lX6_38 lo_43 sh_43 rfl rfl (Nat.le_of_ble_eq_true rfl) (Nat.le_of_ble_eq_true rfl) rfl (by omega) (by simp [jj_rk]) (by simp [jj_rk]) ?_
  refine sp_X6_isLoose_t (by first | assumption | exact vp_in_nI (by omega) (by decide) | decide | omega | exact jj_inL rfl) ?_
  show jj_R _ _ kc ks (jj_S, 782, h, g) 5 [(0, .ref 43), (1, .int a), (2, .int b)] [.int (vX6_isLoose_t (h 43) (h 45) b)] Q
  refine rr_if_eq dX6_mayTie_5 (fun c1 => ?_) (fun c1 => ?_)
  · skip
    refine rr_iconst 0 rfl dX6_mayTie_26 ?_
    refine rr_nreturn dX6_mayTie_27 rfl (by first | rfl | assumption) ?_
    simpa only [vX6_mayTie_t, if_pos c1] using kq
  · skip
    refine rr_iload_n 1 rfl rfl dX6_mayTie_8 ?_
    refine rr_iload_n 2 rfl rfl dX6_mayTie_9 ?_
    refine rr_icmp_eq dX6_mayTie_10 (fun c2 => ?_) (fun c2 => ?_)
    · skip
      refine rr_iconst 1 rfl dX6_mayTie_22 ?_
      refine rr_goto dX6_mayTie_23 ?_
      refine rr_nreturn dX6_mayTie_27 rfl (by first | rfl | assumption) ?_
      simpa only [vX6_mayTie_t, if_neg c1, if_pos c2] using kq
    · skip
      refine rr_aload_n 0 rfl rfl dX6_mayTie_13 ?_
      refine rr_getR dX6_mayTie_14 fX6_15 lo_43 sh_43 rfl ?_
      refine rr_iload_n 1 rfl rfl dX6_mayTie_17 ?_
      refine rr_iaload dX6_mayTie_18 lo_45 sh_45 (by first | assumption | exact vp_in_nI (by omega) (by decide) | decide | omega | exact jj_inL rfl) ?_
      refine rr_if_eq dX6_mayTie_19 (fun c3 => ?_) (fun c3 => ?_)
      · skip
        refine rr_iconst 0 rfl dX6_mayTie_26 ?_
        refine rr_nreturn dX6_mayTie_27 rfl (by first | rfl | assumption) ?_
        simpa only [vX6_mayTie_t, if_neg c1, if_neg c2, if_pos c3] using kq
      · skip
        refine rr_iconst 1 rfl dX6_mayTie_22 ?_
        refine rr_goto dX6_mayTie_23 ?_
        refine rr_nreturn dX6_mayTie_27 rfl (by first | rfl | assumption) ?_
        simpa only [vX6_mayTie_t, if_neg c1, if_neg c2, if_neg c3] using kq
def vX6_behindOf_t (r43 : Nat → Int32) (r44 : Nat → Int32) (p : Int32) : Int32 := ((r43 0) - (r44 (p : Int32).toNatClampNeg))
set_option maxHeartbeats 1000000 in
theorem sp_X6_behindOf_t {d kc ks : Nat} {h : Nat → Nat → Int32} {g : Nat → Nat → Int64} {Q : jj_Rs → jj_St → Prop} {p : Int32} (hp : vp_in p 8) (kq : Q (.inl (some (.int (vX6_behindOf_t (h 43) (h 44) p)))) (jj_S, 782, h, g)) : jj_R mX6_behindOf (d + 0) kc ks (jj_S, 782, h, g) 0 [(0, .ref 43), (1, .int p)] [] Q := by
  refine rr_aload_n 0 rfl rfl dX6_behindOf_0 ?_
  refine rr_getI dX6_behindOf_1 fX6_24 lo_43 sh_43 rfl ?_
  refine rr_aload_n 0 rfl rfl dX6_behindOf_4 ?_
  refine rr_getR dX6_behindOf_5 fX6_9 lo_43 sh_43 rfl ?_
  refine rr_iload_n 1 rfl rfl dX6_behindOf_8 ?_
  refine rr_iaload dX6_behindOf_9 lo_44 sh_44 (by first | assumption | exact vp_in_nI (by omega) (by decide) | decide | omega | exact jj_inL rfl) ?_
  refine rr_isub dX6_behindOf_10 ?_
  refine rr_ireturn dX6_behindOf_11 rfl ?_
  simpa only [vX6_behindOf_t] using kq
def vX6_behindTogether_t (r43 : Nat → Int32) (r44 : Nat → Int32) (n : Nat) : Int32 := (jj_fo (fun k1 a1 => (a1 + (vX6_behindOf_t r43 r44 (nI k1)))) n 0)
set_option maxHeartbeats 1000000 in
theorem sp_X6_behindTogether_t {d kc ks : Nat} {h : Nat → Nat → Int32} {g : Nat → Nat → Int64} {Q : jj_Rs → jj_St → Prop} {n : Nat} (hn : n ≤ 8) (kq : Q (.inl (some (.int (vX6_behindTogether_t (h 43) (h 44) n)))) (jj_S, 782, h, g)) : jj_R mX6_behindTogether (d + 1) kc ks (jj_S, 782, h, g) 0 [(0, .ref 43), (1, .int (nI n))] [] Q := by
  refine rr_iconst 0 rfl dX6_behindTogether_0 ?_
  refine rr_istore_n [(0, .ref 43), (1, .int (nI n)), (2, .int 0)] dX6_behindTogether_1 rfl (by decide) rfl ?_
  refine rr_iconst 0 rfl dX6_behindTogether_2 ?_
  refine rr_istore_n [(0, .ref 43), (1, .int (nI n)), (2, .int 0), (3, .int 0)] dX6_behindTogether_3 rfl (by decide) rfl ?_
  refine jj_for (fun k1 (a1 : Int32) => jj_R _ _ kc ks (jj_S, 782, h, g) 4 [(0, .ref 43), (1, .int (nI n)), (2, .int a1), (3, .int (nI k1))] [] Q) (fun k1 a1 => (a1 + (vX6_behindOf_t (h 43) (h 44) (nI k1)))) n 0 ?_ ?_
  · intro k1 hk1 ih1
    generalize jj_fo _ k1 _ = a1 at ih1 ⊢
    try dsimp only at ih1 ⊢
    refine rr_iload_n 3 rfl rfl dX6_behindTogether_4 ?_
    refine rr_iload_n 1 rfl rfl dX6_behindTogether_5 ?_
    refine rr_icmp_ge dX6_behindTogether_6 (fun c => absurd c (nI_ge (a := k1) (b := n) (by omega) (by omega))) (fun _ => ?_)
    refine rr_iload_n 3 rfl rfl dX6_behindTogether_9 ?_
    refine rr_bipush 8 rfl dX6_behindTogether_10 ?_
    refine rr_icmp_ge dX6_behindTogether_12 (fun c => absurd c (nI_ge (a := k1) (b := 8) (by omega) (by omega))) (fun _ => ?_)
    refine rr_iload_n 2 rfl rfl dX6_behindTogether_15 ?_
    refine rr_aload_n 0 rfl rfl dX6_behindTogether_16 ?_
    refine rr_iload_n 3 rfl rfl dX6_behindTogether_17 ?_
    refine rr_callV (As := [.int (nI k1)]) (rest := [.int a1]) (kc2 := 0) (ks2 := 0) dX6_behindTogether_18 okX6_behindOf lX6_41 lo_43 sh_43 rfl rfl (Nat.le_of_ble_eq_true rfl) (Nat.le_of_ble_eq_true rfl) rfl (by omega) (by simp [jj_rk]) (by simp [jj_rk]) ?_
    refine sp_X6_behindOf_t (by first | assumption | exact vp_in_nI (by omega) (by decide) | decide | omega | exact jj_inL rfl) ?_
    show jj_R _ _ kc ks (jj_S, 782, h, g) 21 [(0, .ref 43), (1, .int (nI n)), (2, .int a1), (3, .int (nI k1))] [.int (vX6_behindOf_t (h 43) (h 44) (nI k1)), .int a1] Q
    refine rr_iadd dX6_behindTogether_21 ?_
    refine rr_istore_n [(0, .ref 43), (1, .int (nI n)), (2, .int (a1 + (vX6_behindOf_t (h 43) (h 44) (nI k1)))), (3, .int (nI k1))] dX6_behindTogether_22 rfl (by decide) rfl ?_
    refine rr_iinc 3 1 [(0, .ref 43), (1, .int (nI n)), (2, .int (a1 + (vX6_behindOf_t (h 43) (h 44) (nI k1)))), (3, .int ((nI k1) + 1))] dX6_behindTogether_23 rfl rfl (by decide) rfl ?_
    refine rr_goto dX6_behindTogether_26 ?_
    simpa only [nI_1, (nI_clamp (show k1 < 2 ^ 31 by omega))] using ih1
  · try dsimp only
    refine rr_iload_n 3 rfl rfl dX6_behindTogether_4 ?_
    refine rr_iload_n 1 rfl rfl dX6_behindTogether_5 ?_
    refine rr_icmp_ge dX6_behindTogether_6 (fun _ => ?_) (fun c => absurd (jj_le_rf _) c)
    refine rr_iload_n 2 rfl rfl dX6_behindTogether_29 ?_
    refine rr_ireturn dX6_behindTogether_30 rfl ?_
    simpa only [vX6_behindTogether_t] using kq
def vX6_slipsTogether_t (r46 : Nat → Int32) (n : Nat) : Int32 := (jj_fo (fun k1 a1 => (a1 + (r46 k1))) n 0)
set_option maxHeartbeats 1000000 in
theorem sp_X6_slipsTogether_t {d kc ks : Nat} {h : Nat → Nat → Int32} {g : Nat → Nat → Int64} {Q : jj_Rs → jj_St → Prop} {n : Nat} (hn : n ≤ 8) (kq : Q (.inl (some (.int (vX6_slipsTogether_t (h 46) n)))) (jj_S, 782, h, g)) : jj_R mX6_slipsTogether (d + 0) kc ks (jj_S, 782, h, g) 0 [(0, .ref 43), (1, .int (nI n))] [] Q := by
  refine rr_iconst 0 rfl dX6_slipsTogether_0 ?_
  refine rr_istore_n [(0, .ref 43), (1, .int (nI n)), (2, .int 0)] dX6_slipsTogether_1 rfl (by decide) rfl ?_
  refine rr_iconst 0 rfl dX6_slipsTogether_2 ?_
  refine rr_istore_n [(0, .ref 43), (1, .int (nI n)), (2, .int 0), (3, .int 0)] dX6_slipsTogether_3 rfl (by decide) rfl ?_
  refine jj_for (fun k1 (a1 : Int32) => jj_R _ _ kc ks (jj_S, 782, h, g) 4 [(0, .ref 43), (1, .int (nI n)), (2, .int a1), (3, .int (nI k1))] [] Q) (fun k1 a1 => (a1 + ((h 46) k1))) n 0 ?_ ?_
  · intro k1 hk1 ih1
    generalize jj_fo _ k1 _ = a1 at ih1 ⊢
    try dsimp only at ih1 ⊢
    refine rr_iload_n 3 rfl rfl dX6_slipsTogether_4 ?_
    refine rr_iload_n 1 rfl rfl dX6_slipsTogether_5 ?_
    refine rr_icmp_ge dX6_slipsTogether_6 (fun c => absurd c (nI_ge (a := k1) (b := n) (by omega) (by omega))) (fun _ => ?_)
    refine rr_iload_n 3 rfl rfl dX6_slipsTogether_9 ?_
    refine rr_bipush 8 rfl dX6_slipsTogether_10 ?_
    refine rr_icmp_ge dX6_slipsTogether_12 (fun c => absurd c (nI_ge (a := k1) (b := 8) (by omega) (by omega))) (fun _ => ?_)
    refine rr_iload_n 2 rfl rfl dX6_slipsTogether_15 ?_
    refine rr_aload_n 0 rfl rfl dX6_slipsTogether_16 ?_
    refine rr_getR dX6_slipsTogether_17 fX6_18 lo_43 sh_43 rfl ?_
    refine rr_iload_n 3 rfl rfl dX6_slipsTogether_20 ?_
    refine rr_iaload dX6_slipsTogether_21 lo_46 sh_46 (by first | assumption | exact vp_in_nI (by omega) (by decide) | decide | omega | exact jj_inL rfl) ?_
    refine rr_iadd dX6_slipsTogether_22 ?_
    refine rr_istore_n [(0, .ref 43), (1, .int (nI n)), (2, .int (a1 + ((h 46) ((nI k1) : Int32).toNatClampNeg))), (3, .int (nI k1))] dX6_slipsTogether_23 rfl (by decide) rfl ?_
    refine rr_iinc 3 1 [(0, .ref 43), (1, .int (nI n)), (2, .int (a1 + ((h 46) ((nI k1) : Int32).toNatClampNeg))), (3, .int ((nI k1) + 1))] dX6_slipsTogether_24 rfl rfl (by decide) rfl ?_
    refine rr_goto dX6_slipsTogether_27 ?_
    simpa only [nI_1, (nI_clamp (show k1 < 2 ^ 31 by omega))] using ih1
  · try dsimp only
    refine rr_iload_n 3 rfl rfl dX6_slipsTogether_4 ?_
    refine rr_iload_n 1 rfl rfl dX6_slipsTogether_5 ?_
    refine rr_icmp_ge dX6_slipsTogether_6 (fun _ => ?_) (fun c => absurd (jj_le_rf _) c)
    refine rr_iload_n 2 rfl rfl dX6_slipsTogether_30 ?_
    refine rr_ireturn dX6_slipsTogether_31 rfl ?_
    simpa only [vX6_slipsTogether_t] using kq
def vX6_behindBits_t (r43 : Nat → Int32) (r44 : Nat → Int32) (n : Nat) : Int32 := (jj_fo (fun k1 a1 => (if (vX6_behindOf_t r43 r44 (nI k1)) ≤ 0 then (a1 ||| 0) else (a1 ||| (1 <<< ((nI k1) &&& 31))))) n 0)
set_option maxHeartbeats 1000000 in
theorem sp_X6_behindBits_t {d kc ks : Nat} {h : Nat → Nat → Int32} {g : Nat → Nat → Int64} {Q : jj_Rs → jj_St → Prop} {n : Nat} (hn : n ≤ 8) (kq : Q (.inl (some (.int (vX6_behindBits_t (h 43) (h 44) n)))) (jj_S, 782, h, g)) : jj_R mX6_behindBits (d + 1) kc ks (jj_S, 782, h, g) 0 [(0, .ref 43), (1, .int (nI n))] [] Q := by
  refine rr_iconst 0 rfl dX6_behindBits_0 ?_
  refine rr_istore_n [(0, .ref 43), (1, .int (nI n)), (2, .int 0)] dX6_behindBits_1 rfl (by decide) rfl ?_
  refine rr_iconst 0 rfl dX6_behindBits_2 ?_
  refine rr_istore_n [(0, .ref 43), (1, .int (nI n)), (2, .int 0), (3, .int 0)] dX6_behindBits_3 rfl (by decide) rfl ?_
  refine jj_for (fun k1 (a1 : Int32) => jj_R _ _ kc ks (jj_S, 782, h, g) 4 [(0, .ref 43), (1, .int (nI n)), (2, .int a1), (3, .int (nI k1))] [] Q) (fun k1 a1 => (if (vX6_behindOf_t (h 43) (h 44) (nI k1)) ≤ 0 then (a1 ||| 0) else (a1 ||| (1 <<< ((nI k1) &&& 31))))) n 0 ?_ ?_
  · intro k1 hk1 ih1
    generalize jj_fo _ k1 _ = a1 at ih1 ⊢
    try dsimp only at ih1 ⊢
    refine rr_iload_n 3 rfl rfl dX6_behindBits_4 ?_
    refine rr_iload_n 1 rfl rfl dX6_behindBits_5 ?_
    refine rr_icmp_ge dX6_behindBits_6 (fun c => absurd c (nI_ge (a := k1) (b := n) (by omega) (by omega))) (fun _ => ?_)
    refine rr_iload_n 3 rfl rfl dX6_behindBits_9 ?_
    refine rr_bipush 8 rfl dX6_behindBits_10 ?_
    refine rr_icmp_ge dX6_behindBits_12 (fun c => absurd c (nI_ge (a := k1) (b := 8) (by omega) (by omega))) (fun _ => ?_)
    refine rr_iload_n 2 rfl rfl dX6_behindBits_15 ?_
    refine rr_aload_n 0 rfl rfl dX6_behindBits_16 ?_
    refine rr_iload_n 3 rfl rfl dX6_behindBits_17 ?_
    refine rr_callV (As := [.int (nI k1)]) (rest := [.int a1]) (kc2 := 0) (ks2 := 0) dX6_behindBits_18 okX6_behindOf lX6_41 lo_43 sh_43 rfl rfl (Nat.le_of_ble_eq_true rfl) (Nat.le_of_ble_eq_true rfl) rfl (by omega) (by simp [jj_rk]) (by simp [jj_rk]) ?_
    refine sp_X6_behindOf_t (by first | assumption | exact vp_in_nI (by omega) (by decide) | decide | omega | exact jj_inL rfl) ?_
    show jj_R _ _ kc ks (jj_S, 782, h, g) 21 [(0, .ref 43), (1, .int (nI n)), (2, .int a1), (3, .int (nI k1))] [.int (vX6_behindOf_t (h 43) (h 44) (nI k1)), .int a1] Q
    refine rr_if_le dX6_behindBits_21 (fun c1 => ?_) (fun c1 => ?_)
    · skip
      refine rr_iconst 0 rfl dX6_behindBits_30 ?_
      refine rr_ior dX6_behindBits_31 ?_
      refine rr_istore_n [(0, .ref 43), (1, .int (nI n)), (2, .int (a1 ||| 0)), (3, .int (nI k1))] dX6_behindBits_32 rfl (by decide) rfl ?_
      refine rr_iinc 3 1 [(0, .ref 43), (1, .int (nI n)), (2, .int (a1 ||| 0)), (3, .int ((nI k1) + 1))] dX6_behindBits_33 rfl rfl (by decide) rfl ?_
      refine rr_goto dX6_behindBits_36 ?_
      try simp only [(nI_clamp (show k1 < 2 ^ 31 by omega))] at c1
      simpa only [nI_1, (nI_clamp (show k1 < 2 ^ 31 by omega)), if_pos c1] using ih1
    · skip
      refine rr_iconst 1 rfl dX6_behindBits_24 ?_
      refine rr_iload_n 3 rfl rfl dX6_behindBits_25 ?_
      refine rr_ishl dX6_behindBits_26 ?_
      refine rr_goto dX6_behindBits_27 ?_
      refine rr_ior dX6_behindBits_31 ?_
      refine rr_istore_n [(0, .ref 43), (1, .int (nI n)), (2, .int (a1 ||| (1 <<< ((nI k1) &&& 31)))), (3, .int (nI k1))] dX6_behindBits_32 rfl (by decide) rfl ?_
      refine rr_iinc 3 1 [(0, .ref 43), (1, .int (nI n)), (2, .int (a1 ||| (1 <<< ((nI k1) &&& 31)))), (3, .int ((nI k1) + 1))] dX6_behindBits_33 rfl rfl (by decide) rfl ?_
      refine rr_goto dX6_behindBits_36 ?_
      try simp only [(nI_clamp (show k1 < 2 ^ 31 by omega))] at c1
      simpa only [nI_1, (nI_clamp (show k1 < 2 ^ 31 by omega)), if_neg c1] using ih1
  · try dsimp only
    refine rr_iload_n 3 rfl rfl dX6_behindBits_4 ?_
    refine rr_iload_n 1 rfl rfl dX6_behindBits_5 ?_
    refine rr_icmp_ge dX6_behindBits_6 (fun _ => ?_) (fun c => absurd (jj_le_rf _) c)
    refine rr_iload_n 2 rfl rfl dX6_behindBits_39 ?_
    refine rr_ireturn dX6_behindBits_40 rfl ?_
    simpa only [vX6_behindBits_t] using kq
def vX6_tiedBits_t (r45 : Nat → Int32) (n : Nat) (w : Int32) : Int32 := (jj_fo (fun k1 a1 => (if (r45 k1) < w then (a1 ||| 0) else (a1 ||| (1 <<< ((nI k1) &&& 31))))) n 0)
set_option maxHeartbeats 1000000 in
theorem sp_X6_tiedBits_t {d kc ks : Nat} {h : Nat → Nat → Int32} {g : Nat → Nat → Int64} {Q : jj_Rs → jj_St → Prop} {n : Nat} {w : Int32} (hn : n ≤ 8) (kq : Q (.inl (some (.int (vX6_tiedBits_t (h 45) n w)))) (jj_S, 782, h, g)) : jj_R mX6_tiedBits (d + 0) kc ks (jj_S, 782, h, g) 0 [(0, .ref 43), (1, .int (nI n)), (2, .int w)] [] Q := by
  refine rr_iconst 0 rfl dX6_tiedBits_0 ?_
  refine rr_istore_n [(0, .ref 43), (1, .int (nI n)), (2, .int w), (3, .int 0)] dX6_tiedBits_1 rfl (by decide) rfl ?_
  refine rr_iconst 0 rfl dX6_tiedBits_2 ?_
  refine rr_istore [(0, .ref 43), (1, .int (nI n)), (2, .int w), (3, .int 0), (4, .int 0)] dX6_tiedBits_3 (by decide) rfl ?_
  refine jj_for (fun k1 (a1 : Int32) => jj_R _ _ kc ks (jj_S, 782, h, g) 5 [(0, .ref 43), (1, .int (nI n)), (2, .int w), (3, .int a1), (4, .int (nI k1))] [] Q) (fun k1 a1 => (if ((h 45) k1) < w then (a1 ||| 0) else (a1 ||| (1 <<< ((nI k1) &&& 31))))) n 0 ?_ ?_
  · intro k1 hk1 ih1
    generalize jj_fo _ k1 _ = a1 at ih1 ⊢
    try dsimp only at ih1 ⊢
    refine rr_iload 4 rfl dX6_tiedBits_5 ?_
    refine rr_iload_n 1 rfl rfl dX6_tiedBits_7 ?_
    refine rr_icmp_ge dX6_tiedBits_8 (fun c => absurd c (nI_ge (a := k1) (b := n) (by omega) (by omega))) (fun _ => ?_)
    refine rr_iload 4 rfl dX6_tiedBits_11 ?_
    refine rr_bipush 8 rfl dX6_tiedBits_13 ?_
    refine rr_icmp_ge dX6_tiedBits_15 (fun c => absurd c (nI_ge (a := k1) (b := 8) (by omega) (by omega))) (fun _ => ?_)
    refine rr_iload_n 3 rfl rfl dX6_tiedBits_18 ?_
    refine rr_aload_n 0 rfl rfl dX6_tiedBits_19 ?_
    refine rr_getR dX6_tiedBits_20 fX6_15 lo_43 sh_43 rfl ?_
    refine rr_iload 4 rfl dX6_tiedBits_23 ?_
    refine rr_iaload dX6_tiedBits_25 lo_45 sh_45 (by first | assumption | exact vp_in_nI (by omega) (by decide) | decide | omega | exact jj_inL rfl) ?_
    refine rr_iload_n 2 rfl rfl dX6_tiedBits_26 ?_
    refine rr_icmp_lt dX6_tiedBits_27 (fun c1 => ?_) (fun c1 => ?_)
    · skip
      refine rr_iconst 0 rfl dX6_tiedBits_37 ?_
      refine rr_ior dX6_tiedBits_38 ?_
      refine rr_istore_n [(0, .ref 43), (1, .int (nI n)), (2, .int w), (3, .int (a1 ||| 0)), (4, .int (nI k1))] dX6_tiedBits_39 rfl (by decide) rfl ?_
      refine rr_iinc 4 1 [(0, .ref 43), (1, .int (nI n)), (2, .int w), (3, .int (a1 ||| 0)), (4, .int ((nI k1) + 1))] dX6_tiedBits_40 rfl rfl (by decide) rfl ?_
      refine rr_goto dX6_tiedBits_43 ?_
      try simp only [(nI_clamp (show k1 < 2 ^ 31 by omega))] at c1
      simpa only [nI_1, (nI_clamp (show k1 < 2 ^ 31 by omega)), if_pos c1] using ih1
    · skip
      refine rr_iconst 1 rfl dX6_tiedBits_30 ?_
      refine rr_iload 4 rfl dX6_tiedBits_31 ?_
      refine rr_ishl dX6_tiedBits_33 ?_
      refine rr_goto dX6_tiedBits_34 ?_
      refine rr_ior dX6_tiedBits_38 ?_
      refine rr_istore_n [(0, .ref 43), (1, .int (nI n)), (2, .int w), (3, .int (a1 ||| (1 <<< ((nI k1) &&& 31)))), (4, .int (nI k1))] dX6_tiedBits_39 rfl (by decide) rfl ?_
      refine rr_iinc 4 1 [(0, .ref 43), (1, .int (nI n)), (2, .int w), (3, .int (a1 ||| (1 <<< ((nI k1) &&& 31)))), (4, .int ((nI k1) + 1))] dX6_tiedBits_40 rfl rfl (by decide) rfl ?_
      refine rr_goto dX6_tiedBits_43 ?_
      try simp only [(nI_clamp (show k1 < 2 ^ 31 by omega))] at c1
      simpa only [nI_1, (nI_clamp (show k1 < 2 ^ 31 by omega)), if_neg c1] using ih1
  · try dsimp only
    refine rr_iload 4 rfl dX6_tiedBits_5 ?_
    refine rr_iload_n 1 rfl rfl dX6_tiedBits_7 ?_
    refine rr_icmp_ge dX6_tiedBits_8 (fun _ => ?_) (fun c => absurd (jj_le_rf _) c)
    refine rr_iload_n 3 rfl rfl dX6_tiedBits_46 ?_
    refine rr_ireturn dX6_tiedBits_47 rfl ?_
    simpa only [vX6_tiedBits_t] using kq
def vX6_bitsInDay_t (r44 : Nat → Int32) (n : Nat) (w : Int32) : Int32 := (jj_fo (fun k1 a1 => (if (r44 k1) = w then (a1 ||| (1 <<< ((nI k1) &&& 31))) else (a1 ||| 0))) n 0)
set_option maxHeartbeats 1000000 in
theorem sp_X6_bitsInDay_t {d kc ks : Nat} {h : Nat → Nat → Int32} {g : Nat → Nat → Int64} {Q : jj_Rs → jj_St → Prop} {n : Nat} {w : Int32} (hn : n ≤ 8) (kq : Q (.inl (some (.int (vX6_bitsInDay_t (h 44) n w)))) (jj_S, 782, h, g)) : jj_R mX6_bitsInDay (d + 0) kc ks (jj_S, 782, h, g) 0 [(0, .ref 43), (1, .int (nI n)), (2, .int w)] [] Q := by
  refine rr_iconst 0 rfl dX6_bitsInDay_0 ?_
  refine rr_istore_n [(0, .ref 43), (1, .int (nI n)), (2, .int w), (3, .int 0)] dX6_bitsInDay_1 rfl (by decide) rfl ?_
  refine rr_iconst 0 rfl dX6_bitsInDay_2 ?_
  refine rr_istore [(0, .ref 43), (1, .int (nI n)), (2, .int w), (3, .int 0), (4, .int 0)] dX6_bitsInDay_3 (by decide) rfl ?_
  refine jj_for (fun k1 (a1 : Int32) => jj_R _ _ kc ks (jj_S, 782, h, g) 5 [(0, .ref 43), (1, .int (nI n)), (2, .int w), (3, .int a1), (4, .int (nI k1))] [] Q) (fun k1 a1 => (if ((h 44) k1) = w then (a1 ||| (1 <<< ((nI k1) &&& 31))) else (a1 ||| 0))) n 0 ?_ ?_
  · intro k1 hk1 ih1
    generalize jj_fo _ k1 _ = a1 at ih1 ⊢
    try dsimp only at ih1 ⊢
    refine rr_iload 4 rfl dX6_bitsInDay_5 ?_
    refine rr_iload_n 1 rfl rfl dX6_bitsInDay_7 ?_
    refine rr_icmp_ge dX6_bitsInDay_8 (fun c => absurd c (nI_ge (a := k1) (b := n) (by omega) (by omega))) (fun _ => ?_)
    refine rr_iload 4 rfl dX6_bitsInDay_11 ?_
    refine rr_bipush 8 rfl dX6_bitsInDay_13 ?_
    refine rr_icmp_ge dX6_bitsInDay_15 (fun c => absurd c (nI_ge (a := k1) (b := 8) (by omega) (by omega))) (fun _ => ?_)
    refine rr_iload_n 3 rfl rfl dX6_bitsInDay_18 ?_
    refine rr_aload_n 0 rfl rfl dX6_bitsInDay_19 ?_
    refine rr_getR dX6_bitsInDay_20 fX6_9 lo_43 sh_43 rfl ?_
    refine rr_iload 4 rfl dX6_bitsInDay_23 ?_
    refine rr_iaload dX6_bitsInDay_25 lo_44 sh_44 (by first | assumption | exact vp_in_nI (by omega) (by decide) | decide | omega | exact jj_inL rfl) ?_
    refine rr_iload_n 2 rfl rfl dX6_bitsInDay_26 ?_
    refine rr_icmp_ne dX6_bitsInDay_27 (fun c1 => ?_) (fun c1 => ?_)
    · skip
      refine rr_iconst 0 rfl dX6_bitsInDay_37 ?_
      refine rr_ior dX6_bitsInDay_38 ?_
      refine rr_istore_n [(0, .ref 43), (1, .int (nI n)), (2, .int w), (3, .int (a1 ||| 0)), (4, .int (nI k1))] dX6_bitsInDay_39 rfl (by decide) rfl ?_
      refine rr_iinc 4 1 [(0, .ref 43), (1, .int (nI n)), (2, .int w), (3, .int (a1 ||| 0)), (4, .int ((nI k1) + 1))] dX6_bitsInDay_40 rfl rfl (by decide) rfl ?_
      refine rr_goto dX6_bitsInDay_43 ?_
      try simp only [(nI_clamp (show k1 < 2 ^ 31 by omega))] at c1
      simpa only [nI_1, (nI_clamp (show k1 < 2 ^ 31 by omega)), if_neg c1] using ih1
    · skip
      refine rr_iconst 1 rfl dX6_bitsInDay_30 ?_
      refine rr_iload 4 rfl dX6_bitsInDay_31 ?_
      refine rr_ishl dX6_bitsInDay_33 ?_
      refine rr_goto dX6_bitsInDay_34 ?_
      refine rr_ior dX6_bitsInDay_38 ?_
      refine rr_istore_n [(0, .ref 43), (1, .int (nI n)), (2, .int w), (3, .int (a1 ||| (1 <<< ((nI k1) &&& 31)))), (4, .int (nI k1))] dX6_bitsInDay_39 rfl (by decide) rfl ?_
      refine rr_iinc 4 1 [(0, .ref 43), (1, .int (nI n)), (2, .int w), (3, .int (a1 ||| (1 <<< ((nI k1) &&& 31)))), (4, .int ((nI k1) + 1))] dX6_bitsInDay_40 rfl rfl (by decide) rfl ?_
      refine rr_goto dX6_bitsInDay_43 ?_
      try simp only [(nI_clamp (show k1 < 2 ^ 31 by omega))] at c1
      simpa only [nI_1, (nI_clamp (show k1 < 2 ^ 31 by omega)), if_pos c1] using ih1
  · try dsimp only
    refine rr_iload 4 rfl dX6_bitsInDay_5 ?_
    refine rr_iload_n 1 rfl rfl dX6_bitsInDay_7 ?_
    refine rr_icmp_ge dX6_bitsInDay_8 (fun _ => ?_) (fun c => absurd (jj_le_rf _) c)
    refine rr_iload_n 3 rfl rfl dX6_bitsInDay_46 ?_
    refine rr_ireturn dX6_bitsInDay_47 rfl ?_
    simpa only [vX6_bitsInDay_t] using kq
def rX6_passDay_t_43 (r43 : Nat → Int32) (r44 : Nat → Int32) (r45 : Nat → Int32) (n : Nat) : Nat → Int32 := (upd r43 (0) ((r43 0) + 1))
def rX6_passDay_t_44 (r43 : Nat → Int32) (r44 : Nat → Int32) (r45 : Nat → Int32) (n : Nat) : Nat → Int32 := (jj_fo (fun k1 a1 => (if (a1.2 k1) = 1 then (if (vX6_isCut_t (upd r43 (0) ((r43 0) + 1)) (nI k1)) = 0 then (a1.1, (upd a1.2 (k1) 0)) else ((upd a1.1 (k1) ((upd r43 (0) ((r43 0) + 1)) 0)), (upd a1.2 (k1) 0))) else (if (a1.2 k1) = 2 then (if (vX6_isCut_t (upd r43 (0) ((r43 0) + 1)) (nI k1)) = 0 then ((upd a1.1 (k1) ((a1.1 k1) + 1)), a1.2) else ((upd (upd a1.1 (k1) ((a1.1 k1) + 1)) (k1) ((upd r43 (0) ((r43 0) + 1)) 0)), a1.2)) else (if (vX6_isCut_t (upd r43 (0) ((r43 0) + 1)) (nI k1)) = 0 then (a1.1, a1.2) else ((upd a1.1 (k1) ((upd r43 (0) ((r43 0) + 1)) 0)), a1.2))))) n (r44, r45)).1
def rX6_passDay_t_45 (r43 : Nat → Int32) (r44 : Nat → Int32) (r45 : Nat → Int32) (n : Nat) : Nat → Int32 := (jj_fo (fun k1 a1 => (if (a1.2 k1) = 1 then (if (vX6_isCut_t (upd r43 (0) ((r43 0) + 1)) (nI k1)) = 0 then (a1.1, (upd a1.2 (k1) 0)) else ((upd a1.1 (k1) ((upd r43 (0) ((r43 0) + 1)) 0)), (upd a1.2 (k1) 0))) else (if (a1.2 k1) = 2 then (if (vX6_isCut_t (upd r43 (0) ((r43 0) + 1)) (nI k1)) = 0 then ((upd a1.1 (k1) ((a1.1 k1) + 1)), a1.2) else ((upd (upd a1.1 (k1) ((a1.1 k1) + 1)) (k1) ((upd r43 (0) ((r43 0) + 1)) 0)), a1.2)) else (if (vX6_isCut_t (upd r43 (0) ((r43 0) + 1)) (nI k1)) = 0 then (a1.1, a1.2) else ((upd a1.1 (k1) ((upd r43 (0) ((r43 0) + 1)) 0)), a1.2))))) n (r44, r45)).2
set_option maxHeartbeats 1000000 in
theorem sp_X6_passDay_t {d kc ks : Nat} {h : Nat → Nat → Int32} {g : Nat → Nat → Int64} {Q : jj_Rs → jj_St → Prop} {n : Nat} (hn : n ≤ 8) (kq : Q (.inl none) (jj_S, 782, (jj_rs h [(43, (rX6_passDay_t_43 (h 43) (h 44) (h 45) n)), (44, (rX6_passDay_t_44 (h 43) (h 44) (h 45) n)), (45, (rX6_passDay_t_45 (h 43) (h 44) (h 45) n))]), g)) : jj_R mX6_passDay (d + 1) kc ks (jj_S, 782, h, g) 0 [(0, .ref 43), (1, .int (nI n))] [] Q := by
  refine rr_aload_n 0 rfl rfl dX6_passDay_0 ?_
  refine rr_dup rfl dX6_passDay_1 ?_
  refine rr_getI dX6_passDay_2 fX6_24 lo_43 sh_43 rfl ?_
  refine rr_iconst 1 rfl dX6_passDay_5 ?_
  refine rr_iadd dX6_passDay_6 ?_
  refine rr_putI dX6_passDay_7 fX6_24 ni6_0 lo_43 sh_43 rfl ?_
  rw [jj_rs_set0 (B := h) (o := 43) (r := (h 43)) rfl]
  refine rr_iconst 0 rfl dX6_passDay_10 ?_
  refine rr_istore_n [(0, .ref 43), (1, .int (nI n)), (2, .int 0)] dX6_passDay_11 rfl (by decide) rfl ?_
  rw [jj_rs_add (B := h) (L := [(43, (upd (h 43) (0) (((h 43) 0) + 1)))]) (L2 := [(43, (upd (h 43) (0) (((h 43) 0) + 1))), (44, (h 44))]) (o := 44) (r := (h 44)) rfl rfl]
  rw [jj_rs_add (B := h) (L := [(43, (upd (h 43) (0) (((h 43) 0) + 1))), (44, (h 44))]) (L2 := [(43, (upd (h 43) (0) (((h 43) 0) + 1))), (44, (h 44)), (45, (h 45))]) (o := 45) (r := (h 45)) rfl rfl]
  refine jj_for (fun k1 (a1 : (Nat → Int32) × (Nat → Int32)) => jj_R _ _ kc ks (jj_S, 782, (jj_rs h [(43, (upd (h 43) (0) (((h 43) 0) + 1))), (44, a1.1), (45, a1.2)]), g) 12 [(0, .ref 43), (1, .int (nI n)), (2, .int (nI k1))] [] Q) (fun k1 a1 => (if (a1.2 k1) = 1 then (if (vX6_isCut_t (upd (h 43) (0) (((h 43) 0) + 1)) (nI k1)) = 0 then (a1.1, (upd a1.2 (k1) 0)) else ((upd a1.1 (k1) ((upd (h 43) (0) (((h 43) 0) + 1)) 0)), (upd a1.2 (k1) 0))) else (if (a1.2 k1) = 2 then (if (vX6_isCut_t (upd (h 43) (0) (((h 43) 0) + 1)) (nI k1)) = 0 then ((upd a1.1 (k1) ((a1.1 k1) + 1)), a1.2) else ((upd (upd a1.1 (k1) ((a1.1 k1) + 1)) (k1) ((upd (h 43) (0) (((h 43) 0) + 1)) 0)), a1.2)) else (if (vX6_isCut_t (upd (h 43) (0) (((h 43) 0) + 1)) (nI k1)) = 0 then (a1.1, a1.2) else ((upd a1.1 (k1) ((upd (h 43) (0) (((h 43) 0) + 1)) 0)), a1.2))))) n ((h 44), (h 45)) ?_ ?_
  · intro k1 hk1 ih1
    generalize jj_fo _ k1 _ = a1 at ih1 ⊢
    try dsimp only at ih1 ⊢
    refine rr_iload_n 2 rfl rfl dX6_passDay_12 ?_
    refine rr_iload_n 1 rfl rfl dX6_passDay_13 ?_
    refine rr_icmp_ge dX6_passDay_14 (fun c => absurd c (nI_ge (a := k1) (b := n) (by omega) (by omega))) (fun _ => ?_)
    refine rr_iload_n 2 rfl rfl dX6_passDay_17 ?_
    refine rr_bipush 8 rfl dX6_passDay_18 ?_
    refine rr_icmp_ge dX6_passDay_20 (fun c => absurd c (nI_ge (a := k1) (b := 8) (by omega) (by omega))) (fun _ => ?_)
    refine rr_aload_n 0 rfl rfl dX6_passDay_23 ?_
    refine rr_getR dX6_passDay_24 fX6_15 lo_43 sh_43 rfl ?_
    refine rr_iload_n 2 rfl rfl dX6_passDay_27 ?_
    refine rr_iaload dX6_passDay_28 lo_45 sh_45 (by first | assumption | exact vp_in_nI (by omega) (by decide) | decide | omega | exact jj_inL rfl) ?_
    rw [show (jj_rs h [(43, (upd (h 43) (0) (((h 43) 0) + 1))), (44, a1.1), (45, a1.2)]) 45 = a1.2 from rfl]
    refine rr_iconst 1 rfl dX6_passDay_29 ?_
    refine rr_icmp_ne dX6_passDay_30 (fun c1 => ?_) (fun c1 => ?_)
    · skip
      refine rr_aload_n 0 rfl rfl dX6_passDay_43 ?_
      refine rr_getR dX6_passDay_44 fX6_15 lo_43 sh_43 rfl ?_
      refine rr_iload_n 2 rfl rfl dX6_passDay_47 ?_
      refine rr_iaload dX6_passDay_48 lo_45 sh_45 (by first | assumption | exact vp_in_nI (by omega) (by decide) | decide | omega | exact jj_inL rfl) ?_
      rw [show (jj_rs h [(43, (upd (h 43) (0) (((h 43) 0) + 1))), (44, a1.1), (45, a1.2)]) 45 = a1.2 from rfl]
      refine rr_iconst 2 rfl dX6_passDay_49 ?_
      refine rr_icmp_ne dX6_passDay_50 (fun c2 => ?_) (fun c2 => ?_)
      · skip
        refine rr_aload_n 0 rfl rfl dX6_passDay_63 ?_
        refine rr_iload_n 2 rfl rfl dX6_passDay_64 ?_
        refine rr_callV (As := [.int (nI k1)]) (rest := []) (kc2 := 0) (ks2 := 0) dX6_passDay_65 okX6_isCut lX6_34 lo_43 sh_43 rfl rfl (Nat.le_of_ble_eq_true rfl) (Nat.le_of_ble_eq_true rfl) rfl (by omega) (by simp [jj_rk]) (by simp [jj_rk]) ?_
        refine sp_X6_isCut_t  ?_
        show jj_R _ _ kc ks (jj_S, 782, (jj_rs h [(43, (upd (h 43) (0) (((h 43) 0) + 1))), (44, a1.1), (45, a1.2)]), g) 68 [(0, .ref 43), (1, .int (nI n)), (2, .int (nI k1))] [.int (vX6_isCut_t (upd (h 43) (0) (((h 43) 0) + 1)) (nI k1))] Q
        refine rr_if_eq dX6_passDay_68 (fun c3 => ?_) (fun c3 => ?_)
        · skip
          refine rr_iinc 2 1 [(0, .ref 43), (1, .int (nI n)), (2, .int ((nI k1) + 1))] dX6_passDay_81 rfl rfl (by decide) rfl ?_
          refine rr_goto dX6_passDay_84 ?_
          try simp only [(nI_clamp (show k1 < 2 ^ 31 by omega))] at c1
          try simp only [(nI_clamp (show k1 < 2 ^ 31 by omega))] at c2
          try simp only [(nI_clamp (show k1 < 2 ^ 31 by omega))] at c3
          simpa only [nI_1, (nI_clamp (show k1 < 2 ^ 31 by omega)), if_neg c1, if_neg c2, if_pos c3] using ih1
        · skip
          refine rr_aload_n 0 rfl rfl dX6_passDay_71 ?_
          refine rr_getR dX6_passDay_72 fX6_9 lo_43 sh_43 rfl ?_
          refine rr_iload_n 2 rfl rfl dX6_passDay_75 ?_
          refine rr_aload_n 0 rfl rfl dX6_passDay_76 ?_
          refine rr_getI dX6_passDay_77 fX6_24 lo_43 sh_43 rfl ?_
          rw [show (jj_rs h [(43, (upd (h 43) (0) (((h 43) 0) + 1))), (44, a1.1), (45, a1.2)]) 43 = (upd (h 43) (0) (((h 43) 0) + 1)) from rfl]
          refine rr_iastore dX6_passDay_80 lo_44 sh_44 (by first | assumption | exact vp_in_nI (by omega) (by decide) | decide | omega | exact jj_inL rfl) ?_
          rw [jj_rs_set (B := h) (L := [(43, (upd (h 43) (0) (((h 43) 0) + 1))), (44, a1.1), (45, a1.2)]) (L2 := [(43, (upd (h 43) (0) (((h 43) 0) + 1))), (44, (upd a1.1 (((nI k1) : Int32).toNatClampNeg) ((upd (h 43) (0) (((h 43) 0) + 1)) 0))), (45, a1.2)]) (r := a1.1) rfl rfl]
          refine rr_iinc 2 1 [(0, .ref 43), (1, .int (nI n)), (2, .int ((nI k1) + 1))] dX6_passDay_81 rfl rfl (by decide) rfl ?_
          refine rr_goto dX6_passDay_84 ?_
          try simp only [(nI_clamp (show k1 < 2 ^ 31 by omega))] at c1
          try simp only [(nI_clamp (show k1 < 2 ^ 31 by omega))] at c2
          try simp only [(nI_clamp (show k1 < 2 ^ 31 by omega))] at c3
          simpa only [nI_1, (nI_clamp (show k1 < 2 ^ 31 by omega)), if_neg c1, if_neg c2, if_neg c3] using ih1
      · skip
        refine rr_aload_n 0 rfl rfl dX6_passDay_53 ?_
        refine rr_getR dX6_passDay_54 fX6_9 lo_43 sh_43 rfl ?_
        refine rr_iload_n 2 rfl rfl dX6_passDay_57 ?_
        refine rr_dup2 rfl rfl dX6_passDay_58 ?_
        refine rr_iaload dX6_passDay_59 lo_44 sh_44 (by first | assumption | exact vp_in_nI (by omega) (by decide) | decide | omega | exact jj_inL rfl) ?_
        rw [show (jj_rs h [(43, (upd (h 43) (0) (((h 43) 0) + 1))), (44, a1.1), (45, a1.2)]) 44 = a1.1 from rfl]
        refine rr_iconst 1 rfl dX6_passDay_60 ?_
        refine rr_iadd dX6_passDay_61 ?_
        refine rr_iastore dX6_passDay_62 lo_44 sh_44 (by first | assumption | exact vp_in_nI (by omega) (by decide) | decide | omega | exact jj_inL rfl) ?_
        rw [jj_rs_set (B := h) (L := [(43, (upd (h 43) (0) (((h 43) 0) + 1))), (44, a1.1), (45, a1.2)]) (L2 := [(43, (upd (h 43) (0) (((h 43) 0) + 1))), (44, (upd a1.1 (((nI k1) : Int32).toNatClampNeg) ((a1.1 ((nI k1) : Int32).toNatClampNeg) + 1))), (45, a1.2)]) (r := a1.1) rfl rfl]
        refine rr_aload_n 0 rfl rfl dX6_passDay_63 ?_
        refine rr_iload_n 2 rfl rfl dX6_passDay_64 ?_
        refine rr_callV (As := [.int (nI k1)]) (rest := []) (kc2 := 0) (ks2 := 0) dX6_passDay_65 okX6_isCut lX6_34 lo_43 sh_43 rfl rfl (Nat.le_of_ble_eq_true rfl) (Nat.le_of_ble_eq_true rfl) rfl (by omega) (by simp [jj_rk]) (by simp [jj_rk]) ?_
        refine sp_X6_isCut_t  ?_
        show jj_R _ _ kc ks (jj_S, 782, (jj_rs h [(43, (upd (h 43) (0) (((h 43) 0) + 1))), (44, (upd a1.1 (((nI k1) : Int32).toNatClampNeg) ((a1.1 ((nI k1) : Int32).toNatClampNeg) + 1))), (45, a1.2)]), g) 68 [(0, .ref 43), (1, .int (nI n)), (2, .int (nI k1))] [.int (vX6_isCut_t (upd (h 43) (0) (((h 43) 0) + 1)) (nI k1))] Q
        refine rr_if_eq dX6_passDay_68 (fun c4 => ?_) (fun c4 => ?_)
        · skip
          refine rr_iinc 2 1 [(0, .ref 43), (1, .int (nI n)), (2, .int ((nI k1) + 1))] dX6_passDay_81 rfl rfl (by decide) rfl ?_
          refine rr_goto dX6_passDay_84 ?_
          try simp only [(nI_clamp (show k1 < 2 ^ 31 by omega))] at c1
          try simp only [(nI_clamp (show k1 < 2 ^ 31 by omega))] at c2
          try simp only [(nI_clamp (show k1 < 2 ^ 31 by omega))] at c4
          simpa only [nI_1, (nI_clamp (show k1 < 2 ^ 31 by omega)), if_neg c1, if_pos c2, if_pos c4] using ih1
        · skip
          refine rr_aload_n 0 rfl rfl dX6_passDay_71 ?_
          refine rr_getR dX6_passDay_72 fX6_9 lo_43 sh_43 rfl ?_
          refine rr_iload_n 2 rfl rfl dX6_passDay_75 ?_
          refine rr_aload_n 0 rfl rfl dX6_passDay_76 ?_
          refine rr_getI dX6_passDay_77 fX6_24 lo_43 sh_43 rfl ?_
          rw [show (jj_rs h [(43, (upd (h 43) (0) (((h 43) 0) + 1))), (44, (upd a1.1 (((nI k1) : Int32).toNatClampNeg) ((a1.1 ((nI k1) : Int32).toNatClampNeg) + 1))), (45, a1.2)]) 43 = (upd (h 43) (0) (((h 43) 0) + 1)) from rfl]
          refine rr_iastore dX6_passDay_80 lo_44 sh_44 (by first | assumption | exact vp_in_nI (by omega) (by decide) | decide | omega | exact jj_inL rfl) ?_
          rw [jj_rs_set (B := h) (L := [(43, (upd (h 43) (0) (((h 43) 0) + 1))), (44, (upd a1.1 (((nI k1) : Int32).toNatClampNeg) ((a1.1 ((nI k1) : Int32).toNatClampNeg) + 1))), (45, a1.2)]) (L2 := [(43, (upd (h 43) (0) (((h 43) 0) + 1))), (44, (upd (upd a1.1 (((nI k1) : Int32).toNatClampNeg) ((a1.1 ((nI k1) : Int32).toNatClampNeg) + 1)) (((nI k1) : Int32).toNatClampNeg) ((upd (h 43) (0) (((h 43) 0) + 1)) 0))), (45, a1.2)]) (r := (upd a1.1 (((nI k1) : Int32).toNatClampNeg) ((a1.1 ((nI k1) : Int32).toNatClampNeg) + 1))) rfl rfl]
          refine rr_iinc 2 1 [(0, .ref 43), (1, .int (nI n)), (2, .int ((nI k1) + 1))] dX6_passDay_81 rfl rfl (by decide) rfl ?_
          refine rr_goto dX6_passDay_84 ?_
          try simp only [(nI_clamp (show k1 < 2 ^ 31 by omega))] at c1
          try simp only [(nI_clamp (show k1 < 2 ^ 31 by omega))] at c2
          try simp only [(nI_clamp (show k1 < 2 ^ 31 by omega))] at c4
          simpa only [nI_1, (nI_clamp (show k1 < 2 ^ 31 by omega)), if_neg c1, if_pos c2, if_neg c4] using ih1
    · skip
      refine rr_aload_n 0 rfl rfl dX6_passDay_33 ?_
      refine rr_getR dX6_passDay_34 fX6_15 lo_43 sh_43 rfl ?_
      refine rr_iload_n 2 rfl rfl dX6_passDay_37 ?_
      refine rr_iconst 0 rfl dX6_passDay_38 ?_
      refine rr_iastore dX6_passDay_39 lo_45 sh_45 (by first | assumption | exact vp_in_nI (by omega) (by decide) | decide | omega | exact jj_inL rfl) ?_
      rw [jj_rs_set (B := h) (L := [(43, (upd (h 43) (0) (((h 43) 0) + 1))), (44, a1.1), (45, a1.2)]) (L2 := [(43, (upd (h 43) (0) (((h 43) 0) + 1))), (44, a1.1), (45, (upd a1.2 (((nI k1) : Int32).toNatClampNeg) 0))]) (r := a1.2) rfl rfl]
      refine rr_goto dX6_passDay_40 ?_
      refine rr_aload_n 0 rfl rfl dX6_passDay_63 ?_
      refine rr_iload_n 2 rfl rfl dX6_passDay_64 ?_
      refine rr_callV (As := [.int (nI k1)]) (rest := []) (kc2 := 0) (ks2 := 0) dX6_passDay_65 okX6_isCut lX6_34 lo_43 sh_43 rfl rfl (Nat.le_of_ble_eq_true rfl) (Nat.le_of_ble_eq_true rfl) rfl (by omega) (by simp [jj_rk]) (by simp [jj_rk]) ?_
      refine sp_X6_isCut_t  ?_
      show jj_R _ _ kc ks (jj_S, 782, (jj_rs h [(43, (upd (h 43) (0) (((h 43) 0) + 1))), (44, a1.1), (45, (upd a1.2 (((nI k1) : Int32).toNatClampNeg) 0))]), g) 68 [(0, .ref 43), (1, .int (nI n)), (2, .int (nI k1))] [.int (vX6_isCut_t (upd (h 43) (0) (((h 43) 0) + 1)) (nI k1))] Q
      refine rr_if_eq dX6_passDay_68 (fun c5 => ?_) (fun c5 => ?_)
      · skip
        refine rr_iinc 2 1 [(0, .ref 43), (1, .int (nI n)), (2, .int ((nI k1) + 1))] dX6_passDay_81 rfl rfl (by decide) rfl ?_
        refine rr_goto dX6_passDay_84 ?_
        try simp only [(nI_clamp (show k1 < 2 ^ 31 by omega))] at c1
        try simp only [(nI_clamp (show k1 < 2 ^ 31 by omega))] at c5
        simpa only [nI_1, (nI_clamp (show k1 < 2 ^ 31 by omega)), if_pos c1, if_pos c5] using ih1
      · skip
        refine rr_aload_n 0 rfl rfl dX6_passDay_71 ?_
        refine rr_getR dX6_passDay_72 fX6_9 lo_43 sh_43 rfl ?_
        refine rr_iload_n 2 rfl rfl dX6_passDay_75 ?_
        refine rr_aload_n 0 rfl rfl dX6_passDay_76 ?_
        refine rr_getI dX6_passDay_77 fX6_24 lo_43 sh_43 rfl ?_
        rw [show (jj_rs h [(43, (upd (h 43) (0) (((h 43) 0) + 1))), (44, a1.1), (45, (upd a1.2 (((nI k1) : Int32).toNatClampNeg) 0))]) 43 = (upd (h 43) (0) (((h 43) 0) + 1)) from rfl]
        refine rr_iastore dX6_passDay_80 lo_44 sh_44 (by first | assumption | exact vp_in_nI (by omega) (by decide) | decide | omega | exact jj_inL rfl) ?_
        rw [jj_rs_set (B := h) (L := [(43, (upd (h 43) (0) (((h 43) 0) + 1))), (44, a1.1), (45, (upd a1.2 (((nI k1) : Int32).toNatClampNeg) 0))]) (L2 := [(43, (upd (h 43) (0) (((h 43) 0) + 1))), (44, (upd a1.1 (((nI k1) : Int32).toNatClampNeg) ((upd (h 43) (0) (((h 43) 0) + 1)) 0))), (45, (upd a1.2 (((nI k1) : Int32).toNatClampNeg) 0))]) (r := a1.1) rfl rfl]
        refine rr_iinc 2 1 [(0, .ref 43), (1, .int (nI n)), (2, .int ((nI k1) + 1))] dX6_passDay_81 rfl rfl (by decide) rfl ?_
        refine rr_goto dX6_passDay_84 ?_
        try simp only [(nI_clamp (show k1 < 2 ^ 31 by omega))] at c1
        try simp only [(nI_clamp (show k1 < 2 ^ 31 by omega))] at c5
        simpa only [nI_1, (nI_clamp (show k1 < 2 ^ 31 by omega)), if_pos c1, if_neg c5] using ih1
  · try dsimp only
    refine rr_iload_n 2 rfl rfl dX6_passDay_12 ?_
    refine rr_iload_n 1 rfl rfl dX6_passDay_13 ?_
    refine rr_icmp_ge dX6_passDay_14 (fun _ => ?_) (fun c => absurd (jj_le_rf _) c)
    refine rr_return dX6_passDay_87 rfl ?_
    simpa only [rX6_passDay_t_43, rX6_passDay_t_44, rX6_passDay_t_45] using kq
def rX6_copyFrom_43 (r38 : Nat → Int32) (r39 : Nat → Int32) (r40 : Nat → Int32) (r41 : Nat → Int32) (r42 : Nat → Int32) (r43 : Nat → Int32) (r44 : Nat → Int32) (r45 : Nat → Int32) (r46 : Nat → Int32) (r47 : Nat → Int32) : Nat → Int32 := (upd (upd (upd r43 (0) (r38 0)) (1) (r38 1)) (2) (r38 2))
def rX6_copyFrom_44 (r38 : Nat → Int32) (r39 : Nat → Int32) (r40 : Nat → Int32) (r41 : Nat → Int32) (r42 : Nat → Int32) (r43 : Nat → Int32) (r44 : Nat → Int32) (r45 : Nat → Int32) (r46 : Nat → Int32) (r47 : Nat → Int32) : Nat → Int32 := (jj_fo (fun k1 a1 => ((upd a1.1 (k1) (r39 k1)), (upd a1.2.1 (k1) (r40 k1)), (upd a1.2.2.1 (k1) (r41 k1)), (upd a1.2.2.2 (k1) (r42 k1)))) 8 (r44, r45, r46, r47)).1
def rX6_copyFrom_45 (r38 : Nat → Int32) (r39 : Nat → Int32) (r40 : Nat → Int32) (r41 : Nat → Int32) (r42 : Nat → Int32) (r43 : Nat → Int32) (r44 : Nat → Int32) (r45 : Nat → Int32) (r46 : Nat → Int32) (r47 : Nat → Int32) : Nat → Int32 := (jj_fo (fun k1 a1 => ((upd a1.1 (k1) (r39 k1)), (upd a1.2.1 (k1) (r40 k1)), (upd a1.2.2.1 (k1) (r41 k1)), (upd a1.2.2.2 (k1) (r42 k1)))) 8 (r44, r45, r46, r47)).2.1
def rX6_copyFrom_46 (r38 : Nat → Int32) (r39 : Nat → Int32) (r40 : Nat → Int32) (r41 : Nat → Int32) (r42 : Nat → Int32) (r43 : Nat → Int32) (r44 : Nat → Int32) (r45 : Nat → Int32) (r46 : Nat → Int32) (r47 : Nat → Int32) : Nat → Int32 := (jj_fo (fun k1 a1 => ((upd a1.1 (k1) (r39 k1)), (upd a1.2.1 (k1) (r40 k1)), (upd a1.2.2.1 (k1) (r41 k1)), (upd a1.2.2.2 (k1) (r42 k1)))) 8 (r44, r45, r46, r47)).2.2.1
def rX6_copyFrom_47 (r38 : Nat → Int32) (r39 : Nat → Int32) (r40 : Nat → Int32) (r41 : Nat → Int32) (r42 : Nat → Int32) (r43 : Nat → Int32) (r44 : Nat → Int32) (r45 : Nat → Int32) (r46 : Nat → Int32) (r47 : Nat → Int32) : Nat → Int32 := (jj_fo (fun k1 a1 => ((upd a1.1 (k1) (r39 k1)), (upd a1.2.1 (k1) (r40 k1)), (upd a1.2.2.1 (k1) (r41 k1)), (upd a1.2.2.2 (k1) (r42 k1)))) 8 (r44, r45, r46, r47)).2.2.2
set_option maxHeartbeats 1000000 in
theorem sp_X6_copyFrom {d kc ks : Nat} {h : Nat → Nat → Int32} {g : Nat → Nat → Int64} {Q : jj_Rs → jj_St → Prop}  (kq : Q (.inl none) (jj_S, 782, (jj_rs h [(43, (rX6_copyFrom_43 (h 38) (h 39) (h 40) (h 41) (h 42) (h 43) (h 44) (h 45) (h 46) (h 47))), (44, (rX6_copyFrom_44 (h 38) (h 39) (h 40) (h 41) (h 42) (h 43) (h 44) (h 45) (h 46) (h 47))), (45, (rX6_copyFrom_45 (h 38) (h 39) (h 40) (h 41) (h 42) (h 43) (h 44) (h 45) (h 46) (h 47))), (46, (rX6_copyFrom_46 (h 38) (h 39) (h 40) (h 41) (h 42) (h 43) (h 44) (h 45) (h 46) (h 47))), (47, (rX6_copyFrom_47 (h 38) (h 39) (h 40) (h 41) (h 42) (h 43) (h 44) (h 45) (h 46) (h 47)))]), g)) : jj_R mX6_copyFrom (d + 0) kc ks (jj_S, 782, h, g) 0 [(0, .ref 43), (1, .ref 38)] [] Q := by
  refine rr_aload_n 0 rfl rfl dX6_copyFrom_0 ?_
  refine rr_aload_n 1 rfl rfl dX6_copyFrom_1 ?_
  refine rr_getI dX6_copyFrom_2 fX6_24 lo_38 sh_38 rfl ?_
  refine rr_putI dX6_copyFrom_5 fX6_24 ni6_0 lo_43 sh_43 rfl ?_
  rw [jj_rs_set0 (B := h) (o := 43) (r := (h 43)) rfl]
  refine rr_aload_n 0 rfl rfl dX6_copyFrom_8 ?_
  refine rr_aload_n 1 rfl rfl dX6_copyFrom_9 ?_
  refine rr_getI dX6_copyFrom_10 fX6_28 lo_38 sh_38 rfl ?_
  rw [show (jj_rs h [(43, (upd (h 43) (0) ((h 38) 0)))]) 38 = h 38 from rfl]
  refine rr_putI dX6_copyFrom_13 fX6_28 ni6_1 lo_43 sh_43 rfl ?_
  rw [jj_rs_set (B := h) (L := [(43, (upd (h 43) (0) ((h 38) 0)))]) (L2 := [(43, (upd (upd (h 43) (0) ((h 38) 0)) (1) ((h 38) 1)))]) (r := (upd (h 43) (0) ((h 38) 0))) rfl rfl]
  refine rr_aload_n 0 rfl rfl dX6_copyFrom_16 ?_
  refine rr_aload_n 1 rfl rfl dX6_copyFrom_17 ?_
  refine rr_getI dX6_copyFrom_18 fX6_31 lo_38 sh_38 rfl ?_
  rw [show (jj_rs h [(43, (upd (upd (h 43) (0) ((h 38) 0)) (1) ((h 38) 1)))]) 38 = h 38 from rfl]
  refine rr_putI dX6_copyFrom_21 fX6_31 ni6_2 lo_43 sh_43 rfl ?_
  rw [jj_rs_set (B := h) (L := [(43, (upd (upd (h 43) (0) ((h 38) 0)) (1) ((h 38) 1)))]) (L2 := [(43, (upd (upd (upd (h 43) (0) ((h 38) 0)) (1) ((h 38) 1)) (2) ((h 38) 2)))]) (r := (upd (upd (h 43) (0) ((h 38) 0)) (1) ((h 38) 1))) rfl rfl]
  refine rr_iconst 0 rfl dX6_copyFrom_24 ?_
  refine rr_istore_n [(0, .ref 43), (1, .ref 38), (2, .int 0)] dX6_copyFrom_25 rfl (by decide) rfl ?_
  rw [jj_rs_add (B := h) (L := [(43, (upd (upd (upd (h 43) (0) ((h 38) 0)) (1) ((h 38) 1)) (2) ((h 38) 2)))]) (L2 := [(43, (upd (upd (upd (h 43) (0) ((h 38) 0)) (1) ((h 38) 1)) (2) ((h 38) 2))), (44, (h 44))]) (o := 44) (r := (h 44)) rfl rfl]
  rw [jj_rs_add (B := h) (L := [(43, (upd (upd (upd (h 43) (0) ((h 38) 0)) (1) ((h 38) 1)) (2) ((h 38) 2))), (44, (h 44))]) (L2 := [(43, (upd (upd (upd (h 43) (0) ((h 38) 0)) (1) ((h 38) 1)) (2) ((h 38) 2))), (44, (h 44)), (45, (h 45))]) (o := 45) (r := (h 45)) rfl rfl]
  rw [jj_rs_add (B := h) (L := [(43, (upd (upd (upd (h 43) (0) ((h 38) 0)) (1) ((h 38) 1)) (2) ((h 38) 2))), (44, (h 44)), (45, (h 45))]) (L2 := [(43, (upd (upd (upd (h 43) (0) ((h 38) 0)) (1) ((h 38) 1)) (2) ((h 38) 2))), (44, (h 44)), (45, (h 45)), (46, (h 46))]) (o := 46) (r := (h 46)) rfl rfl]
  rw [jj_rs_add (B := h) (L := [(43, (upd (upd (upd (h 43) (0) ((h 38) 0)) (1) ((h 38) 1)) (2) ((h 38) 2))), (44, (h 44)), (45, (h 45)), (46, (h 46))]) (L2 := [(43, (upd (upd (upd (h 43) (0) ((h 38) 0)) (1) ((h 38) 1)) (2) ((h 38) 2))), (44, (h 44)), (45, (h 45)), (46, (h 46)), (47, (h 47))]) (o := 47) (r := (h 47)) rfl rfl]
  refine jj_for (fun k1 (a1 : (Nat → Int32) × (Nat → Int32) × (Nat → Int32) × (Nat → Int32)) => jj_R _ _ kc ks (jj_S, 782, (jj_rs h [(43, (upd (upd (upd (h 43) (0) ((h 38) 0)) (1) ((h 38) 1)) (2) ((h 38) 2))), (44, a1.1), (45, a1.2.1), (46, a1.2.2.1), (47, a1.2.2.2)]), g) 26 [(0, .ref 43), (1, .ref 38), (2, .int (nI k1))] [] Q) (fun k1 a1 => ((upd a1.1 (k1) ((h 39) k1)), (upd a1.2.1 (k1) ((h 40) k1)), (upd a1.2.2.1 (k1) ((h 41) k1)), (upd a1.2.2.2 (k1) ((h 42) k1)))) 8 ((h 44), (h 45), (h 46), (h 47)) ?_ ?_
  · intro k1 hk1 ih1
    generalize jj_fo _ k1 _ = a1 at ih1 ⊢
    try dsimp only at ih1 ⊢
    refine rr_iload_n 2 rfl rfl dX6_copyFrom_26 ?_
    refine rr_bipush 8 rfl dX6_copyFrom_27 ?_
    refine rr_icmp_ge dX6_copyFrom_29 (fun c => absurd c (nI_ge (a := k1) (b := 8) (by omega) (by omega))) (fun _ => ?_)
    refine rr_aload_n 0 rfl rfl dX6_copyFrom_32 ?_
    refine rr_getR dX6_copyFrom_33 fX6_9 lo_43 sh_43 rfl ?_
    refine rr_iload_n 2 rfl rfl dX6_copyFrom_36 ?_
    refine rr_aload_n 1 rfl rfl dX6_copyFrom_37 ?_
    refine rr_getR dX6_copyFrom_38 fX6_9 lo_38 sh_38 rfl ?_
    refine rr_iload_n 2 rfl rfl dX6_copyFrom_41 ?_
    refine rr_iaload dX6_copyFrom_42 lo_39 sh_39 (by first | assumption | exact vp_in_nI (by omega) (by decide) | decide | omega | exact jj_inL rfl) ?_
    rw [show (jj_rs h [(43, (upd (upd (upd (h 43) (0) ((h 38) 0)) (1) ((h 38) 1)) (2) ((h 38) 2))), (44, a1.1), (45, a1.2.1), (46, a1.2.2.1), (47, a1.2.2.2)]) 39 = h 39 from rfl]
    refine rr_iastore dX6_copyFrom_43 lo_44 sh_44 (by first | assumption | exact vp_in_nI (by omega) (by decide) | decide | omega | exact jj_inL rfl) ?_
    rw [jj_rs_set (B := h) (L := [(43, (upd (upd (upd (h 43) (0) ((h 38) 0)) (1) ((h 38) 1)) (2) ((h 38) 2))), (44, a1.1), (45, a1.2.1), (46, a1.2.2.1), (47, a1.2.2.2)]) (L2 := [(43, (upd (upd (upd (h 43) (0) ((h 38) 0)) (1) ((h 38) 1)) (2) ((h 38) 2))), (44, (upd a1.1 (((nI k1) : Int32).toNatClampNeg) ((h 39) ((nI k1) : Int32).toNatClampNeg))), (45, a1.2.1), (46, a1.2.2.1), (47, a1.2.2.2)]) (r := a1.1) rfl rfl]
    refine rr_aload_n 0 rfl rfl dX6_copyFrom_44 ?_
    refine rr_getR dX6_copyFrom_45 fX6_15 lo_43 sh_43 rfl ?_
    refine rr_iload_n 2 rfl rfl dX6_copyFrom_48 ?_
    refine rr_aload_n 1 rfl rfl dX6_copyFrom_49 ?_
    refine rr_getR dX6_copyFrom_50 fX6_15 lo_38 sh_38 rfl ?_
    refine rr_iload_n 2 rfl rfl dX6_copyFrom_53 ?_
    refine rr_iaload dX6_copyFrom_54 lo_40 sh_40 (by first | assumption | exact vp_in_nI (by omega) (by decide) | decide | omega | exact jj_inL rfl) ?_
    rw [show (jj_rs h [(43, (upd (upd (upd (h 43) (0) ((h 38) 0)) (1) ((h 38) 1)) (2) ((h 38) 2))), (44, (upd a1.1 (((nI k1) : Int32).toNatClampNeg) ((h 39) ((nI k1) : Int32).toNatClampNeg))), (45, a1.2.1), (46, a1.2.2.1), (47, a1.2.2.2)]) 40 = h 40 from rfl]
    refine rr_iastore dX6_copyFrom_55 lo_45 sh_45 (by first | assumption | exact vp_in_nI (by omega) (by decide) | decide | omega | exact jj_inL rfl) ?_
    rw [jj_rs_set (B := h) (L := [(43, (upd (upd (upd (h 43) (0) ((h 38) 0)) (1) ((h 38) 1)) (2) ((h 38) 2))), (44, (upd a1.1 (((nI k1) : Int32).toNatClampNeg) ((h 39) ((nI k1) : Int32).toNatClampNeg))), (45, a1.2.1), (46, a1.2.2.1), (47, a1.2.2.2)]) (L2 := [(43, (upd (upd (upd (h 43) (0) ((h 38) 0)) (1) ((h 38) 1)) (2) ((h 38) 2))), (44, (upd a1.1 (((nI k1) : Int32).toNatClampNeg) ((h 39) ((nI k1) : Int32).toNatClampNeg))), (45, (upd a1.2.1 (((nI k1) : Int32).toNatClampNeg) ((h 40) ((nI k1) : Int32).toNatClampNeg))), (46, a1.2.2.1), (47, a1.2.2.2)]) (r := a1.2.1) rfl rfl]
    refine rr_aload_n 0 rfl rfl dX6_copyFrom_56 ?_
    refine rr_getR dX6_copyFrom_57 fX6_18 lo_43 sh_43 rfl ?_
    refine rr_iload_n 2 rfl rfl dX6_copyFrom_60 ?_
    refine rr_aload_n 1 rfl rfl dX6_copyFrom_61 ?_
    refine rr_getR dX6_copyFrom_62 fX6_18 lo_38 sh_38 rfl ?_
    refine rr_iload_n 2 rfl rfl dX6_copyFrom_65 ?_
    refine rr_iaload dX6_copyFrom_66 lo_41 sh_41 (by first | assumption | exact vp_in_nI (by omega) (by decide) | decide | omega | exact jj_inL rfl) ?_
    rw [show (jj_rs h [(43, (upd (upd (upd (h 43) (0) ((h 38) 0)) (1) ((h 38) 1)) (2) ((h 38) 2))), (44, (upd a1.1 (((nI k1) : Int32).toNatClampNeg) ((h 39) ((nI k1) : Int32).toNatClampNeg))), (45, (upd a1.2.1 (((nI k1) : Int32).toNatClampNeg) ((h 40) ((nI k1) : Int32).toNatClampNeg))), (46, a1.2.2.1), (47, a1.2.2.2)]) 41 = h 41 from rfl]
    refine rr_iastore dX6_copyFrom_67 lo_46 sh_46 (by first | assumption | exact vp_in_nI (by omega) (by decide) | decide | omega | exact jj_inL rfl) ?_
    rw [jj_rs_set (B := h) (L := [(43, (upd (upd (upd (h 43) (0) ((h 38) 0)) (1) ((h 38) 1)) (2) ((h 38) 2))), (44, (upd a1.1 (((nI k1) : Int32).toNatClampNeg) ((h 39) ((nI k1) : Int32).toNatClampNeg))), (45, (upd a1.2.1 (((nI k1) : Int32).toNatClampNeg) ((h 40) ((nI k1) : Int32).toNatClampNeg))), (46, a1.2.2.1), (47, a1.2.2.2)]) (L2 := [(43, (upd (upd (upd (h 43) (0) ((h 38) 0)) (1) ((h 38) 1)) (2) ((h 38) 2))), (44, (upd a1.1 (((nI k1) : Int32).toNatClampNeg) ((h 39) ((nI k1) : Int32).toNatClampNeg))), (45, (upd a1.2.1 (((nI k1) : Int32).toNatClampNeg) ((h 40) ((nI k1) : Int32).toNatClampNeg))), (46, (upd a1.2.2.1 (((nI k1) : Int32).toNatClampNeg) ((h 41) ((nI k1) : Int32).toNatClampNeg))), (47, a1.2.2.2)]) (r := a1.2.2.1) rfl rfl]
    refine rr_aload_n 0 rfl rfl dX6_copyFrom_68 ?_
    refine rr_getR dX6_copyFrom_69 fX6_21 lo_43 sh_43 rfl ?_
    refine rr_iload_n 2 rfl rfl dX6_copyFrom_72 ?_
    refine rr_aload_n 1 rfl rfl dX6_copyFrom_73 ?_
    refine rr_getR dX6_copyFrom_74 fX6_21 lo_38 sh_38 rfl ?_
    refine rr_iload_n 2 rfl rfl dX6_copyFrom_77 ?_
    refine rr_iaload dX6_copyFrom_78 lo_42 sh_42 (by first | assumption | exact vp_in_nI (by omega) (by decide) | decide | omega | exact jj_inL rfl) ?_
    rw [show (jj_rs h [(43, (upd (upd (upd (h 43) (0) ((h 38) 0)) (1) ((h 38) 1)) (2) ((h 38) 2))), (44, (upd a1.1 (((nI k1) : Int32).toNatClampNeg) ((h 39) ((nI k1) : Int32).toNatClampNeg))), (45, (upd a1.2.1 (((nI k1) : Int32).toNatClampNeg) ((h 40) ((nI k1) : Int32).toNatClampNeg))), (46, (upd a1.2.2.1 (((nI k1) : Int32).toNatClampNeg) ((h 41) ((nI k1) : Int32).toNatClampNeg))), (47, a1.2.2.2)]) 42 = h 42 from rfl]
    refine rr_iastore dX6_copyFrom_79 lo_47 sh_47 (by first | assumption | exact vp_in_nI (by omega) (by decide) | decide | omega | exact jj_inL rfl) ?_
    rw [jj_rs_set (B := h) (L := [(43, (upd (upd (upd (h 43) (0) ((h 38) 0)) (1) ((h 38) 1)) (2) ((h 38) 2))), (44, (upd a1.1 (((nI k1) : Int32).toNatClampNeg) ((h 39) ((nI k1) : Int32).toNatClampNeg))), (45, (upd a1.2.1 (((nI k1) : Int32).toNatClampNeg) ((h 40) ((nI k1) : Int32).toNatClampNeg))), (46, (upd a1.2.2.1 (((nI k1) : Int32).toNatClampNeg) ((h 41) ((nI k1) : Int32).toNatClampNeg))), (47, a1.2.2.2)]) (L2 := [(43, (upd (upd (upd (h 43) (0) ((h 38) 0)) (1) ((h 38) 1)) (2) ((h 38) 2))), (44, (upd a1.1 (((nI k1) : Int32).toNatClampNeg) ((h 39) ((nI k1) : Int32).toNatClampNeg))), (45, (upd a1.2.1 (((nI k1) : Int32).toNatClampNeg) ((h 40) ((nI k1) : Int32).toNatClampNeg))), (46, (upd a1.2.2.1 (((nI k1) : Int32).toNatClampNeg) ((h 41) ((nI k1) : Int32).toNatClampNeg))), (47, (upd a1.2.2.2 (((nI k1) : Int32).toNatClampNeg) ((h 42) ((nI k1) : Int32).toNatClampNeg)))]) (r := a1.2.2.2) rfl rfl]
    refine rr_iinc 2 1 [(0, .ref 43), (1, .ref 38), (2, .int ((nI k1) + 1))] dX6_copyFrom_80 rfl rfl (by decide) rfl ?_
    refine rr_goto dX6_copyFrom_83 ?_
    simpa only [nI_1, (nI_clamp (show k1 < 2 ^ 31 by omega))] using ih1
  · try dsimp only
    refine rr_iload_n 2 rfl rfl dX6_copyFrom_26 ?_
    refine rr_bipush 8 rfl dX6_copyFrom_27 ?_
    refine rr_icmp_ge dX6_copyFrom_29 (fun _ => ?_) (fun c => absurd (jj_le_rf _) c)
    refine rr_return dX6_copyFrom_86 rfl ?_
    simpa only [rX6_copyFrom_43, rX6_copyFrom_44, rX6_copyFrom_45, rX6_copyFrom_46, rX6_copyFrom_47] using kq
def rX6_begin_38 (r38 : Nat → Int32) (r39 : Nat → Int32) (r40 : Nat → Int32) (r41 : Nat → Int32) (r42 : Nat → Int32) : Nat → Int32 := (upd (upd (upd r38 (0) 0) (1) 0) (2) 0)
def rX6_begin_39 (r38 : Nat → Int32) (r39 : Nat → Int32) (r40 : Nat → Int32) (r41 : Nat → Int32) (r42 : Nat → Int32) : Nat → Int32 := (jj_fo (fun k1 a1 => ((upd a1.1 (k1) 0), (upd a1.2.1 (k1) 0), (upd a1.2.2.1 (k1) 0), (upd a1.2.2.2 (k1) (-1)))) 8 (r39, r40, r41, r42)).1
def rX6_begin_40 (r38 : Nat → Int32) (r39 : Nat → Int32) (r40 : Nat → Int32) (r41 : Nat → Int32) (r42 : Nat → Int32) : Nat → Int32 := (jj_fo (fun k1 a1 => ((upd a1.1 (k1) 0), (upd a1.2.1 (k1) 0), (upd a1.2.2.1 (k1) 0), (upd a1.2.2.2 (k1) (-1)))) 8 (r39, r40, r41, r42)).2.1
def rX6_begin_41 (r38 : Nat → Int32) (r39 : Nat → Int32) (r40 : Nat → Int32) (r41 : Nat → Int32) (r42 : Nat → Int32) : Nat → Int32 := (jj_fo (fun k1 a1 => ((upd a1.1 (k1) 0), (upd a1.2.1 (k1) 0), (upd a1.2.2.1 (k1) 0), (upd a1.2.2.2 (k1) (-1)))) 8 (r39, r40, r41, r42)).2.2.1
def rX6_begin_42 (r38 : Nat → Int32) (r39 : Nat → Int32) (r40 : Nat → Int32) (r41 : Nat → Int32) (r42 : Nat → Int32) : Nat → Int32 := (jj_fo (fun k1 a1 => ((upd a1.1 (k1) 0), (upd a1.2.1 (k1) 0), (upd a1.2.2.1 (k1) 0), (upd a1.2.2.2 (k1) (-1)))) 8 (r39, r40, r41, r42)).2.2.2
set_option maxHeartbeats 1000000 in
theorem sp_X6_begin {d kc ks : Nat} {h : Nat → Nat → Int32} {g : Nat → Nat → Int64} {Q : jj_Rs → jj_St → Prop}  (kq : Q (.inl none) (jj_S, 782, (jj_rs h [(38, (rX6_begin_38 (h 38) (h 39) (h 40) (h 41) (h 42))), (39, (rX6_begin_39 (h 38) (h 39) (h 40) (h 41) (h 42))), (40, (rX6_begin_40 (h 38) (h 39) (h 40) (h 41) (h 42))), (41, (rX6_begin_41 (h 38) (h 39) (h 40) (h 41) (h 42))), (42, (rX6_begin_42 (h 38) (h 39) (h 40) (h 41) (h 42)))]), g)) : jj_R mX6_begin (d + 0) kc ks (jj_S, 782, h, g) 0 [(0, .ref 38)] [] Q := by
  refine rr_aload_n 0 rfl rfl dX6_begin_0 ?_
  refine rr_iconst 0 rfl dX6_begin_1 ?_
  refine rr_putI dX6_begin_2 fX6_24 ni6_0 lo_38 sh_38 rfl ?_
  rw [jj_rs_set0 (B := h) (o := 38) (r := (h 38)) rfl]
  refine rr_aload_n 0 rfl rfl dX6_begin_5 ?_
  refine rr_iconst 0 rfl dX6_begin_6 ?_
  refine rr_putI dX6_begin_7 fX6_28 ni6_1 lo_38 sh_38 rfl ?_
  rw [jj_rs_set (B := h) (L := [(38, (upd (h 38) (0) 0))]) (L2 := [(38, (upd (upd (h 38) (0) 0) (1) 0))]) (r := (upd (h 38) (0) 0)) rfl rfl]
  refine rr_aload_n 0 rfl rfl dX6_begin_10 ?_
  refine rr_iconst 0 rfl dX6_begin_11 ?_
  refine rr_putI dX6_begin_12 fX6_31 ni6_2 lo_38 sh_38 rfl ?_
  rw [jj_rs_set (B := h) (L := [(38, (upd (upd (h 38) (0) 0) (1) 0))]) (L2 := [(38, (upd (upd (upd (h 38) (0) 0) (1) 0) (2) 0))]) (r := (upd (upd (h 38) (0) 0) (1) 0)) rfl rfl]
  refine rr_iconst 0 rfl dX6_begin_15 ?_
  refine rr_istore_n [(0, .ref 38), (1, .int 0)] dX6_begin_16 rfl (by decide) rfl ?_
  rw [jj_rs_add (B := h) (L := [(38, (upd (upd (upd (h 38) (0) 0) (1) 0) (2) 0))]) (L2 := [(38, (upd (upd (upd (h 38) (0) 0) (1) 0) (2) 0)), (39, (h 39))]) (o := 39) (r := (h 39)) rfl rfl]
  rw [jj_rs_add (B := h) (L := [(38, (upd (upd (upd (h 38) (0) 0) (1) 0) (2) 0)), (39, (h 39))]) (L2 := [(38, (upd (upd (upd (h 38) (0) 0) (1) 0) (2) 0)), (39, (h 39)), (40, (h 40))]) (o := 40) (r := (h 40)) rfl rfl]
  rw [jj_rs_add (B := h) (L := [(38, (upd (upd (upd (h 38) (0) 0) (1) 0) (2) 0)), (39, (h 39)), (40, (h 40))]) (L2 := [(38, (upd (upd (upd (h 38) (0) 0) (1) 0) (2) 0)), (39, (h 39)), (40, (h 40)), (41, (h 41))]) (o := 41) (r := (h 41)) rfl rfl]
  rw [jj_rs_add (B := h) (L := [(38, (upd (upd (upd (h 38) (0) 0) (1) 0) (2) 0)), (39, (h 39)), (40, (h 40)), (41, (h 41))]) (L2 := [(38, (upd (upd (upd (h 38) (0) 0) (1) 0) (2) 0)), (39, (h 39)), (40, (h 40)), (41, (h 41)), (42, (h 42))]) (o := 42) (r := (h 42)) rfl rfl]
  refine jj_for (fun k1 (a1 : (Nat → Int32) × (Nat → Int32) × (Nat → Int32) × (Nat → Int32)) => jj_R _ _ kc ks (jj_S, 782, (jj_rs h [(38, (upd (upd (upd (h 38) (0) 0) (1) 0) (2) 0)), (39, a1.1), (40, a1.2.1), (41, a1.2.2.1), (42, a1.2.2.2)]), g) 17 [(0, .ref 38), (1, .int (nI k1))] [] Q) (fun k1 a1 => ((upd a1.1 (k1) 0), (upd a1.2.1 (k1) 0), (upd a1.2.2.1 (k1) 0), (upd a1.2.2.2 (k1) (-1)))) 8 ((h 39), (h 40), (h 41), (h 42)) ?_ ?_
  · intro k1 hk1 ih1
    generalize jj_fo _ k1 _ = a1 at ih1 ⊢
    try dsimp only at ih1 ⊢
    refine rr_iload_n 1 rfl rfl dX6_begin_17 ?_
    refine rr_bipush 8 rfl dX6_begin_18 ?_
    refine rr_icmp_ge dX6_begin_20 (fun c => absurd c (nI_ge (a := k1) (b := 8) (by omega) (by omega))) (fun _ => ?_)
    refine rr_aload_n 0 rfl rfl dX6_begin_23 ?_
    refine rr_getR dX6_begin_24 fX6_9 lo_38 sh_38 rfl ?_
    refine rr_iload_n 1 rfl rfl dX6_begin_27 ?_
    refine rr_iconst 0 rfl dX6_begin_28 ?_
    refine rr_iastore dX6_begin_29 lo_39 sh_39 (by first | assumption | exact vp_in_nI (by omega) (by decide) | decide | omega | exact jj_inL rfl) ?_
    rw [jj_rs_set (B := h) (L := [(38, (upd (upd (upd (h 38) (0) 0) (1) 0) (2) 0)), (39, a1.1), (40, a1.2.1), (41, a1.2.2.1), (42, a1.2.2.2)]) (L2 := [(38, (upd (upd (upd (h 38) (0) 0) (1) 0) (2) 0)), (39, (upd a1.1 (((nI k1) : Int32).toNatClampNeg) 0)), (40, a1.2.1), (41, a1.2.2.1), (42, a1.2.2.2)]) (r := a1.1) rfl rfl]
    refine rr_aload_n 0 rfl rfl dX6_begin_30 ?_
    refine rr_getR dX6_begin_31 fX6_15 lo_38 sh_38 rfl ?_
    refine rr_iload_n 1 rfl rfl dX6_begin_34 ?_
    refine rr_iconst 0 rfl dX6_begin_35 ?_
    refine rr_iastore dX6_begin_36 lo_40 sh_40 (by first | assumption | exact vp_in_nI (by omega) (by decide) | decide | omega | exact jj_inL rfl) ?_
    rw [jj_rs_set (B := h) (L := [(38, (upd (upd (upd (h 38) (0) 0) (1) 0) (2) 0)), (39, (upd a1.1 (((nI k1) : Int32).toNatClampNeg) 0)), (40, a1.2.1), (41, a1.2.2.1), (42, a1.2.2.2)]) (L2 := [(38, (upd (upd (upd (h 38) (0) 0) (1) 0) (2) 0)), (39, (upd a1.1 (((nI k1) : Int32).toNatClampNeg) 0)), (40, (upd a1.2.1 (((nI k1) : Int32).toNatClampNeg) 0)), (41, a1.2.2.1), (42, a1.2.2.2)]) (r := a1.2.1) rfl rfl]
    refine rr_aload_n 0 rfl rfl dX6_begin_37 ?_
    refine rr_getR dX6_begin_38 fX6_18 lo_38 sh_38 rfl ?_
    refine rr_iload_n 1 rfl rfl dX6_begin_41 ?_
    refine rr_iconst 0 rfl dX6_begin_42 ?_
    refine rr_iastore dX6_begin_43 lo_41 sh_41 (by first | assumption | exact vp_in_nI (by omega) (by decide) | decide | omega | exact jj_inL rfl) ?_
    rw [jj_rs_set (B := h) (L := [(38, (upd (upd (upd (h 38) (0) 0) (1) 0) (2) 0)), (39, (upd a1.1 (((nI k1) : Int32).toNatClampNeg) 0)), (40, (upd a1.2.1 (((nI k1) : Int32).toNatClampNeg) 0)), (41, a1.2.2.1), (42, a1.2.2.2)]) (L2 := [(38, (upd (upd (upd (h 38) (0) 0) (1) 0) (2) 0)), (39, (upd a1.1 (((nI k1) : Int32).toNatClampNeg) 0)), (40, (upd a1.2.1 (((nI k1) : Int32).toNatClampNeg) 0)), (41, (upd a1.2.2.1 (((nI k1) : Int32).toNatClampNeg) 0)), (42, a1.2.2.2)]) (r := a1.2.2.1) rfl rfl]
    refine rr_aload_n 0 rfl rfl dX6_begin_44 ?_
    refine rr_getR dX6_begin_45 fX6_21 lo_38 sh_38 rfl ?_
    refine rr_iload_n 1 rfl rfl dX6_begin_48 ?_
    refine rr_iconst (-1) rfl dX6_begin_49 ?_
    refine rr_iastore dX6_begin_50 lo_42 sh_42 (by first | assumption | exact vp_in_nI (by omega) (by decide) | decide | omega | exact jj_inL rfl) ?_
    rw [jj_rs_set (B := h) (L := [(38, (upd (upd (upd (h 38) (0) 0) (1) 0) (2) 0)), (39, (upd a1.1 (((nI k1) : Int32).toNatClampNeg) 0)), (40, (upd a1.2.1 (((nI k1) : Int32).toNatClampNeg) 0)), (41, (upd a1.2.2.1 (((nI k1) : Int32).toNatClampNeg) 0)), (42, a1.2.2.2)]) (L2 := [(38, (upd (upd (upd (h 38) (0) 0) (1) 0) (2) 0)), (39, (upd a1.1 (((nI k1) : Int32).toNatClampNeg) 0)), (40, (upd a1.2.1 (((nI k1) : Int32).toNatClampNeg) 0)), (41, (upd a1.2.2.1 (((nI k1) : Int32).toNatClampNeg) 0)), (42, (upd a1.2.2.2 (((nI k1) : Int32).toNatClampNeg) (-1)))]) (r := a1.2.2.2) rfl rfl]
    refine rr_iinc 1 1 [(0, .ref 38), (1, .int ((nI k1) + 1))] dX6_begin_51 rfl rfl (by decide) rfl ?_
    refine rr_goto dX6_begin_54 ?_
    simpa only [nI_1, (nI_clamp (show k1 < 2 ^ 31 by omega))] using ih1
  · try dsimp only
    refine rr_iload_n 1 rfl rfl dX6_begin_17 ?_
    refine rr_bipush 8 rfl dX6_begin_18 ?_
    refine rr_icmp_ge dX6_begin_20 (fun _ => ?_) (fun c => absurd (jj_le_rf _) c)
    refine rr_return dX6_begin_57 rfl ?_
    simpa only [rX6_begin_38, rX6_begin_39, rX6_begin_40, rX6_begin_41, rX6_begin_42] using kq
