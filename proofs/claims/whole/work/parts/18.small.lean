def vX7_wayBetween (r4 : Nat → Int32) (r5 : Nat → Int32) (a : Int32) (b : Int32) : Int32 := ((if 0 ≤ ((r4 (a : Int32).toNatClampNeg) - (r4 (b : Int32).toNatClampNeg)) then ((r4 (a : Int32).toNatClampNeg) - (r4 (b : Int32).toNatClampNeg)) else 0 - ((r4 (a : Int32).toNatClampNeg) - (r4 (b : Int32).toNatClampNeg))) + (if 0 ≤ ((r5 (a : Int32).toNatClampNeg) - (r5 (b : Int32).toNatClampNeg)) then ((r5 (a : Int32).toNatClampNeg) - (r5 (b : Int32).toNatClampNeg)) else 0 - ((r5 (a : Int32).toNatClampNeg) - (r5 (b : Int32).toNatClampNeg))))
set_option maxHeartbeats 1000000 in
theorem sp_X7_wayBetween {d kc ks : Nat} {h : Nat → Nat → Int32} {g : Nat → Nat → Int64} {Q : jj_Rs → jj_St → Prop} {a : Int32} {b : Int32} (ha : vp_in a 8) (hb : vp_in b 8) (kq : Q (.inl (some (.int (vX7_wayBetween (h 4) (h 5) a b)))) (jj_S, 782, h, g)) : jj_R mX7_wayBetween (d + 1) kc ks (jj_S, 782, h, g) 0 [(0, .ref 1), (1, .int a), (2, .int b)] [] Q := by
  refine rr_aload_n 0 rfl rfl dX7_wayBetween_0 ?_
  refine rr_getR dX7_wayBetween_1 fX7_22 lo_1 sh_1 rfl ?_
  refine rr_iload_n 1 rfl rfl dX7_wayBetween_4 ?_
  refine rr_iaload dX7_wayBetween_5 lo_4 sh_4 (by first | assumption | exact vp_in_nI (by omega) (by decide) | decide | omega | exact jj_inL rfl) ?_
  refine rr_aload_n 0 rfl rfl dX7_wayBetween_6 ?_
  refine rr_getR dX7_wayBetween_7 fX7_22 lo_1 sh_1 rfl ?_
  refine rr_iload_n 2 rfl rfl dX7_wayBetween_10 ?_
  refine rr_iaload dX7_wayBetween_11 lo_4 sh_4 (by first | assumption | exact vp_in_nI (by omega) (by decide) | decide | omega | exact jj_inL rfl) ?_
  refine rr_isub dX7_wayBetween_12 ?_
  refine rr_mabs (st := []) dX7_wayBetween_13 lX7_90 (Nat.le_of_ble_eq_true rfl) ?_
  refine rr_aload_n 0 rfl rfl dX7_wayBetween_16 ?_
  refine rr_getR dX7_wayBetween_17 fX7_25 lo_1 sh_1 rfl ?_
  refine rr_iload_n 1 rfl rfl dX7_wayBetween_20 ?_
  refine rr_iaload dX7_wayBetween_21 lo_5 sh_5 (by first | assumption | exact vp_in_nI (by omega) (by decide) | decide | omega | exact jj_inL rfl) ?_
  refine rr_aload_n 0 rfl rfl dX7_wayBetween_22 ?_
  refine rr_getR dX7_wayBetween_23 fX7_25 lo_1 sh_1 rfl ?_
  refine rr_iload_n 2 rfl rfl dX7_wayBetween_26 ?_
  refine rr_iaload dX7_wayBetween_27 lo_5 sh_5 (by first | assumption | exact vp_in_nI (by omega) (by decide) | decide | omega | exact jj_inL rfl) ?_
  refine rr_isub dX7_wayBetween_28 ?_
  refine rr_mabs (st := [.int (if 0 ≤ (((h 4) (a : Int32).toNatClampNeg) - ((h 4) (b : Int32).toNatClampNeg)) then (((h 4) (a : Int32).toNatClampNeg) - ((h 4) (b : Int32).toNatClampNeg)) else 0 - (((h 4) (a : Int32).toNatClampNeg) - ((h 4) (b : Int32).toNatClampNeg)))]) dX7_wayBetween_29 lX7_90 (Nat.le_of_ble_eq_true rfl) ?_
  refine rr_iadd dX7_wayBetween_32 ?_
  refine rr_ireturn dX7_wayBetween_33 rfl ?_
  simpa only [vX7_wayBetween] using kq
def vX7_waysTogether (r4 : Nat → Int32) (r5 : Nat → Int32) (n : Nat) (a : Int32) : Int32 := (jj_fo (fun k1 a1 => (a1 + (vX7_wayBetween r4 r5 a (nI k1)))) n 0)
set_option maxHeartbeats 1000000 in
theorem sp_X7_waysTogether {d kc ks : Nat} {h : Nat → Nat → Int32} {g : Nat → Nat → Int64} {Q : jj_Rs → jj_St → Prop} {n : Nat} {a : Int32} (ha : vp_in a 8) (hP : h 1 0 = nI n) (hn : n ≤ 8) (kq : Q (.inl (some (.int (vX7_waysTogether (h 4) (h 5) n a)))) (jj_S, 782, h, g)) : jj_R mX7_waysTogether (d + 2) kc ks (jj_S, 782, h, g) 0 [(0, .ref 1), (1, .int a)] [] Q := by
  refine rr_iconst 0 rfl dX7_waysTogether_0 ?_
  refine rr_istore_n [(0, .ref 1), (1, .int a), (2, .int 0)] dX7_waysTogether_1 rfl (by decide) rfl ?_
  refine rr_iconst 0 rfl dX7_waysTogether_2 ?_
  refine rr_istore_n [(0, .ref 1), (1, .int a), (2, .int 0), (3, .int 0)] dX7_waysTogether_3 rfl (by decide) rfl ?_
  refine jj_for (fun k1 (a1 : Int32) => jj_R _ _ kc ks (jj_S, 782, h, g) 4 [(0, .ref 1), (1, .int a), (2, .int a1), (3, .int (nI k1))] [] Q) (fun k1 a1 => (a1 + (vX7_wayBetween (h 4) (h 5) a (nI k1)))) n 0 ?_ ?_
  · intro k1 hk1 ih1
    generalize jj_fo _ k1 _ = a1 at ih1 ⊢
    try dsimp only at ih1 ⊢
    refine rr_iload_n 3 rfl rfl dX7_waysTogether_4 ?_
    refine rr_aload_n 0 rfl rfl dX7_waysTogether_5 ?_
    refine rr_getI dX7_waysTogether_6 fX7_31 lo_1 sh_1 rfl ?_
    refine rr_icmp_ge dX7_waysTogether_9 (fun c => absurd c (by rw [hP]; exact nI_ge (a := k1) (b := n) (by omega) (by omega))) (fun _ => ?_)
    refine rr_iload_n 2 rfl rfl dX7_waysTogether_12 ?_
    refine rr_aload_n 0 rfl rfl dX7_waysTogether_13 ?_
    refine rr_iload_n 1 rfl rfl dX7_waysTogether_14 ?_
    refine rr_iload_n 3 rfl rfl dX7_waysTogether_15 ?_
    refine rr_callV (As := [.int a, .int (nI k1)]) (rest := [.int a1]) (kc2 := 0) (ks2 := 0) dX7_waysTogether_16 okX7_wayBetween lX7_95 lo_1 sh_1 rfl rfl (Nat.le_of_ble_eq_true rfl) (Nat.le_of_ble_eq_true rfl) rfl (by omega) (by simp [jj_rk]) (by simp [jj_rk]) ?_
    refine sp_X7_wayBetween (by first | assumption | exact vp_in_nI (by omega) (by decide) | decide | omega | exact jj_inL rfl) (by first | assumption | exact vp_in_nI (by omega) (by decide) | decide | omega | exact jj_inL rfl) ?_
    show jj_R _ _ kc ks (jj_S, 782, h, g) 19 [(0, .ref 1), (1, .int a), (2, .int a1), (3, .int (nI k1))] [.int (vX7_wayBetween (h 4) (h 5) a (nI k1)), .int a1] Q
    refine rr_iadd dX7_waysTogether_19 ?_
    refine rr_istore_n [(0, .ref 1), (1, .int a), (2, .int (a1 + (vX7_wayBetween (h 4) (h 5) a (nI k1)))), (3, .int (nI k1))] dX7_waysTogether_20 rfl (by decide) rfl ?_
    refine rr_iinc 3 1 [(0, .ref 1), (1, .int a), (2, .int (a1 + (vX7_wayBetween (h 4) (h 5) a (nI k1)))), (3, .int ((nI k1) + 1))] dX7_waysTogether_21 rfl rfl (by decide) rfl ?_
    refine rr_goto dX7_waysTogether_24 ?_
    simpa only [nI_1, (nI_clamp (show k1 < 2 ^ 31 by omega))] using ih1
  · try dsimp only
    refine rr_iload_n 3 rfl rfl dX7_waysTogether_4 ?_
    refine rr_aload_n 0 rfl rfl dX7_waysTogether_5 ?_
    refine rr_getI dX7_waysTogether_6 fX7_31 lo_1 sh_1 rfl ?_
    refine rr_icmp_ge dX7_waysTogether_9 (fun _ => ?_) (fun c => absurd (by rw [hP]; exact jj_le_rf _) c)
    refine rr_iload_n 2 rfl rfl dX7_waysTogether_27 ?_
    refine rr_ireturn dX7_waysTogether_28 rfl ?_
    simpa only [vX7_waysTogether] using kq
def vX7_friendsOf (r6 : Nat → Int32) (n : Nat) (w : Int32) : Int32 := (jj_fo (fun k1 a1 => (if (w &&& (1 <<< ((nI k1) &&& 31))) = 0 then (a1 ||| 0) else (a1 ||| (r6 k1)))) n 0)
set_option maxHeartbeats 1000000 in
theorem sp_X7_friendsOf {d kc ks : Nat} {h : Nat → Nat → Int32} {g : Nat → Nat → Int64} {Q : jj_Rs → jj_St → Prop} {n : Nat} {w : Int32} (hP : h 1 0 = nI n) (hn : n ≤ 8) (kq : Q (.inl (some (.int (vX7_friendsOf (h 6) n w)))) (jj_S, 782, h, g)) : jj_R mX7_friendsOf (d + 0) kc ks (jj_S, 782, h, g) 0 [(0, .ref 1), (1, .int w)] [] Q := by
  refine rr_iconst 0 rfl dX7_friendsOf_0 ?_
  refine rr_istore_n [(0, .ref 1), (1, .int w), (2, .int 0)] dX7_friendsOf_1 rfl (by decide) rfl ?_
  refine rr_iconst 0 rfl dX7_friendsOf_2 ?_
  refine rr_istore_n [(0, .ref 1), (1, .int w), (2, .int 0), (3, .int 0)] dX7_friendsOf_3 rfl (by decide) rfl ?_
  refine jj_for (fun k1 (a1 : Int32) => jj_R _ _ kc ks (jj_S, 782, h, g) 4 [(0, .ref 1), (1, .int w), (2, .int a1), (3, .int (nI k1))] [] Q) (fun k1 a1 => (if (w &&& (1 <<< ((nI k1) &&& 31))) = 0 then (a1 ||| 0) else (a1 ||| ((h 6) k1)))) n 0 ?_ ?_
  · intro k1 hk1 ih1
    generalize jj_fo _ k1 _ = a1 at ih1 ⊢
    try dsimp only at ih1 ⊢
    refine rr_iload_n 3 rfl rfl dX7_friendsOf_4 ?_
    refine rr_aload_n 0 rfl rfl dX7_friendsOf_5 ?_
    refine rr_getI dX7_friendsOf_6 fX7_31 lo_1 sh_1 rfl ?_
    refine rr_icmp_ge dX7_friendsOf_9 (fun c => absurd c (by rw [hP]; exact nI_ge (a := k1) (b := n) (by omega) (by omega))) (fun _ => ?_)
    refine rr_iload_n 2 rfl rfl dX7_friendsOf_12 ?_
    refine rr_iload_n 1 rfl rfl dX7_friendsOf_13 ?_
    refine rr_iconst 1 rfl dX7_friendsOf_14 ?_
    refine rr_iload_n 3 rfl rfl dX7_friendsOf_15 ?_
    refine rr_ishl dX7_friendsOf_16 ?_
    refine rr_iand dX7_friendsOf_17 ?_
    refine rr_if_eq dX7_friendsOf_18 (fun c1 => ?_) (fun c1 => ?_)
    · skip
      refine rr_iconst 0 rfl dX7_friendsOf_30 ?_
      refine rr_ior dX7_friendsOf_31 ?_
      refine rr_istore_n [(0, .ref 1), (1, .int w), (2, .int (a1 ||| 0)), (3, .int (nI k1))] dX7_friendsOf_32 rfl (by decide) rfl ?_
      refine rr_iinc 3 1 [(0, .ref 1), (1, .int w), (2, .int (a1 ||| 0)), (3, .int ((nI k1) + 1))] dX7_friendsOf_33 rfl rfl (by decide) rfl ?_
      refine rr_goto dX7_friendsOf_36 ?_
      try simp only [(nI_clamp (show k1 < 2 ^ 31 by omega))] at c1
      simpa only [nI_1, (nI_clamp (show k1 < 2 ^ 31 by omega)), if_pos c1] using ih1
    · skip
      refine rr_aload_n 0 rfl rfl dX7_friendsOf_21 ?_
      refine rr_getR dX7_friendsOf_22 fX7_28 lo_1 sh_1 rfl ?_
      refine rr_iload_n 3 rfl rfl dX7_friendsOf_25 ?_
      refine rr_iaload dX7_friendsOf_26 lo_6 sh_6 (by first | assumption | exact vp_in_nI (by omega) (by decide) | decide | omega | exact jj_inL rfl) ?_
      refine rr_goto dX7_friendsOf_27 ?_
      refine rr_ior dX7_friendsOf_31 ?_
      refine rr_istore_n [(0, .ref 1), (1, .int w), (2, .int (a1 ||| ((h 6) ((nI k1) : Int32).toNatClampNeg))), (3, .int (nI k1))] dX7_friendsOf_32 rfl (by decide) rfl ?_
      refine rr_iinc 3 1 [(0, .ref 1), (1, .int w), (2, .int (a1 ||| ((h 6) ((nI k1) : Int32).toNatClampNeg))), (3, .int ((nI k1) + 1))] dX7_friendsOf_33 rfl rfl (by decide) rfl ?_
      refine rr_goto dX7_friendsOf_36 ?_
      try simp only [(nI_clamp (show k1 < 2 ^ 31 by omega))] at c1
      simpa only [nI_1, (nI_clamp (show k1 < 2 ^ 31 by omega)), if_neg c1] using ih1
  · try dsimp only
    refine rr_iload_n 3 rfl rfl dX7_friendsOf_4 ?_
    refine rr_aload_n 0 rfl rfl dX7_friendsOf_5 ?_
    refine rr_getI dX7_friendsOf_6 fX7_31 lo_1 sh_1 rfl ?_
    refine rr_icmp_ge dX7_friendsOf_9 (fun _ => ?_) (fun c => absurd (by rw [hP]; exact jj_le_rf _) c)
    refine rr_iload_n 2 rfl rfl dX7_friendsOf_39 ?_
    refine rr_ireturn dX7_friendsOf_40 rfl ?_
    simpa only [vX7_friendsOf] using kq
def rX4_forget_7 (r7 : Nat → Int32) : Nat → Int32 := (upd r7 (1) 0)
set_option maxHeartbeats 1000000 in
theorem sp_X4_forget {d kc ks : Nat} {h : Nat → Nat → Int32} {g : Nat → Nat → Int64} {Q : jj_Rs → jj_St → Prop}  (kq : Q (.inl none) (jj_S, 782, (jj_rs h [(7, (rX4_forget_7 (h 7)))]), g)) : jj_R mX4_forget (d + 0) kc ks (jj_S, 782, h, g) 0 [(0, .ref 7)] [] Q := by
  refine rr_aload_n 0 rfl rfl dX4_forget_0 ?_
  refine rr_iconst 0 rfl dX4_forget_1 ?_
  refine rr_putI dX4_forget_2 fX4_24 ni4_1 lo_7 sh_7 rfl ?_
  rw [jj_rs_set0 (B := h) (o := 7) (r := (h 7)) rfl]
  refine rr_return dX4_forget_5 rfl ?_
  simpa only [rX4_forget_7] using kq
def rX4_put0_10 (r10 : Nat → Int32) (v : Int32) : Nat → Int32 := (upd r10 ((0 : Int32).toNatClampNeg) v)
set_option maxHeartbeats 1000000 in
theorem sp_X4_put0 {d kc ks : Nat} {h : Nat → Nat → Int32} {g : Nat → Nat → Int64} {Q : jj_Rs → jj_St → Prop} {v : Int32} (kq : Q (.inl none) (jj_S, 782, (jj_rs h [(10, (rX4_put0_10 (h 10) v))]), g)) : jj_R mX4_put (d + 0) kc ks (jj_S, 782, h, g) 0 [(0, .ref 7), (1, .int 0), (2, .int v)] [] Q := by
  refine rr_iload_n 1 rfl rfl dX4_put_0 ?_
  refine rr_if_lt dX4_put_1 (fun c => absurd c (by decide)) (fun _ => ?_)
  refine rr_iload_n 1 rfl rfl dX4_put_4 ?_
  refine rr_aload_n 0 rfl rfl dX4_put_5 ?_
  refine rr_getR dX4_put_6 fX4_18 lo_7 sh_7 rfl ?_
  refine rr_alenI 8 dX4_put_9 lo_10 sh_10 (by decide) rfl ?_
  refine rr_icmp_ge dX4_put_10 (fun c => absurd c (by decide)) (fun _ => ?_)
  refine rr_aload_n 0 rfl rfl dX4_put_13 ?_
  refine rr_getR dX4_put_14 fX4_18 lo_7 sh_7 rfl ?_
  refine rr_iload_n 1 rfl rfl dX4_put_17 ?_
  refine rr_iload_n 2 rfl rfl dX4_put_18 ?_
  refine rr_iastore dX4_put_19 lo_10 sh_10 (by first | assumption | exact vp_in_nI (by omega) (by decide) | decide | omega | exact jj_inL rfl) ?_
  rw [jj_rs_set0 (B := h) (o := 10) (r := (h 10)) rfl]
  refine rr_return dX4_put_20 rfl ?_
  simpa only [rX4_put0_10] using kq
def rX4_put1_10 (r10 : Nat → Int32) (v : Int32) : Nat → Int32 := (upd r10 ((1 : Int32).toNatClampNeg) v)
set_option maxHeartbeats 1000000 in
theorem sp_X4_put1 {d kc ks : Nat} {h : Nat → Nat → Int32} {g : Nat → Nat → Int64} {Q : jj_Rs → jj_St → Prop} {v : Int32} (kq : Q (.inl none) (jj_S, 782, (jj_rs h [(10, (rX4_put1_10 (h 10) v))]), g)) : jj_R mX4_put (d + 0) kc ks (jj_S, 782, h, g) 0 [(0, .ref 7), (1, .int 1), (2, .int v)] [] Q := by
  refine rr_iload_n 1 rfl rfl dX4_put_0 ?_
  refine rr_if_lt dX4_put_1 (fun c => absurd c (by decide)) (fun _ => ?_)
  refine rr_iload_n 1 rfl rfl dX4_put_4 ?_
  refine rr_aload_n 0 rfl rfl dX4_put_5 ?_
  refine rr_getR dX4_put_6 fX4_18 lo_7 sh_7 rfl ?_
  refine rr_alenI 8 dX4_put_9 lo_10 sh_10 (by decide) rfl ?_
  refine rr_icmp_ge dX4_put_10 (fun c => absurd c (by decide)) (fun _ => ?_)
  refine rr_aload_n 0 rfl rfl dX4_put_13 ?_
  refine rr_getR dX4_put_14 fX4_18 lo_7 sh_7 rfl ?_
  refine rr_iload_n 1 rfl rfl dX4_put_17 ?_
  refine rr_iload_n 2 rfl rfl dX4_put_18 ?_
  refine rr_iastore dX4_put_19 lo_10 sh_10 (by first | assumption | exact vp_in_nI (by omega) (by decide) | decide | omega | exact jj_inL rfl) ?_
  rw [jj_rs_set0 (B := h) (o := 10) (r := (h 10)) rfl]
  refine rr_return dX4_put_20 rfl ?_
  simpa only [rX4_put1_10] using kq
def rX4_put2_10 (r10 : Nat → Int32) (v : Int32) : Nat → Int32 := (upd r10 ((2 : Int32).toNatClampNeg) v)
set_option maxHeartbeats 1000000 in
theorem sp_X4_put2 {d kc ks : Nat} {h : Nat → Nat → Int32} {g : Nat → Nat → Int64} {Q : jj_Rs → jj_St → Prop} {v : Int32} (kq : Q (.inl none) (jj_S, 782, (jj_rs h [(10, (rX4_put2_10 (h 10) v))]), g)) : jj_R mX4_put (d + 0) kc ks (jj_S, 782, h, g) 0 [(0, .ref 7), (1, .int 2), (2, .int v)] [] Q := by
  refine rr_iload_n 1 rfl rfl dX4_put_0 ?_
  refine rr_if_lt dX4_put_1 (fun c => absurd c (by decide)) (fun _ => ?_)
  refine rr_iload_n 1 rfl rfl dX4_put_4 ?_
  refine rr_aload_n 0 rfl rfl dX4_put_5 ?_
  refine rr_getR dX4_put_6 fX4_18 lo_7 sh_7 rfl ?_
  refine rr_alenI 8 dX4_put_9 lo_10 sh_10 (by decide) rfl ?_
  refine rr_icmp_ge dX4_put_10 (fun c => absurd c (by decide)) (fun _ => ?_)
  refine rr_aload_n 0 rfl rfl dX4_put_13 ?_
  refine rr_getR dX4_put_14 fX4_18 lo_7 sh_7 rfl ?_
  refine rr_iload_n 1 rfl rfl dX4_put_17 ?_
  refine rr_iload_n 2 rfl rfl dX4_put_18 ?_
  refine rr_iastore dX4_put_19 lo_10 sh_10 (by first | assumption | exact vp_in_nI (by omega) (by decide) | decide | omega | exact jj_inL rfl) ?_
  rw [jj_rs_set0 (B := h) (o := 10) (r := (h 10)) rfl]
  refine rr_return dX4_put_20 rfl ?_
  simpa only [rX4_put2_10] using kq
def rX4_put3_10 (r10 : Nat → Int32) (v : Int32) : Nat → Int32 := (upd r10 ((3 : Int32).toNatClampNeg) v)
set_option maxHeartbeats 1000000 in
theorem sp_X4_put3 {d kc ks : Nat} {h : Nat → Nat → Int32} {g : Nat → Nat → Int64} {Q : jj_Rs → jj_St → Prop} {v : Int32} (kq : Q (.inl none) (jj_S, 782, (jj_rs h [(10, (rX4_put3_10 (h 10) v))]), g)) : jj_R mX4_put (d + 0) kc ks (jj_S, 782, h, g) 0 [(0, .ref 7), (1, .int 3), (2, .int v)] [] Q := by
  refine rr_iload_n 1 rfl rfl dX4_put_0 ?_
  refine rr_if_lt dX4_put_1 (fun c => absurd c (by decide)) (fun _ => ?_)
  refine rr_iload_n 1 rfl rfl dX4_put_4 ?_
  refine rr_aload_n 0 rfl rfl dX4_put_5 ?_
  refine rr_getR dX4_put_6 fX4_18 lo_7 sh_7 rfl ?_
  refine rr_alenI 8 dX4_put_9 lo_10 sh_10 (by decide) rfl ?_
  refine rr_icmp_ge dX4_put_10 (fun c => absurd c (by decide)) (fun _ => ?_)
  refine rr_aload_n 0 rfl rfl dX4_put_13 ?_
  refine rr_getR dX4_put_14 fX4_18 lo_7 sh_7 rfl ?_
  refine rr_iload_n 1 rfl rfl dX4_put_17 ?_
  refine rr_iload_n 2 rfl rfl dX4_put_18 ?_
  refine rr_iastore dX4_put_19 lo_10 sh_10 (by first | assumption | exact vp_in_nI (by omega) (by decide) | decide | omega | exact jj_inL rfl) ?_
  rw [jj_rs_set0 (B := h) (o := 10) (r := (h 10)) rfl]
  refine rr_return dX4_put_20 rfl ?_
  simpa only [rX4_put3_10] using kq
def rX4_put4_10 (r10 : Nat → Int32) (v : Int32) : Nat → Int32 := (upd r10 ((4 : Int32).toNatClampNeg) v)
set_option maxHeartbeats 1000000 in
theorem sp_X4_put4 {d kc ks : Nat} {h : Nat → Nat → Int32} {g : Nat → Nat → Int64} {Q : jj_Rs → jj_St → Prop} {v : Int32} (kq : Q (.inl none) (jj_S, 782, (jj_rs h [(10, (rX4_put4_10 (h 10) v))]), g)) : jj_R mX4_put (d + 0) kc ks (jj_S, 782, h, g) 0 [(0, .ref 7), (1, .int 4), (2, .int v)] [] Q := by
  refine rr_iload_n 1 rfl rfl dX4_put_0 ?_
  refine rr_if_lt dX4_put_1 (fun c => absurd c (by decide)) (fun _ => ?_)
  refine rr_iload_n 1 rfl rfl dX4_put_4 ?_
  refine rr_aload_n 0 rfl rfl dX4_put_5 ?_
  refine rr_getR dX4_put_6 fX4_18 lo_7 sh_7 rfl ?_
  refine rr_alenI 8 dX4_put_9 lo_10 sh_10 (by decide) rfl ?_
  refine rr_icmp_ge dX4_put_10 (fun c => absurd c (by decide)) (fun _ => ?_)
  refine rr_aload_n 0 rfl rfl dX4_put_13 ?_
  refine rr_getR dX4_put_14 fX4_18 lo_7 sh_7 rfl ?_
  refine rr_iload_n 1 rfl rfl dX4_put_17 ?_
  refine rr_iload_n 2 rfl rfl dX4_put_18 ?_
  refine rr_iastore dX4_put_19 lo_10 sh_10 (by first | assumption | exact vp_in_nI (by omega) (by decide) | decide | omega | exact jj_inL rfl) ?_
  rw [jj_rs_set0 (B := h) (o := 10) (r := (h 10)) rfl]
  refine rr_return dX4_put_20 rfl ?_
  simpa only [rX4_put4_10] using kq
def rX4_put5_10 (r10 : Nat → Int32) (v : Int32) : Nat → Int32 := (upd r10 ((5 : Int32).toNatClampNeg) v)
set_option maxHeartbeats 1000000 in
theorem sp_X4_put5 {d kc ks : Nat} {h : Nat → Nat → Int32} {g : Nat → Nat → Int64} {Q : jj_Rs → jj_St → Prop} {v : Int32} (kq : Q (.inl none) (jj_S, 782, (jj_rs h [(10, (rX4_put5_10 (h 10) v))]), g)) : jj_R mX4_put (d + 0) kc ks (jj_S, 782, h, g) 0 [(0, .ref 7), (1, .int 5), (2, .int v)] [] Q := by
  refine rr_iload_n 1 rfl rfl dX4_put_0 ?_
  refine rr_if_lt dX4_put_1 (fun c => absurd c (by decide)) (fun _ => ?_)
  refine rr_iload_n 1 rfl rfl dX4_put_4 ?_
  refine rr_aload_n 0 rfl rfl dX4_put_5 ?_
  refine rr_getR dX4_put_6 fX4_18 lo_7 sh_7 rfl ?_
  refine rr_alenI 8 dX4_put_9 lo_10 sh_10 (by decide) rfl ?_
  refine rr_icmp_ge dX4_put_10 (fun c => absurd c (by decide)) (fun _ => ?_)
  refine rr_aload_n 0 rfl rfl dX4_put_13 ?_
  refine rr_getR dX4_put_14 fX4_18 lo_7 sh_7 rfl ?_
  refine rr_iload_n 1 rfl rfl dX4_put_17 ?_
  refine rr_iload_n 2 rfl rfl dX4_put_18 ?_
  refine rr_iastore dX4_put_19 lo_10 sh_10 (by first | assumption | exact vp_in_nI (by omega) (by decide) | decide | omega | exact jj_inL rfl) ?_
  rw [jj_rs_set0 (B := h) (o := 10) (r := (h 10)) rfl]
  refine rr_return dX4_put_20 rfl ?_
  simpa only [rX4_put5_10] using kq
def rX4_put6_10 (r10 : Nat → Int32) (v : Int32) : Nat → Int32 := (upd r10 ((6 : Int32).toNatClampNeg) v)
set_option maxHeartbeats 1000000 in
theorem sp_X4_put6 {d kc ks : Nat} {h : Nat → Nat → Int32} {g : Nat → Nat → Int64} {Q : jj_Rs → jj_St → Prop} {v : Int32} (kq : Q (.inl none) (jj_S, 782, (jj_rs h [(10, (rX4_put6_10 (h 10) v))]), g)) : jj_R mX4_put (d + 0) kc ks (jj_S, 782, h, g) 0 [(0, .ref 7), (1, .int 6), (2, .int v)] [] Q := by
  refine rr_iload_n 1 rfl rfl dX4_put_0 ?_
  refine rr_if_lt dX4_put_1 (fun c => absurd c (by decide)) (fun _ => ?_)
  refine rr_iload_n 1 rfl rfl dX4_put_4 ?_
  refine rr_aload_n 0 rfl rfl dX4_put_5 ?_
  refine rr_getR dX4_put_6 fX4_18 lo_7 sh_7 rfl ?_
  refine rr_alenI 8 dX4_put_9 lo_10 sh_10 (by decide) rfl ?_
  refine rr_icmp_ge dX4_put_10 (fun c => absurd c (by decide)) (fun _ => ?_)
  refine rr_aload_n 0 rfl rfl dX4_put_13 ?_
  refine rr_getR dX4_put_14 fX4_18 lo_7 sh_7 rfl ?_
  refine rr_iload_n 1 rfl rfl dX4_put_17 ?_
  refine rr_iload_n 2 rfl rfl dX4_put_18 ?_
  refine rr_iastore dX4_put_19 lo_10 sh_10 (by first | assumption | exact vp_in_nI (by omega) (by decide) | decide | omega | exact jj_inL rfl) ?_
  rw [jj_rs_set0 (B := h) (o := 10) (r := (h 10)) rfl]
  refine rr_return dX4_put_20 rfl ?_
  simpa only [rX4_put6_10] using kq
def rX4_put7_10 (r10 : Nat → Int32) (v : Int32) : Nat → Int32 := (upd r10 ((7 : Int32).toNatClampNeg) v)
set_option maxHeartbeats 1000000 in
theorem sp_X4_put7 {d kc ks : Nat} {h : Nat → Nat → Int32} {g : Nat → Nat → Int64} {Q : jj_Rs → jj_St → Prop} {v : Int32} (kq : Q (.inl none) (jj_S, 782, (jj_rs h [(10, (rX4_put7_10 (h 10) v))]), g)) : jj_R mX4_put (d + 0) kc ks (jj_S, 782, h, g) 0 [(0, .ref 7), (1, .int 7), (2, .int v)] [] Q := by
  refine rr_iload_n 1 rfl rfl dX4_put_0 ?_
  refine rr_if_lt dX4_put_1 (fun c => absurd c (by decide)) (fun _ => ?_)
  refine rr_iload_n 1 rfl rfl dX4_put_4 ?_
  refine rr_aload_n 0 rfl rfl dX4_put_5 ?_
  refine rr_getR dX4_put_6 fX4_18 lo_7 sh_7 rfl ?_
  refine rr_alenI 8 dX4_put_9 lo_10 sh_10 (by decide) rfl ?_
  refine rr_icmp_ge dX4_put_10 (fun c => absurd c (by decide)) (fun _ => ?_)
  refine rr_aload_n 0 rfl rfl dX4_put_13 ?_
  refine rr_getR dX4_put_14 fX4_18 lo_7 sh_7 rfl ?_
  refine rr_iload_n 1 rfl rfl dX4_put_17 ?_
  refine rr_iload_n 2 rfl rfl dX4_put_18 ?_
  refine rr_iastore dX4_put_19 lo_10 sh_10 (by first | assumption | exact vp_in_nI (by omega) (by decide) | decide | omega | exact jj_inL rfl) ?_
  rw [jj_rs_set0 (B := h) (o := 10) (r := (h 10)) rfl]
  refine rr_return dX4_put_20 rfl ?_
  simpa only [rX4_put7_10] using kq
def vX4_worthWithoutLaw (r10 : Nat → Int32) : Int32 := (((((r10 (0 : Int32).toNatClampNeg) * 5) + ((r10 (3 : Int32).toNatClampNeg) * 20)) - ((r10 (1 : Int32).toNatClampNeg) * 2)) - (r10 (2 : Int32).toNatClampNeg))
set_option maxHeartbeats 1000000 in
theorem sp_X4_worthWithoutLaw {d kc ks : Nat} {h : Nat → Nat → Int32} {g : Nat → Nat → Int64} {Q : jj_Rs → jj_St → Prop}  (kq : Q (.inl (some (.int (vX4_worthWithoutLaw (h 10))))) (jj_S, 782, h, g)) : jj_R mX4_worthWithoutLaw (d + 0) kc ks (jj_S, 782, h, g) 0 [(0, .ref 7)] [] Q := by
  refine rr_aload_n 0 rfl rfl dX4_worthWithoutLaw_0 ?_
  refine rr_getR dX4_worthWithoutLaw_1 fX4_18 lo_7 sh_7 rfl ?_
  refine rr_iconst 0 rfl dX4_worthWithoutLaw_4 ?_
  refine rr_iaload dX4_worthWithoutLaw_5 lo_10 sh_10 (by first | assumption | exact vp_in_nI (by omega) (by decide) | decide | omega | exact jj_inL rfl) ?_
  refine rr_iconst 5 rfl dX4_worthWithoutLaw_6 ?_
  refine rr_imul dX4_worthWithoutLaw_7 ?_
  refine rr_aload_n 0 rfl rfl dX4_worthWithoutLaw_8 ?_
  refine rr_getR dX4_worthWithoutLaw_9 fX4_18 lo_7 sh_7 rfl ?_
  refine rr_iconst 3 rfl dX4_worthWithoutLaw_12 ?_
  refine rr_iaload dX4_worthWithoutLaw_13 lo_10 sh_10 (by first | assumption | exact vp_in_nI (by omega) (by decide) | decide | omega | exact jj_inL rfl) ?_
  refine rr_bipush 20 rfl dX4_worthWithoutLaw_14 ?_
  refine rr_imul dX4_worthWithoutLaw_16 ?_
  refine rr_iadd dX4_worthWithoutLaw_17 ?_
  refine rr_aload_n 0 rfl rfl dX4_worthWithoutLaw_18 ?_
  refine rr_getR dX4_worthWithoutLaw_19 fX4_18 lo_7 sh_7 rfl ?_
  refine rr_iconst 1 rfl dX4_worthWithoutLaw_22 ?_
  refine rr_iaload dX4_worthWithoutLaw_23 lo_10 sh_10 (by first | assumption | exact vp_in_nI (by omega) (by decide) | decide | omega | exact jj_inL rfl) ?_
  refine rr_iconst 2 rfl dX4_worthWithoutLaw_24 ?_
  refine rr_imul dX4_worthWithoutLaw_25 ?_
  refine rr_isub dX4_worthWithoutLaw_26 ?_
  refine rr_aload_n 0 rfl rfl dX4_worthWithoutLaw_27 ?_
  refine rr_getR dX4_worthWithoutLaw_28 fX4_18 lo_7 sh_7 rfl ?_
  refine rr_iconst 2 rfl dX4_worthWithoutLaw_31 ?_
  refine rr_iaload dX4_worthWithoutLaw_32 lo_10 sh_10 (by first | assumption | exact vp_in_nI (by omega) (by decide) | decide | omega | exact jj_inL rfl) ?_
  refine rr_isub dX4_worthWithoutLaw_33 ?_
  refine rr_ireturn dX4_worthWithoutLaw_34 rfl ?_
  simpa only [vX4_worthWithoutLaw] using kq
def vX4_joined (s : Int32) (x : Int32) (y : Int32) : Int32 := (if s = 2001 then (x + y) else (if s = 2002 then (x - y) else (if s = 2003 then (x * y) else (if s = 2004 then (if y = 0 then 0 else (x / y)) else (if s = 2005 then (if y = 0 then 0 else (x - x / y * y)) else (if s = 2006 then (if y < x then y else x) else (if x < y then y else x)))))))
set_option maxHeartbeats 1000000 in
theorem sp_X4_joined {d kc ks : Nat} {h : Nat → Nat → Int32} {g : Nat → Nat → Int64} {Q : jj_Rs → jj_St → Prop} {s : Int32} {x : Int32} {y : Int32} (kq : Q (.inl (some (.int (vX4_joined s x y)))) (jj_S, 782, h, g)) : jj_R mX4_joined (d + 1) kc ks (jj_S, 782, h, g) 0 [(0, .int s), (1, .int x), (2, .int y)] [] Q := by
  refine rr_iload_n 0 rfl rfl dX4_joined_0 ?_
  by_cases c1 : s = 2001
  · skip
    refine rr_tcase (tgt := 40) c1 39 dX4_joined_1 (by decide) (by decide) (by decide) (by decide) ?_
    refine rr_iload_n 1 rfl rfl dX4_joined_40 ?_
    refine rr_iload_n 2 rfl rfl dX4_joined_41 ?_
    refine rr_iadd dX4_joined_42 ?_
    refine rr_ireturn dX4_joined_43 rfl ?_
    simpa only [vX4_joined, if_pos c1] using kq
  · skip
    by_cases c2 : s = 2002
    · skip
      refine rr_tcase (tgt := 44) c2 43 dX4_joined_1 (by decide) (by decide) (by decide) (by decide) ?_
      refine rr_iload_n 1 rfl rfl dX4_joined_44 ?_
      refine rr_iload_n 2 rfl rfl dX4_joined_45 ?_
      refine rr_isub dX4_joined_46 ?_
      refine rr_ireturn dX4_joined_47 rfl ?_
      simpa only [vX4_joined, if_neg c1, if_pos c2] using kq
    · skip
      by_cases c3 : s = 2003
      · skip
        refine rr_tcase (tgt := 48) c3 47 dX4_joined_1 (by decide) (by decide) (by decide) (by decide) ?_
        refine rr_iload_n 1 rfl rfl dX4_joined_48 ?_
        refine rr_iload_n 2 rfl rfl dX4_joined_49 ?_
        refine rr_imul dX4_joined_50 ?_
        refine rr_ireturn dX4_joined_51 rfl ?_
        simpa only [vX4_joined, if_neg c1, if_neg c2, if_pos c3] using kq
      · skip
        by_cases c4 : s = 2004
        · skip
          refine rr_tcase (tgt := 52) c4 51 dX4_joined_1 (by decide) (by decide) (by decide) (by decide) ?_
          refine rr_iload_n 2 rfl rfl dX4_joined_52 ?_
          refine rr_if_ne dX4_joined_53 (fun c5 => ?_) (fun c5 => ?_)
          · skip
            refine rr_iload_n 1 rfl rfl dX4_joined_60 ?_
            refine rr_iload_n 2 rfl rfl dX4_joined_61 ?_
            refine rr_idiv (by first | assumption | exact vp_in_nI (by omega) (by decide) | decide | omega | exact jj_inL rfl) dX4_joined_62 ?_
            refine rr_ireturn dX4_joined_63 rfl ?_
            simpa only [vX4_joined, if_neg c1, if_neg c2, if_neg c3, if_pos c4, if_neg c5] using kq
          · skip
            refine rr_iconst 0 rfl dX4_joined_56 ?_
            refine rr_goto dX4_joined_57 ?_
            refine rr_ireturn dX4_joined_63 rfl ?_
            simpa only [vX4_joined, if_neg c1, if_neg c2, if_neg c3, if_pos c4, if_pos c5] using kq
        · skip
          by_cases c6 : s = 2005
          · skip
            refine rr_tcase (tgt := 64) c6 63 dX4_joined_1 (by decide) (by decide) (by decide) (by decide) ?_
            refine rr_iload_n 2 rfl rfl dX4_joined_64 ?_
            refine rr_if_ne dX4_joined_65 (fun c7 => ?_) (fun c7 => ?_)
            · skip
              refine rr_iload_n 1 rfl rfl dX4_joined_72 ?_
              refine rr_iload_n 2 rfl rfl dX4_joined_73 ?_
              refine rr_irem (by first | assumption | exact vp_in_nI (by omega) (by decide) | decide | omega | exact jj_inL rfl) dX4_joined_74 ?_
              refine rr_ireturn dX4_joined_75 rfl ?_
              simpa only [vX4_joined, if_neg c1, if_neg c2, if_neg c3, if_neg c4, if_pos c6, if_neg c7] using kq
            · skip
              refine rr_iconst 0 rfl dX4_joined_68 ?_
              refine rr_goto dX4_joined_69 ?_
              refine rr_ireturn dX4_joined_75 rfl ?_
              simpa only [vX4_joined, if_neg c1, if_neg c2, if_neg c3, if_neg c4, if_pos c6, if_pos c7] using kq
          · skip
            by_cases c8 : s = 2006
            · skip
              refine rr_tcase (tgt := 76) c8 75 dX4_joined_1 (by decide) (by decide) (by decide) (by decide) ?_
              refine rr_iload_n 1 rfl rfl dX4_joined_76 ?_
              refine rr_iload_n 2 rfl rfl dX4_joined_77 ?_
              refine rr_mmin (st := []) dX4_joined_78 lX4_36 (Nat.le_of_ble_eq_true rfl) ?_
              refine rr_ireturn dX4_joined_81 rfl ?_
              simpa only [vX4_joined, if_neg c1, if_neg c2, if_neg c3, if_neg c4, if_neg c6, if_pos c8] using kq
            · skip
              refine rr_tableOut (tgt := 82) dX4_joined_1 (by have q0 := lv_neT c1 (a := 2001) rfl; have q1 := lv_neT c2 (a := 2002) rfl; have q2 := lv_neT c3 (a := 2003) rfl; have q3 := lv_neT c4 (a := 2004) rfl; have q4 := lv_neT c6 (a := 2005) rfl; have q5 := lv_neT c8 (a := 2006) rfl; omega) (by decide) ?_
              refine rr_iload_n 1 rfl rfl dX4_joined_82 ?_
              refine rr_iload_n 2 rfl rfl dX4_joined_83 ?_
              refine rr_mmax (st := []) dX4_joined_84 lX4_42 (Nat.le_of_ble_eq_true rfl) ?_
              refine rr_ireturn dX4_joined_87 rfl ?_
              simpa only [vX4_joined, if_neg c1, if_neg c2, if_neg c3, if_neg c4, if_neg c6, if_neg c8] using kq
def rX0_forget_25 (r25 : Nat → Int32) : Nat → Int32 := (upd r25 (2) 0)
set_option maxHeartbeats 1000000 in
theorem sp_X0_forget {d kc ks : Nat} {h : Nat → Nat → Int32} {g : Nat → Nat → Int64} {Q : jj_Rs → jj_St → Prop}  (kq : Q (.inl none) (jj_S, 782, (jj_rs h [(25, (rX0_forget_25 (h 25)))]), g)) : jj_R mX0_forget (d + 0) kc ks (jj_S, 782, h, g) 0 [(0, .ref 25)] [] Q := by
  refine rr_aload_n 0 rfl rfl dX0_forget_0 ?_
  refine rr_iconst 0 rfl dX0_forget_1 ?_
  refine rr_putI dX0_forget_2 fX0_33 ni0_2 lo_25 sh_25 rfl ?_
  rw [jj_rs_set0 (B := h) (o := 25) (r := (h 25)) rfl]
  refine rr_return dX0_forget_5 rfl ?_
  simpa only [rX0_forget_25] using kq
def rX1_forget_34 (r34 : Nat → Int32) : Nat → Int32 := (upd (upd r34 (0) 0) (1) 0)
set_option maxHeartbeats 1000000 in
theorem sp_X1_forget {d kc ks : Nat} {h : Nat → Nat → Int32} {g : Nat → Nat → Int64} {Q : jj_Rs → jj_St → Prop}  (kq : Q (.inl none) (jj_S, 782, (jj_rs h [(34, (rX1_forget_34 (h 34)))]), g)) : jj_R mX1_forget (d + 0) kc ks (jj_S, 782, h, g) 0 [(0, .ref 34)] [] Q := by
  refine rr_aload_n 0 rfl rfl dX1_forget_0 ?_
  refine rr_iconst 0 rfl dX1_forget_1 ?_
  refine rr_putI dX1_forget_2 fX1_23 ni1_0 lo_34 sh_34 rfl ?_
  rw [jj_rs_set0 (B := h) (o := 34) (r := (h 34)) rfl]
  refine rr_aload_n 0 rfl rfl dX1_forget_5 ?_
  refine rr_iconst 0 rfl dX1_forget_6 ?_
  refine rr_putI dX1_forget_7 fX1_27 ni1_1 lo_34 sh_34 rfl ?_
  rw [jj_rs_set (B := h) (L := [(34, (upd (h 34) (0) 0))]) (L2 := [(34, (upd (upd (h 34) (0) 0) (1) 0))]) (r := (upd (h 34) (0) 0)) rfl rfl]
  refine rr_return dX1_forget_10 rfl ?_
  simpa only [rX1_forget_34] using kq
def vX1_isFull (r34 : Nat → Int32) : Int32 := (if (r34 0) < 16 then 0 else 1)
set_option maxHeartbeats 1000000 in
theorem sp_X1_isFull {d kc ks : Nat} {h : Nat → Nat → Int32} {g : Nat → Nat → Int64} {Q : jj_Rs → jj_St → Prop}  (kq : Q (.inl (some (.int (vX1_isFull (h 34))))) (jj_S, 782, h, g)) : jj_R mX1_isFull (d + 0) kc ks (jj_S, 782, h, g) 0 [(0, .ref 34)] [] Q := by
  refine rr_aload_n 0 rfl rfl dX1_isFull_0 ?_
  refine rr_getI dX1_isFull_1 fX1_23 lo_34 sh_34 rfl ?_
  refine rr_bipush 16 rfl dX1_isFull_4 ?_
  refine rr_icmp_lt dX1_isFull_6 (fun c1 => ?_) (fun c1 => ?_)
  · skip
    refine rr_iconst 0 rfl dX1_isFull_13 ?_
    refine rr_nreturn dX1_isFull_14 rfl (by first | rfl | assumption) ?_
    simpa only [vX1_isFull, if_pos c1] using kq
  · skip
    refine rr_iconst 1 rfl dX1_isFull_9 ?_
    refine rr_goto dX1_isFull_10 ?_
    refine rr_nreturn dX1_isFull_14 rfl (by first | rfl | assumption) ?_
    simpa only [vX1_isFull, if_neg c1] using kq
def vX5_hasRoom (r13 : Nat → Int32) : Int32 := (if 600 < ((r13 1) + 20) then 0 else 1)
set_option maxHeartbeats 1000000 in
theorem sp_X5_hasRoom {d kc ks : Nat} {h : Nat → Nat → Int32} {g : Nat → Nat → Int64} {Q : jj_Rs → jj_St → Prop}  (kq : Q (.inl (some (.int (vX5_hasRoom (h 13))))) (jj_S, 782, h, g)) : jj_R mX5_hasRoom (d + 0) kc ks (jj_S, 782, h, g) 0 [(0, .ref 13)] [] Q := by
  refine rr_aload_n 0 rfl rfl dX5_hasRoom_0 ?_
  refine rr_getI dX5_hasRoom_1 fX5_19 lo_13 sh_13 rfl ?_
  refine rr_bipush 20 rfl dX5_hasRoom_4 ?_
  refine rr_iadd dX5_hasRoom_6 ?_
  refine rr_aload_n 0 rfl rfl dX5_hasRoom_7 ?_
  refine rr_getR dX5_hasRoom_8 fX5_9 lo_13 sh_13 rfl ?_
  refine rr_alenI 600 dX5_hasRoom_11 lo_14 sh_14 (by decide) rfl ?_
  refine rr_icmp_gt dX5_hasRoom_12 (fun c1 => ?_) (fun c1 => ?_)
  · skip
    refine rr_iconst 0 rfl dX5_hasRoom_19 ?_
    refine rr_nreturn dX5_hasRoom_20 rfl (by first | rfl | assumption) ?_
    simpa only [vX5_hasRoom, if_pos c1] using kq
  · skip
    refine rr_iconst 1 rfl dX5_hasRoom_15 ?_
    refine rr_goto dX5_hasRoom_16 ?_
    refine rr_nreturn dX5_hasRoom_20 rfl (by first | rfl | assumption) ?_
    simpa only [vX5_hasRoom, if_neg c1] using kq
def rX5_empty_13 (r13 : Nat → Int32) : Nat → Int32 := (upd r13 (1) 0)
set_option maxHeartbeats 1000000 in
theorem sp_X5_empty {d kc ks : Nat} {h : Nat → Nat → Int32} {g : Nat → Nat → Int64} {Q : jj_Rs → jj_St → Prop}  (kq : Q (.inl none) (jj_S, 782, (jj_rs h [(13, (rX5_empty_13 (h 13)))]), g)) : jj_R mX5_empty (d + 0) kc ks (jj_S, 782, h, g) 0 [(0, .ref 13)] [] Q := by
  refine rr_aload_n 0 rfl rfl dX5_empty_0 ?_
  refine rr_iconst 0 rfl dX5_empty_1 ?_
  refine rr_putI dX5_empty_2 fX5_19 ni5_1 lo_13 sh_13 rfl ?_
  rw [jj_rs_set0 (B := h) (o := 13) (r := (h 13)) rfl]
  refine rr_return dX5_empty_5 rfl ?_
  simpa only [rX5_empty_13] using kq
def vX5_isSign (r13 : Nat → Int32) (c : Int32) : Int32 := (if (r13 4) = 3 then (if (r13 5) = c then 1 else 0) else 0)
set_option maxHeartbeats 1000000 in
theorem sp_X5_isSign {d kc ks : Nat} {h : Nat → Nat → Int32} {g : Nat → Nat → Int64} {Q : jj_Rs → jj_St → Prop} {c : Int32} (kq : Q (.inl (some (.int (vX5_isSign (h 13) c)))) (jj_S, 782, h, g)) : jj_R mX5_isSign (d + 0) kc ks (jj_S, 782, h, g) 0 [(0, .ref 13), (1, .int c)] [] Q := by
  refine rr_aload_n 0 rfl rfl dX5_isSign_0 ?_
  refine rr_getI dX5_isSign_1 fX5_37 lo_13 sh_13 rfl ?_
  refine rr_iconst 3 rfl dX5_isSign_4 ?_
  refine rr_icmp_ne dX5_isSign_5 (fun c1 => ?_) (fun c1 => ?_)
  · skip
    refine rr_iconst 0 rfl dX5_isSign_20 ?_
    refine rr_nreturn dX5_isSign_21 rfl (by first | rfl | assumption) ?_
    simpa only [vX5_isSign, if_neg c1] using kq
  · skip
    refine rr_aload_n 0 rfl rfl dX5_isSign_8 ?_
    refine rr_getI dX5_isSign_9 fX5_40 lo_13 sh_13 rfl ?_
    refine rr_iload_n 1 rfl rfl dX5_isSign_12 ?_
    refine rr_icmp_ne dX5_isSign_13 (fun c2 => ?_) (fun c2 => ?_)
    · skip
      refine rr_iconst 0 rfl dX5_isSign_20 ?_
      refine rr_nreturn dX5_isSign_21 rfl (by first | rfl | assumption) ?_
      simpa only [vX5_isSign, if_pos c1, if_neg c2] using kq
    · skip
      refine rr_iconst 1 rfl dX5_isSign_16 ?_
      refine rr_goto dX5_isSign_17 ?_
      refine rr_nreturn dX5_isSign_21 rfl (by first | rfl | assumption) ?_
      simpa only [vX5_isSign, if_pos c1, if_pos c2] using kq
def vX5_isNumber (r13 : Nat → Int32) (c : Int32) : Int32 := (if (r13 4) = 1 then (if (r13 5) = c then 1 else 0) else 0)
set_option maxHeartbeats 1000000 in
theorem sp_X5_isNumber {d kc ks : Nat} {h : Nat → Nat → Int32} {g : Nat → Nat → Int64} {Q : jj_Rs → jj_St → Prop} {c : Int32} (kq : Q (.inl (some (.int (vX5_isNumber (h 13) c)))) (jj_S, 782, h, g)) : jj_R mX5_isNumber (d + 0) kc ks (jj_S, 782, h, g) 0 [(0, .ref 13), (1, .int c)] [] Q := by
  refine rr_aload_n 0 rfl rfl dX5_isNumber_0 ?_
  refine rr_getI dX5_isNumber_1 fX5_37 lo_13 sh_13 rfl ?_
  refine rr_iconst 1 rfl dX5_isNumber_4 ?_
  refine rr_icmp_ne dX5_isNumber_5 (fun c1 => ?_) (fun c1 => ?_)
  · skip
    refine rr_iconst 0 rfl dX5_isNumber_20 ?_
    refine rr_nreturn dX5_isNumber_21 rfl (by first | rfl | assumption) ?_
    simpa only [vX5_isNumber, if_neg c1] using kq
  · skip
    refine rr_aload_n 0 rfl rfl dX5_isNumber_8 ?_
    refine rr_getI dX5_isNumber_9 fX5_40 lo_13 sh_13 rfl ?_
    refine rr_iload_n 1 rfl rfl dX5_isNumber_12 ?_
    refine rr_icmp_ne dX5_isNumber_13 (fun c2 => ?_) (fun c2 => ?_)
    · skip
      refine rr_iconst 0 rfl dX5_isNumber_20 ?_
      refine rr_nreturn dX5_isNumber_21 rfl (by first | rfl | assumption) ?_
      simpa only [vX5_isNumber, if_pos c1, if_neg c2] using kq
    · skip
      refine rr_iconst 1 rfl dX5_isNumber_16 ?_
      refine rr_goto dX5_isNumber_17 ?_
      refine rr_nreturn dX5_isNumber_21 rfl (by first | rfl | assumption) ?_
      simpa only [vX5_isNumber, if_pos c1, if_pos c2] using kq
def vX5_failed (r13 : Nat → Int32) (c : Int32) : Int32 := (-1)
def rX5_failed_13 (r13 : Nat → Int32) (c : Int32) : Nat → Int32 := (if (r13 7) = 0 then (upd (upd r13 (7) c) (8) ((upd r13 (7) c) 6)) else r13)
set_option maxHeartbeats 1000000 in
theorem sp_X5_failed {d kc ks : Nat} {h : Nat → Nat → Int32} {g : Nat → Nat → Int64} {Q : jj_Rs → jj_St → Prop} {c : Int32} (kq : Q (.inl (some (.int (vX5_failed (h 13) c)))) (jj_S, 782, (jj_rs h [(13, (rX5_failed_13 (h 13) c))]), g)) : jj_R mX5_failed (d + 0) kc ks (jj_S, 782, h, g) 0 [(0, .ref 13), (1, .int c)] [] Q := by
  refine rr_aload_n 0 rfl rfl dX5_failed_0 ?_
  refine rr_getI dX5_failed_1 fX5_28 lo_13 sh_13 rfl ?_
  refine rr_if_ne dX5_failed_4 (fun c1 => ?_) (fun c1 => ?_)
  · skip
    refine rr_iconst (-1) rfl dX5_failed_20 ?_
    refine rr_ireturn dX5_failed_21 rfl ?_
    rw [jj_addr (B := h) (o := 13) (r := (h 13)) rfl]
    simpa only [vX5_failed, rX5_failed_13, if_neg c1] using kq
  · skip
    refine rr_aload_n 0 rfl rfl dX5_failed_7 ?_
    refine rr_iload_n 1 rfl rfl dX5_failed_8 ?_
    refine rr_putI dX5_failed_9 fX5_28 ni5_7 lo_13 sh_13 rfl ?_
    rw [jj_rs_set0 (B := h) (o := 13) (r := (h 13)) rfl]
    refine rr_aload_n 0 rfl rfl dX5_failed_12 ?_
    refine rr_aload_n 0 rfl rfl dX5_failed_13 ?_
    refine rr_getI dX5_failed_14 fX5_34 lo_13 sh_13 rfl ?_
    rw [show (jj_rs h [(13, (upd (h 13) (7) c))]) 13 = (upd (h 13) (7) c) from rfl]
    refine rr_putI dX5_failed_17 fX5_15 ni5_8 lo_13 sh_13 rfl ?_
    rw [jj_rs_set (B := h) (L := [(13, (upd (h 13) (7) c))]) (L2 := [(13, (upd (upd (h 13) (7) c) (8) ((upd (h 13) (7) c) 6)))]) (r := (upd (h 13) (7) c)) rfl rfl]
    refine rr_iconst (-1) rfl dX5_failed_20 ?_
    refine rr_ireturn dX5_failed_21 rfl ?_
    simpa only [vX5_failed, rX5_failed_13, if_pos c1] using kq
def vX0_hasLine (r25 : Nat → Int32) (r26 : Nat → Int32) (p : Int32) : Int32 := (if (r25 2) ≤ 0 then 0 else (if (r26 (p : Int32).toNatClampNeg) = (-1) then 0 else 1))
set_option maxHeartbeats 1000000 in
theorem sp_X0_hasLine {d kc ks : Nat} {h : Nat → Nat → Int32} {g : Nat → Nat → Int64} {Q : jj_Rs → jj_St → Prop} {p : Int32} (hp : vp_in p 8) (kq : Q (.inl (some (.int (vX0_hasLine (h 25) (h 26) p)))) (jj_S, 782, h, g)) : jj_R mX0_hasLine (d + 0) kc ks (jj_S, 782, h, g) 0 [(0, .ref 25), (1, .int p)] [] Q := by
  refine rr_aload_n 0 rfl rfl dX0_hasLine_0 ?_
  refine rr_getI dX0_hasLine_1 fX0_33 lo_25 sh_25 rfl ?_
  refine rr_if_le dX0_hasLine_4 (fun c1 => ?_) (fun c1 => ?_)
  · skip
    refine rr_iconst 0 rfl dX0_hasLine_21 ?_
    refine rr_nreturn dX0_hasLine_22 rfl (by first | rfl | assumption) ?_
    simpa only [vX0_hasLine, if_pos c1] using kq
  · skip
    refine rr_aload_n 0 rfl rfl dX0_hasLine_7 ?_
    refine rr_getR dX0_hasLine_8 fX0_9 lo_25 sh_25 rfl ?_
    refine rr_iload_n 1 rfl rfl dX0_hasLine_11 ?_
    refine rr_iaload dX0_hasLine_12 lo_26 sh_26 (by first | assumption | exact vp_in_nI (by omega) (by decide) | decide | omega | exact jj_inL rfl) ?_
    refine rr_iconst (-1) rfl dX0_hasLine_13 ?_
    refine rr_icmp_eq dX0_hasLine_14 (fun c2 => ?_) (fun c2 => ?_)
    · skip
      refine rr_iconst 0 rfl dX0_hasLine_21 ?_
      refine rr_nreturn dX0_hasLine_22 rfl (by first | rfl | assumption) ?_
      simpa only [vX0_hasLine, if_neg c1, if_pos c2] using kq
    · skip
      refine rr_iconst 1 rfl dX0_hasLine_17 ?_
      refine rr_goto dX0_hasLine_18 ?_
      refine rr_nreturn dX0_hasLine_22 rfl (by first | rfl | assumption) ?_
      simpa only [vX0_hasLine, if_neg c1, if_neg c2] using kq
def vX9_isPerson (r1 : Nat → Int32) (p : Int32) : Int32 := (if p < 0 then 0 else (if (r1 0) ≤ p then 0 else 1))
set_option maxHeartbeats 1000000 in
theorem sp_X9_isPerson {d kc ks : Nat} {h : Nat → Nat → Int32} {g : Nat → Nat → Int64} {Q : jj_Rs → jj_St → Prop} {p : Int32} (kq : Q (.inl (some (.int (vX9_isPerson (h 1) p)))) (jj_S, 782, h, g)) : jj_R mX9_isPerson (d + 0) kc ks (jj_S, 782, h, g) 0 [(0, .ref 0), (1, .int p)] [] Q := by
  refine rr_iload_n 1 rfl rfl dX9_isPerson_0 ?_
  refine rr_if_lt dX9_isPerson_1 (fun c1 => ?_) (fun c1 => ?_)
  · skip
    refine rr_iconst 0 rfl dX9_isPerson_19 ?_
    refine rr_nreturn dX9_isPerson_20 rfl (by first | rfl | assumption) ?_
    simpa only [vX9_isPerson, if_pos c1] using kq
  · skip
    refine rr_iload_n 1 rfl rfl dX9_isPerson_4 ?_
    refine rr_aload_n 0 rfl rfl dX9_isPerson_5 ?_
    refine rr_getR dX9_isPerson_6 fX9_27 lo_0 sh_0 rfl ?_
    refine rr_getI dX9_isPerson_9 fX9_132 lo_1 sh_1 rfl ?_
    refine rr_icmp_ge dX9_isPerson_12 (fun c2 => ?_) (fun c2 => ?_)
    · skip
      refine rr_iconst 0 rfl dX9_isPerson_19 ?_
      refine rr_nreturn dX9_isPerson_20 rfl (by first | rfl | assumption) ?_
      simpa only [vX9_isPerson, if_neg c1, if_pos c2] using kq
    · skip
      refine rr_iconst 1 rfl dX9_isPerson_15 ?_
      refine rr_goto dX9_isPerson_16 ?_
      refine rr_nreturn dX9_isPerson_20 rfl (by first | rfl | assumption) ?_
      simpa only [vX9_isPerson, if_neg c1, if_neg c2] using kq
def vX9_isBit (v : Int32) : Int32 := (if v = 0 then 1 else (if v = 1 then 1 else 0))
set_option maxHeartbeats 1000000 in
theorem sp_X9_isBit {d kc ks : Nat} {h : Nat → Nat → Int32} {g : Nat → Nat → Int64} {Q : jj_Rs → jj_St → Prop} {v : Int32} (kq : Q (.inl (some (.int (vX9_isBit v)))) (jj_S, 782, h, g)) : jj_R mX9_isBit (d + 0) kc ks (jj_S, 782, h, g) 0 [(0, .int v)] [] Q := by
  refine rr_iload_n 0 rfl rfl dX9_isBit_0 ?_
  refine rr_if_eq dX9_isBit_1 (fun c1 => ?_) (fun c1 => ?_)
  · skip
    refine rr_iconst 1 rfl dX9_isBit_9 ?_
    refine rr_goto dX9_isBit_10 ?_
    refine rr_nreturn dX9_isBit_14 rfl (by first | rfl | assumption) ?_
    simpa only [vX9_isBit, if_pos c1] using kq
  · skip
    refine rr_iload_n 0 rfl rfl dX9_isBit_4 ?_
    refine rr_iconst 1 rfl dX9_isBit_5 ?_
    refine rr_icmp_ne dX9_isBit_6 (fun c2 => ?_) (fun c2 => ?_)
    · skip
      refine rr_iconst 0 rfl dX9_isBit_13 ?_
      refine rr_nreturn dX9_isBit_14 rfl (by first | rfl | assumption) ?_
      simpa only [vX9_isBit, if_neg c1, if_neg c2] using kq
    · skip
      refine rr_iconst 1 rfl dX9_isBit_9 ?_
      refine rr_goto dX9_isBit_10 ?_
      refine rr_nreturn dX9_isBit_14 rfl (by first | rfl | assumption) ?_
      simpa only [vX9_isBit, if_neg c1, if_pos c2] using kq
def vX9_isWeek (a : Int32) (q : Int32) : Int32 := (if a < 1 then 0 else (if 96 < a then 0 else (if q < 0 then 0 else (if 16 < q then 0 else 1))))
set_option maxHeartbeats 1000000 in
theorem sp_X9_isWeek {d kc ks : Nat} {h : Nat → Nat → Int32} {g : Nat → Nat → Int64} {Q : jj_Rs → jj_St → Prop} {a : Int32} {q : Int32} (kq : Q (.inl (some (.int (vX9_isWeek a q)))) (jj_S, 782, h, g)) : jj_R mX9_isWeek (d + 0) kc ks (jj_S, 782, h, g) 0 [(0, .int a), (1, .int q)] [] Q := by
  refine rr_iload_n 0 rfl rfl dX9_isWeek_0 ?_
  refine rr_iconst 1 rfl dX9_isWeek_1 ?_
  refine rr_icmp_lt dX9_isWeek_2 (fun c1 => ?_) (fun c1 => ?_)
  · skip
    refine rr_iconst 0 rfl dX9_isWeek_25 ?_
    refine rr_nreturn dX9_isWeek_26 rfl (by first | rfl | assumption) ?_
    simpa only [vX9_isWeek, if_pos c1] using kq
  · skip
    refine rr_iload_n 0 rfl rfl dX9_isWeek_5 ?_
    refine rr_bipush 96 rfl dX9_isWeek_6 ?_
    refine rr_icmp_gt dX9_isWeek_8 (fun c2 => ?_) (fun c2 => ?_)
    · skip
      refine rr_iconst 0 rfl dX9_isWeek_25 ?_
      refine rr_nreturn dX9_isWeek_26 rfl (by first | rfl | assumption) ?_
      simpa only [vX9_isWeek, if_neg c1, if_pos c2] using kq
    · skip
      refine rr_iload_n 1 rfl rfl dX9_isWeek_11 ?_
      refine rr_if_lt dX9_isWeek_12 (fun c3 => ?_) (fun c3 => ?_)
      · skip
        refine rr_iconst 0 rfl dX9_isWeek_25 ?_
        refine rr_nreturn dX9_isWeek_26 rfl (by first | rfl | assumption) ?_
        simpa only [vX9_isWeek, if_neg c1, if_neg c2, if_pos c3] using kq
      · skip
        refine rr_iload_n 1 rfl rfl dX9_isWeek_15 ?_
        refine rr_bipush 16 rfl dX9_isWeek_16 ?_
        refine rr_icmp_gt dX9_isWeek_18 (fun c4 => ?_) (fun c4 => ?_)
        · skip
          refine rr_iconst 0 rfl dX9_isWeek_25 ?_
          refine rr_nreturn dX9_isWeek_26 rfl (by first | rfl | assumption) ?_
          simpa only [vX9_isWeek, if_neg c1, if_neg c2, if_neg c3, if_pos c4] using kq
        · skip
          refine rr_iconst 1 rfl dX9_isWeek_21 ?_
          refine rr_goto dX9_isWeek_22 ?_
          refine rr_nreturn dX9_isWeek_26 rfl (by first | rfl | assumption) ?_
          simpa only [vX9_isWeek, if_neg c1, if_neg c2, if_neg c3, if_neg c4] using kq
def vX9_soldierHas (a : Int32) (b : Int32) (v : Int32) (w : Int32) : Int32 := (if a = b then (if a = 0 then (-w) else w) else (if a = 0 then v else 0))
set_option maxHeartbeats 1000000 in
theorem sp_X9_soldierHas {d kc ks : Nat} {h : Nat → Nat → Int32} {g : Nat → Nat → Int64} {Q : jj_Rs → jj_St → Prop} {a : Int32} {b : Int32} {v : Int32} {w : Int32} (kq : Q (.inl (some (.int (vX9_soldierHas a b v w)))) (jj_S, 782, h, g)) : jj_R mX9_soldierHas (d + 0) kc ks (jj_S, 782, h, g) 0 [(0, .int a), (1, .int b), (2, .int v), (3, .int w)] [] Q := by
  refine rr_iload_n 0 rfl rfl dX9_soldierHas_0 ?_
  refine rr_iload_n 1 rfl rfl dX9_soldierHas_1 ?_
  refine rr_icmp_ne dX9_soldierHas_2 (fun c1 => ?_) (fun c1 => ?_)
  · skip
    refine rr_iload_n 0 rfl rfl dX9_soldierHas_16 ?_
    refine rr_if_ne dX9_soldierHas_17 (fun c2 => ?_) (fun c2 => ?_)
    · skip
      refine rr_iconst 0 rfl dX9_soldierHas_24 ?_
      refine rr_ireturn dX9_soldierHas_25 rfl ?_
      simpa only [vX9_soldierHas, if_neg c1, if_neg c2] using kq
    · skip
      refine rr_iload_n 2 rfl rfl dX9_soldierHas_20 ?_
      refine rr_goto dX9_soldierHas_21 ?_
      refine rr_ireturn dX9_soldierHas_25 rfl ?_
      simpa only [vX9_soldierHas, if_neg c1, if_pos c2] using kq
  · skip
    refine rr_iload_n 0 rfl rfl dX9_soldierHas_5 ?_
    refine rr_if_ne dX9_soldierHas_6 (fun c3 => ?_) (fun c3 => ?_)
    · skip
      refine rr_iload_n 3 rfl rfl dX9_soldierHas_14 ?_
      refine rr_ireturn dX9_soldierHas_15 rfl ?_
      simpa only [vX9_soldierHas, if_pos c1, if_neg c3] using kq
    · skip
      refine rr_iload_n 3 rfl rfl dX9_soldierHas_9 ?_
      refine rr_ineg dX9_soldierHas_10 ?_
      refine rr_goto dX9_soldierHas_11 ?_
      refine rr_ireturn dX9_soldierHas_15 rfl ?_
      simpa only [vX9_soldierHas, if_pos c1, if_pos c3] using kq
def vX9_isRest (a : Int32) (b : Int32) (v : Int32) (w : Int32) : Int32 := (if (vX9_soldierHas a b v w) < (vX9_soldierHas (1 - a) b v w) then 0 else (if (vX9_soldierHas b a v w) < (vX9_soldierHas (1 - b) a v w) then 0 else 1))
set_option maxHeartbeats 1000000 in
theorem sp_X9_isRest {d kc ks : Nat} {h : Nat → Nat → Int32} {g : Nat → Nat → Int64} {Q : jj_Rs → jj_St → Prop} {a : Int32} {b : Int32} {v : Int32} {w : Int32} (kq : Q (.inl (some (.int (vX9_isRest a b v w)))) (jj_S, 782, h, g)) : jj_R mX9_isRest (d + 1) kc ks (jj_S, 782, h, g) 0 [(0, .int a), (1, .int b), (2, .int v), (3, .int w)] [] Q := by
  refine rr_iconst 1 rfl dX9_isRest_0 ?_
  refine rr_iload_n 0 rfl rfl dX9_isRest_1 ?_
  refine rr_isub dX9_isRest_2 ?_
  refine rr_iload_n 1 rfl rfl dX9_isRest_3 ?_
  refine rr_iload_n 2 rfl rfl dX9_isRest_4 ?_
  refine rr_iload_n 3 rfl rfl dX9_isRest_5 ?_
  refine rr_callS (As := [.int (1 - a), .int b, .int v, .int w]) (rest := []) (kc2 := 0) (ks2 := 0) dX9_isRest_6 okX9_soldierHas lX9_327 rfl (Nat.le_of_ble_eq_true rfl) (Nat.le_of_ble_eq_true rfl) rfl (by omega) (by simp [jj_rk]) (by simp [jj_rk]) ?_
  refine sp_X9_soldierHas  ?_
  show jj_R _ _ kc ks (jj_S, 782, h, g) 9 [(0, .int a), (1, .int b), (2, .int v), (3, .int w)] [.int (vX9_soldierHas (1 - a) b v w)] Q
  refine rr_iload_n 0 rfl rfl dX9_isRest_9 ?_
  refine rr_iload_n 1 rfl rfl dX9_isRest_10 ?_
  refine rr_iload_n 2 rfl rfl dX9_isRest_11 ?_
  refine rr_iload_n 3 rfl rfl dX9_isRest_12 ?_
  refine rr_callS (As := [.int a, .int b, .int v, .int w]) (rest := [.int (vX9_soldierHas (1 - a) b v w)]) (kc2 := 0) (ks2 := 0) dX9_isRest_13 okX9_soldierHas lX9_327 rfl (Nat.le_of_ble_eq_true rfl) (Nat.le_of_ble_eq_true rfl) rfl (by omega) (by simp [jj_rk]) (by simp [jj_rk]) ?_
  refine sp_X9_soldierHas  ?_
  show jj_R _ _ kc ks (jj_S, 782, h, g) 16 [(0, .int a), (1, .int b), (2, .int v), (3, .int w)] [.int (vX9_soldierHas a b v w), .int (vX9_soldierHas (1 - a) b v w)] Q
  refine rr_icmp_gt dX9_isRest_16 (fun c1 => ?_) (fun c1 => ?_)
  · skip
    refine rr_iconst 0 rfl dX9_isRest_42 ?_
    refine rr_nreturn dX9_isRest_43 rfl (by first | rfl | assumption) ?_
    simpa only [vX9_isRest, if_pos c1] using kq
  · skip
    refine rr_iconst 1 rfl dX9_isRest_19 ?_
    refine rr_iload_n 1 rfl rfl dX9_isRest_20 ?_
    refine rr_isub dX9_isRest_21 ?_
    refine rr_iload_n 0 rfl rfl dX9_isRest_22 ?_
    refine rr_iload_n 2 rfl rfl dX9_isRest_23 ?_
    refine rr_iload_n 3 rfl rfl dX9_isRest_24 ?_
    refine rr_callS (As := [.int (1 - b), .int a, .int v, .int w]) (rest := []) (kc2 := 0) (ks2 := 0) dX9_isRest_25 okX9_soldierHas lX9_327 rfl (Nat.le_of_ble_eq_true rfl) (Nat.le_of_ble_eq_true rfl) rfl (by omega) (by simp [jj_rk]) (by simp [jj_rk]) ?_
    refine sp_X9_soldierHas  ?_
    show jj_R _ _ kc ks (jj_S, 782, h, g) 28 [(0, .int a), (1, .int b), (2, .int v), (3, .int w)] [.int (vX9_soldierHas (1 - b) a v w)] Q
    refine rr_iload_n 1 rfl rfl dX9_isRest_28 ?_
    refine rr_iload_n 0 rfl rfl dX9_isRest_29 ?_
    refine rr_iload_n 2 rfl rfl dX9_isRest_30 ?_
    refine rr_iload_n 3 rfl rfl dX9_isRest_31 ?_
    refine rr_callS (As := [.int b, .int a, .int v, .int w]) (rest := [.int (vX9_soldierHas (1 - b) a v w)]) (kc2 := 0) (ks2 := 0) dX9_isRest_32 okX9_soldierHas lX9_327 rfl (Nat.le_of_ble_eq_true rfl) (Nat.le_of_ble_eq_true rfl) rfl (by omega) (by simp [jj_rk]) (by simp [jj_rk]) ?_
    refine sp_X9_soldierHas  ?_
    show jj_R _ _ kc ks (jj_S, 782, h, g) 35 [(0, .int a), (1, .int b), (2, .int v), (3, .int w)] [.int (vX9_soldierHas b a v w), .int (vX9_soldierHas (1 - b) a v w)] Q
    refine rr_icmp_gt dX9_isRest_35 (fun c2 => ?_) (fun c2 => ?_)
    · skip
      refine rr_iconst 0 rfl dX9_isRest_42 ?_
      refine rr_nreturn dX9_isRest_43 rfl (by first | rfl | assumption) ?_
      simpa only [vX9_isRest, if_neg c1, if_pos c2] using kq
    · skip
      refine rr_iconst 1 rfl dX9_isRest_38 ?_
      refine rr_goto dX9_isRest_39 ?_
      refine rr_nreturn dX9_isRest_43 rfl (by first | rfl | assumption) ?_
      simpa only [vX9_isRest, if_neg c1, if_neg c2] using kq
def vX3_dayBy_n (r38 : Nat → Int32) (r39 : Nat → Int32) (a : Int32) (b : Int32) : Int32 := (if a = b then (r38 0) else (r39 (a : Int32).toNatClampNeg))
set_option maxHeartbeats 1000000 in
theorem sp_X3_dayBy_n {d kc ks : Nat} {h : Nat → Nat → Int32} {g : Nat → Nat → Int64} {Q : jj_Rs → jj_St → Prop} {a : Int32} {b : Int32} (ha : vp_in a 8) (kq : Q (.inl (some (.int (vX3_dayBy_n (h 38) (h 39) a b)))) (jj_S, 782, h, g)) : jj_R mX3_dayBy (d + 0) kc ks (jj_S, 782, h, g) 0 [(0, .ref 38), (1, .int a), (2, .int b)] [] Q := by
  refine rr_iload_n 1 rfl rfl dX3_dayBy_0 ?_
  refine rr_iload_n 2 rfl rfl dX3_dayBy_1 ?_
  refine rr_icmp_ne dX3_dayBy_2 (fun c1 => ?_) (fun c1 => ?_)
  · skip
    refine rr_aload_n 0 rfl rfl dX3_dayBy_12 ?_
    refine rr_getR dX3_dayBy_13 fX3_69 lo_38 sh_38 rfl ?_
    refine rr_iload_n 1 rfl rfl dX3_dayBy_16 ?_
    refine rr_iaload dX3_dayBy_17 lo_39 sh_39 (by first | assumption | exact vp_in_nI (by omega) (by decide) | decide | omega | exact jj_inL rfl) ?_
    refine rr_ireturn dX3_dayBy_18 rfl ?_
    simpa only [vX3_dayBy_n, if_neg c1] using kq
  · skip
    refine rr_aload_n 0 rfl rfl dX3_dayBy_5 ?_
    refine rr_getI dX3_dayBy_6 fX3_46 lo_38 sh_38 rfl ?_
    refine rr_goto dX3_dayBy_9 ?_
    refine rr_ireturn dX3_dayBy_18 rfl ?_
    simpa only [vX3_dayBy_n, if_pos c1] using kq
def vX3_dayBy_t (r43 : Nat → Int32) (r44 : Nat → Int32) (a : Int32) (b : Int32) : Int32 := (if a = b then (r43 0) else (r44 (a : Int32).toNatClampNeg))
set_option maxHeartbeats 1000000 in
theorem sp_X3_dayBy_t {d kc ks : Nat} {h : Nat → Nat → Int32} {g : Nat → Nat → Int64} {Q : jj_Rs → jj_St → Prop} {a : Int32} {b : Int32} (ha : vp_in a 8) (kq : Q (.inl (some (.int (vX3_dayBy_t (h 43) (h 44) a b)))) (jj_S, 782, h, g)) : jj_R mX3_dayBy (d + 0) kc ks (jj_S, 782, h, g) 0 [(0, .ref 43), (1, .int a), (2, .int b)] [] Q := by
  refine rr_iload_n 1 rfl rfl dX3_dayBy_0 ?_
  refine rr_iload_n 2 rfl rfl dX3_dayBy_1 ?_
  refine rr_icmp_ne dX3_dayBy_2 (fun c1 => ?_) (fun c1 => ?_)
  · skip
    refine rr_aload_n 0 rfl rfl dX3_dayBy_12 ?_
    refine rr_getR dX3_dayBy_13 fX3_69 lo_43 sh_43 rfl ?_
    refine rr_iload_n 1 rfl rfl dX3_dayBy_16 ?_
    refine rr_iaload dX3_dayBy_17 lo_44 sh_44 (by first | assumption | exact vp_in_nI (by omega) (by decide) | decide | omega | exact jj_inL rfl) ?_
    refine rr_ireturn dX3_dayBy_18 rfl ?_
    simpa only [vX3_dayBy_t, if_neg c1] using kq
  · skip
    refine rr_aload_n 0 rfl rfl dX3_dayBy_5 ?_
    refine rr_getI dX3_dayBy_6 fX3_46 lo_43 sh_43 rfl ?_
    refine rr_goto dX3_dayBy_9 ?_
    refine rr_ireturn dX3_dayBy_18 rfl ?_
    simpa only [vX3_dayBy_t, if_pos c1] using kq
