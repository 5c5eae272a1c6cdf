def rX2_keepIfBetter_30 (r30 : Nat → Int32) (r32 : Nat → Int32) (r33 : Nat → Int32) (v : Int32) (w : Int32) : Nat → Int32 := (if (r30 5) < v then (upd (upd r30 (5) v) (6) w) else (if v = (r30 5) then (if w ≤ (r30 6) then r30 else (upd (upd r30 (5) v) (6) w)) else r30))
def rX2_keepIfBetter_33 (r30 : Nat → Int32) (r32 : Nat → Int32) (r33 : Nat → Int32) (v : Int32) (w : Int32) : Nat → Int32 := (if (r30 5) < v then (va_cpy r32 r33 (0 : Int32).toNatClampNeg (0 : Int32).toNatClampNeg (8 : Int32).toNatClampNeg) else (if v = (r30 5) then (if w ≤ (r30 6) then r33 else (va_cpy r32 r33 (0 : Int32).toNatClampNeg (0 : Int32).toNatClampNeg (8 : Int32).toNatClampNeg)) else r33))
set_option maxHeartbeats 1000000 in
theorem sp_X2_keepIfBetter {d kc ks : Nat} {h : Nat → Nat → Int32} {g : Nat → Nat → Int64} {Q : jj_Rs → jj_St → Prop} {v : Int32} {w : Int32} (kq : Q (.inl none) (jj_S, 782, (jj_rs h [(30, (rX2_keepIfBetter_30 (h 30) (h 32) (h 33) v w)), (33, (rX2_keepIfBetter_33 (h 30) (h 32) (h 33) v w))]), g)) : jj_R mX2_keepIfBetter (d + 1) kc ks (jj_S, 782, h, g) 0 [(0, .ref 30), (1, .int v), (2, .int w)] [] Q := by
  refine rr_iload_n 1 rfl rfl dX2_keepIfBetter_0 ?_
  refine rr_aload_n 0 rfl rfl dX2_keepIfBetter_1 ?_
  refine rr_getI dX2_keepIfBetter_2 fX2_29 lo_30 sh_30 rfl ?_
  refine rr_icmp_gt dX2_keepIfBetter_5 (fun c1 => ?_) (fun c1 => ?_)
  · skip
    refine rr_aload_n 0 rfl rfl dX2_keepIfBetter_24 ?_
    refine rr_iload_n 1 rfl rfl dX2_keepIfBetter_25 ?_
    refine rr_putI dX2_keepIfBetter_26 fX2_29 ni2_5 lo_30 sh_30 rfl ?_
    rw [jj_rs_set0 (B := h) (o := 30) (r := (h 30)) rfl]
    refine rr_aload_n 0 rfl rfl dX2_keepIfBetter_29 ?_
    refine rr_iload_n 2 rfl rfl dX2_keepIfBetter_30 ?_
    refine rr_putI dX2_keepIfBetter_31 fX2_33 ni2_6 lo_30 sh_30 rfl ?_
    rw [jj_rs_set (B := h) (L := [(30, (upd (h 30) (5) v))]) (L2 := [(30, (upd (upd (h 30) (5) v) (6) w))]) (r := (upd (h 30) (5) v)) rfl rfl]
    refine rr_aload_n 0 rfl rfl dX2_keepIfBetter_34 ?_
    refine rr_getR dX2_keepIfBetter_35 fX2_15 lo_30 sh_30 rfl ?_
    refine rr_iconst 0 rfl dX2_keepIfBetter_38 ?_
    refine rr_aload_n 0 rfl rfl dX2_keepIfBetter_39 ?_
    refine rr_getR dX2_keepIfBetter_40 fX2_18 lo_30 sh_30 rfl ?_
    refine rr_iconst 0 rfl dX2_keepIfBetter_43 ?_
    refine rr_bipush 8 rfl dX2_keepIfBetter_44 ?_
    refine rr_copy (st := []) dX2_keepIfBetter_46 lX2_59 (Nat.le_of_ble_eq_true rfl) lo_32 lo_33 sh_32 sh_33 (by first | assumption | exact jj_pers hP hn (by assumption) | exact vp_in_nI (by omega) (by decide) | decide | omega) (by first | assumption | exact jj_pers hP hn (by assumption) | exact vp_in_nI (by omega) (by decide) | decide | omega) (by first | assumption | exact jj_pers hP hn (by assumption) | exact vp_in_nI (by omega) (by decide) | decide | omega) (by first | assumption | exact jj_pers hP hn (by assumption) | exact vp_in_nI (by omega) (by decide) | decide | omega) (by first | assumption | exact jj_pers hP hn (by assumption) | exact vp_in_nI (by omega) (by decide) | decide | omega) ?_
    rw [jj_rs_cp (B := h) (L := [(30, (upd (upd (h 30) (5) v) (6) w))]) (L2 := [(30, (upd (upd (h 30) (5) v) (6) w)), (33, (va_cpy (h 32) (h 33) (0 : Int32).toNatClampNeg (0 : Int32).toNatClampNeg (8 : Int32).toNatClampNeg))]) (f := (h 32)) (r := (h 33)) rfl rfl rfl]
    refine rr_return dX2_keepIfBetter_49 rfl ?_
    simpa only [rX2_keepIfBetter_30, rX2_keepIfBetter_33, if_pos c1] using kq
  · skip
    refine rr_iload_n 1 rfl rfl dX2_keepIfBetter_8 ?_
    refine rr_aload_n 0 rfl rfl dX2_keepIfBetter_9 ?_
    refine rr_getI dX2_keepIfBetter_10 fX2_29 lo_30 sh_30 rfl ?_
    refine rr_icmp_ne dX2_keepIfBetter_13 (fun c2 => ?_) (fun c2 => ?_)
    · skip
      refine rr_return dX2_keepIfBetter_49 rfl ?_
      refine jj_Qh (jj_addr (B := h) (o := 30) (r := (h 30)) rfl) ?_
      refine jj_Qh (jj_rs_add (B := h) (L := [(30, (h 30))]) (L2 := [(30, (h 30)), (33, (h 33))]) (o := 33) (r := (h 33)) rfl rfl) ?_
      simpa only [rX2_keepIfBetter_30, rX2_keepIfBetter_33, if_neg c1, if_neg c2] using kq
    · skip
      refine rr_iload_n 2 rfl rfl dX2_keepIfBetter_16 ?_
      refine rr_aload_n 0 rfl rfl dX2_keepIfBetter_17 ?_
      refine rr_getI dX2_keepIfBetter_18 fX2_33 lo_30 sh_30 rfl ?_
      refine rr_icmp_le dX2_keepIfBetter_21 (fun c3 => ?_) (fun c3 => ?_)
      · skip
        refine rr_return dX2_keepIfBetter_49 rfl ?_
        refine jj_Qh (jj_addr (B := h) (o := 30) (r := (h 30)) rfl) ?_
        refine jj_Qh (jj_rs_add (B := h) (L := [(30, (h 30))]) (L2 := [(30, (h 30)), (33, (h 33))]) (o := 33) (r := (h 33)) rfl rfl) ?_
        simpa only [rX2_keepIfBetter_30, rX2_keepIfBetter_33, if_neg c1, if_pos c2, if_pos c3] using kq
      · skip
        refine rr_aload_n 0 rfl rfl dX2_keepIfBetter_24 ?_
        refine rr_iload_n 1 rfl rfl dX2_keepIfBetter_25 ?_
        refine rr_putI dX2_keepIfBetter_26 fX2_29 ni2_5 lo_30 sh_30 rfl ?_
        rw [jj_rs_set0 (B := h) (o := 30) (r := (h 30)) rfl]
        refine rr_aload_n 0 rfl rfl dX2_keepIfBetter_29 ?_
        refine rr_iload_n 2 rfl rfl dX2_keepIfBetter_30 ?_
        refine rr_putI dX2_keepIfBetter_31 fX2_33 ni2_6 lo_30 sh_30 rfl ?_
        rw [jj_rs_set (B := h) (L := [(30, (upd (h 30) (5) v))]) (L2 := [(30, (upd (upd (h 30) (5) v) (6) w))]) (r := (upd (h 30) (5) v)) rfl rfl]
        refine rr_aload_n 0 rfl rfl dX2_keepIfBetter_34 ?_
        refine rr_getR dX2_keepIfBetter_35 fX2_15 lo_30 sh_30 rfl ?_
        refine rr_iconst 0 rfl dX2_keepIfBetter_38 ?_
        refine rr_aload_n 0 rfl rfl dX2_keepIfBetter_39 ?_
        refine rr_getR dX2_keepIfBetter_40 fX2_18 lo_30 sh_30 rfl ?_
        refine rr_iconst 0 rfl dX2_keepIfBetter_43 ?_
        refine rr_bipush 8 rfl dX2_keepIfBetter_44 ?_
        refine rr_copy (st := []) dX2_keepIfBetter_46 lX2_59 (Nat.le_of_ble_eq_true rfl) lo_32 lo_33 sh_32 sh_33 (by first | assumption | exact jj_pers hP hn (by assumption) | exact vp_in_nI (by omega) (by decide) | decide | omega) (by first | assumption | exact jj_pers hP hn (by assumption) | exact vp_in_nI (by omega) (by decide) | decide | omega) (by first | assumption | exact jj_pers hP hn (by assumption) | exact vp_in_nI (by omega) (by decide) | decide | omega) (by first | assumption | exact jj_pers hP hn (by assumption) | exact vp_in_nI (by omega) (by decide) | decide | omega) (by first | assumption | exact jj_pers hP hn (by assumption) | exact vp_in_nI (by omega) (by decide) | decide | omega) ?_
        rw [jj_rs_cp (B := h) (L := [(30, (upd (upd (h 30) (5) v) (6) w))]) (L2 := [(30, (upd (upd (h 30) (5) v) (6) w)), (33, (va_cpy (h 32) (h 33) (0 : Int32).toNatClampNeg (0 : Int32).toNatClampNeg (8 : Int32).toNatClampNeg))]) (f := (h 32)) (r := (h 33)) rfl rfl rfl]
        refine rr_return dX2_keepIfBetter_49 rfl ?_
        simpa only [rX2_keepIfBetter_30, rX2_keepIfBetter_33, if_neg c1, if_pos c2, if_neg c3] using kq
def rkn0_30 (r30 : Nat → Int32) (r32 : Nat → Int32) (r33 : Nat → Int32) (n : Nat) (v : Int32) (w : Int32) : Nat → Int32 := (if (r30 5) ≤ ((v + (nI n)) - (nI n)) then (rX2_keepIfBetter_30 r30 r32 r33 v w) else r30)
def rkn0_33 (r30 : Nat → Int32) (r32 : Nat → Int32) (r33 : Nat → Int32) (n : Nat) (v : Int32) (w : Int32) : Nat → Int32 := (if (r30 5) ≤ ((v + (nI n)) - (nI n)) then (rX2_keepIfBetter_33 r30 r32 r33 v w) else r33)
set_option maxHeartbeats 1000000 in
theorem sp_kn0 {d kc ks : Nat} {h : Nat → Nat → Int32} {g : Nat → Nat → Int64} {Q : jj_Rs → jj_St → Prop} {n : Nat} {b : Int32} {v : Int32} {w : Int32} (hP : h 1 0 = nI n) (hn : n ≤ 8) (kq : Q (.inl none) (jj_S, 782, (jj_rs h [(30, (rkn0_30 (h 30) (h 32) (h 33) n v w)), (33, (rkn0_33 (h 30) (h 32) (h 33) n v w))]), g)) : jj_R mX2_chooseFor (d + 2) kc ks (jj_S, 782, h, g) 0 [(0, .ref 30), (1, .ref 38), (2, .int (nI n)), (3, .int b), (4, .int v), (5, .int w)] [] Q := by
  refine rr_iload 4 rfl dX2_chooseFor_0 ?_
  refine rr_aload_n 0 rfl rfl dX2_chooseFor_2 ?_
  refine rr_getR dX2_chooseFor_3 fX2_21 lo_30 sh_30 rfl ?_
  refine rr_getI dX2_chooseFor_6 fX2_36 lo_1 sh_1 rfl ?_
  rw [hP]
  refine rr_iadd dX2_chooseFor_9 ?_
  refine rr_iload_n 2 rfl rfl dX2_chooseFor_10 ?_
  refine rr_isub dX2_chooseFor_11 ?_
  refine rr_aload_n 0 rfl rfl dX2_chooseFor_12 ?_
  refine rr_getI dX2_chooseFor_13 fX2_29 lo_30 sh_30 rfl ?_
  refine rr_icmp_ge dX2_chooseFor_16 (fun c1 => ?_) (fun c1 => ?_)
  · skip
    refine rr_iload_n 2 rfl rfl dX2_chooseFor_20 ?_
    refine rr_aload_n 0 rfl rfl dX2_chooseFor_21 ?_
    refine rr_getR dX2_chooseFor_22 fX2_21 lo_30 sh_30 rfl ?_
    refine rr_getI dX2_chooseFor_25 fX2_36 lo_1 sh_1 rfl ?_
    rw [hP]
    refine rr_icmp_ge dX2_chooseFor_28 (fun _ => ?_) (fun c => absurd (jj_le_rf _) c)
    refine rr_aload_n 0 rfl rfl dX2_chooseFor_37 ?_
    refine rr_iload 4 rfl dX2_chooseFor_38 ?_
    refine rr_iload 5 rfl dX2_chooseFor_40 ?_
    refine rr_callV (As := [.int v, .int w]) (rest := []) (kc2 := 0) (ks2 := 0) dX2_chooseFor_42 okX2_keepIfBetter lX2_51 lo_30 sh_30 rfl rfl (Nat.le_of_ble_eq_true rfl) (Nat.le_of_ble_eq_true rfl) rfl (by omega) (by simp [jj_rk]) (by simp [jj_rk]) ?_
    refine sp_X2_keepIfBetter  ?_
    show jj_R _ _ kc ks (jj_S, 782, (jj_rs h [(30, (rX2_keepIfBetter_30 (h 30) (h 32) (h 33) v w)), (33, (rX2_keepIfBetter_33 (h 30) (h 32) (h 33) v w))]), g) 45 [(0, .ref 30), (1, .ref 38), (2, .int (nI n)), (3, .int b), (4, .int v), (5, .int w)] [] Q
    refine rr_return dX2_chooseFor_45 rfl ?_
    simpa only [rkn0_30, rkn0_33, if_pos c1] using kq
  · skip
    refine rr_return dX2_chooseFor_19 rfl ?_
    refine jj_Qh (jj_addr (B := h) (o := 30) (r := (h 30)) rfl) ?_
    refine jj_Qh (jj_rs_add (B := h) (L := [(30, (h 30))]) (L2 := [(30, (h 30)), (33, (h 33))]) (o := 33) (r := (h 33)) rfl rfl) ?_
    simpa only [rkn0_30, rkn0_33, if_neg c1] using kq
def fkn1_1 (r31 : Nat → Int32) (r38 : Nat → Int32) (r39 : Nat → Int32) (K : Nat → Int32 → Int32 → Int32 → (Nat → Int32) → (Nat → Int32) → (Nat → Int32) → (Nat → Int32) × (Nat → Int32) × (Nat → Int32)) (P : Nat) (b : Int32) (v : Int32) (w : Int32) (k1 : Nat) (a1 : (Nat → Int32) × (Nat → Int32) × (Nat → Int32)) : (Nat → Int32) × (Nat → Int32) × (Nat → Int32) := (if (((r31 ((nI P) : Int32).toNatClampNeg) &&& (b ^^^ ((-1) : Int32))) &&& (1 <<< ((nI k1) &&& 31))) = 0 then (a1.1, a1.2.1, a1.2.2) else ((K (P + 1) (b ||| (1 <<< ((nI k1) &&& 31))) (v + 1) (w + (vX3_dayBy_n r38 r39 (nI k1) (nI P))) a1.1 (upd a1.2.1 (((nI P) : Int32).toNatClampNeg) (nI k1)) a1.2.2).1, (K (P + 1) (b ||| (1 <<< ((nI k1) &&& 31))) (v + 1) (w + (vX3_dayBy_n r38 r39 (nI k1) (nI P))) a1.1 (upd a1.2.1 (((nI P) : Int32).toNatClampNeg) (nI k1)) a1.2.2).2.1, (K (P + 1) (b ||| (1 <<< ((nI k1) &&& 31))) (v + 1) (w + (vX3_dayBy_n r38 r39 (nI k1) (nI P))) a1.1 (upd a1.2.1 (((nI P) : Int32).toNatClampNeg) (nI k1)) a1.2.2).2.2))
def rkn1_30 (r30 : Nat → Int32) (r31 : Nat → Int32) (r32 : Nat → Int32) (r33 : Nat → Int32) (r38 : Nat → Int32) (r39 : Nat → Int32) (n : Nat) (K : Nat → Int32 → Int32 → Int32 → (Nat → Int32) → (Nat → Int32) → (Nat → Int32) → (Nat → Int32) × (Nat → Int32) × (Nat → Int32)) (P : Nat) (b : Int32) (v : Int32) (w : Int32) : Nat → Int32 := (if (r30 5) ≤ ((v + (nI n)) - (nI P)) then (K (P + 1) b v w ((jj_fo (fkn1_1 r31 r38 r39 K P b v w) n (r30, r32, r33)).1) (upd (jj_fo (fkn1_1 r31 r38 r39 K P b v w) n (r30, r32, r33)).2.1 (((nI P) : Int32).toNatClampNeg) (-1)) ((jj_fo (fkn1_1 r31 r38 r39 K P b v w) n (r30, r32, r33)).2.2)).1 else r30)
def rkn1_32 (r30 : Nat → Int32) (r31 : Nat → Int32) (r32 : Nat → Int32) (r33 : Nat → Int32) (r38 : Nat → Int32) (r39 : Nat → Int32) (n : Nat) (K : Nat → Int32 → Int32 → Int32 → (Nat → Int32) → (Nat → Int32) → (Nat → Int32) → (Nat → Int32) × (Nat → Int32) × (Nat → Int32)) (P : Nat) (b : Int32) (v : Int32) (w : Int32) : Nat → Int32 := (if (r30 5) ≤ ((v + (nI n)) - (nI P)) then (K (P + 1) b v w ((jj_fo (fkn1_1 r31 r38 r39 K P b v w) n (r30, r32, r33)).1) (upd (jj_fo (fkn1_1 r31 r38 r39 K P b v w) n (r30, r32, r33)).2.1 (((nI P) : Int32).toNatClampNeg) (-1)) ((jj_fo (fkn1_1 r31 r38 r39 K P b v w) n (r30, r32, r33)).2.2)).2.1 else r32)
def rkn1_33 (r30 : Nat → Int32) (r31 : Nat → Int32) (r32 : Nat → Int32) (r33 : Nat → Int32) (r38 : Nat → Int32) (r39 : Nat → Int32) (n : Nat) (K : Nat → Int32 → Int32 → Int32 → (Nat → Int32) → (Nat → Int32) → (Nat → Int32) → (Nat → Int32) × (Nat → Int32) × (Nat → Int32)) (P : Nat) (b : Int32) (v : Int32) (w : Int32) : Nat → Int32 := (if (r30 5) ≤ ((v + (nI n)) - (nI P)) then (K (P + 1) b v w ((jj_fo (fkn1_1 r31 r38 r39 K P b v w) n (r30, r32, r33)).1) (upd (jj_fo (fkn1_1 r31 r38 r39 K P b v w) n (r30, r32, r33)).2.1 (((nI P) : Int32).toNatClampNeg) (-1)) ((jj_fo (fkn1_1 r31 r38 r39 K P b v w) n (r30, r32, r33)).2.2)).2.2 else r33)
set_option maxHeartbeats 1000000 in
theorem sp_kn1 {d kc ks : Nat} {h : Nat → Nat → Int32} {g : Nat → Nat → Int64} {Q : jj_Rs → jj_St → Prop} {n : Nat} {K : Nat → Int32 → Int32 → Int32 → (Nat → Int32) → (Nat → Int32) → (Nat → Int32) → (Nat → Int32) × (Nat → Int32) × (Nat → Int32)} {P : Nat} {b : Int32} {v : Int32} {w : Int32} (hP : h 1 0 = nI n) (hn : n ≤ 8) (hp : P < n) (ih : ∀ {kc ks : Nat} {h2 : Nat → Nat → Int32} {g : Nat → Nat → Int64} {Q : jj_Rs → jj_St → Prop} {b v w : Int32}, h2 1 0 = nI n → h2 31 = h 31 → h2 38 = h 38 → h2 39 = h 39 → Q (.inl none) (jj_S, 782, jj_rs h2 [(30, (K (P + 1) b v w (h2 30) (h2 32) (h2 33)).1), (32, (K (P + 1) b v w (h2 30) (h2 32) (h2 33)).2.1), (33, (K (P + 1) b v w (h2 30) (h2 32) (h2 33)).2.2)], g) → jj_R mX2_chooseFor (d + 3) kc ks (jj_S, 782, h2, g) 0 [(0, .ref 30), (1, .ref 38), (2, .int (nI (P + 1))), (3, .int b), (4, .int v), (5, .int w)] [] Q) (kq : Q (.inl none) (jj_S, 782, (jj_rs h [(30, (rkn1_30 (h 30) (h 31) (h 32) (h 33) (h 38) (h 39) n K P b v w)), (32, (rkn1_32 (h 30) (h 31) (h 32) (h 33) (h 38) (h 39) n K P b v w)), (33, (rkn1_33 (h 30) (h 31) (h 32) (h 33) (h 38) (h 39) n K P b v w))]), g)) : jj_R mX2_chooseFor (d + 4) kc ks (jj_S, 782, h, g) 0 [(0, .ref 30), (1, .ref 38), (2, .int (nI P)), (3, .int b), (4, .int v), (5, .int w)] [] Q := by
  refine rr_iload 4 rfl dX2_chooseFor_0 ?_
  refine rr_aload_n 0 rfl rfl dX2_chooseFor_2 ?_
  refine rr_getR dX2_chooseFor_3 fX2_21 lo_30 sh_30 rfl ?_
  refine rr_getI dX2_chooseFor_6 fX2_36 lo_1 sh_1 rfl ?_
  rw [hP]
  refine rr_iadd dX2_chooseFor_9 ?_
  refine rr_iload_n 2 rfl rfl dX2_chooseFor_10 ?_
  refine rr_isub dX2_chooseFor_11 ?_
  refine rr_aload_n 0 rfl rfl dX2_chooseFor_12 ?_
  refine rr_getI dX2_chooseFor_13 fX2_29 lo_30 sh_30 rfl ?_
  refine rr_icmp_ge dX2_chooseFor_16 (fun c1 => ?_) (fun c1 => ?_)
  · skip
    refine rr_iload_n 2 rfl rfl dX2_chooseFor_20 ?_
    refine rr_aload_n 0 rfl rfl dX2_chooseFor_21 ?_
    refine rr_getR dX2_chooseFor_22 fX2_21 lo_30 sh_30 rfl ?_
    refine rr_getI dX2_chooseFor_25 fX2_36 lo_1 sh_1 rfl ?_
    rw [hP]
    refine rr_icmp_ge dX2_chooseFor_28 (fun c => absurd c (nI_ge (a := P) (b := n) (by omega) (by omega))) (fun _ => ?_)
    refine rr_iload_n 2 rfl rfl dX2_chooseFor_31 ?_
    refine rr_bipush 8 rfl dX2_chooseFor_32 ?_
    refine rr_icmp_lt dX2_chooseFor_34 (fun _ => ?_) (fun c => absurd (nI_lt (a := P) (b := 8) (by omega) (by decide)) c)
    refine rr_iconst 0 rfl dX2_chooseFor_46 ?_
    refine rr_istore [(0, .ref 30), (1, .ref 38), (2, .int (nI P)), (3, .int b), (4, .int v), (5, .int w), (6, .int 0)] dX2_chooseFor_47 (by decide) rfl ?_
    refine jj_Rh (jj_addr (B := h) (o := 30) (r := (h 30)) rfl) ?_
    refine jj_Rh (jj_rs_add (B := h) (L := [(30, (h 30))]) (L2 := [(30, (h 30)), (32, (h 32))]) (o := 32) (r := (h 32)) rfl rfl) ?_
    refine jj_Rh (jj_rs_add (B := h) (L := [(30, (h 30)), (32, (h 32))]) (L2 := [(30, (h 30)), (32, (h 32)), (33, (h 33))]) (o := 33) (r := (h 33)) rfl rfl) ?_
    refine jj_for (fun k1 (a1 : (Nat → Int32) × (Nat → Int32) × (Nat → Int32)) => jj_R _ _ kc ks (jj_S, 782, (jj_rs h [(30, a1.1), (32, a1.2.1), (33, a1.2.2)]), g) 49 [(0, .ref 30), (1, .ref 38), (2, .int (nI P)), (3, .int b), (4, .int v), (5, .int w), (6, .int (nI k1))] [] Q) (fkn1_1 (h 31) (h 38) (h 39) K P b v w) n ((h 30), (h 32), (h 33)) ?_ ?_
    · intro k1 hk1 ih1
      generalize jj_fo _ k1 _ = a1 at ih1 ⊢
      try dsimp only at ih1 ⊢
      refine rr_iload 6 rfl dX2_chooseFor_49 ?_
      refine rr_aload_n 0 rfl rfl dX2_chooseFor_51 ?_
      refine rr_getR dX2_chooseFor_52 fX2_21 lo_30 sh_30 rfl ?_
      refine rr_getI dX2_chooseFor_55 fX2_36 lo_1 sh_1 rfl ?_
      rw [show (jj_rs h [(30, a1.1), (32, a1.2.1), (33, a1.2.2)]) 1 = h 1 from rfl]
      rw [hP]
      refine rr_icmp_ge dX2_chooseFor_58 (fun c => absurd c (nI_ge (a := k1) (b := n) (by omega) (by omega))) (fun _ => ?_)
      refine rr_aload_n 0 rfl rfl dX2_chooseFor_61 ?_
      refine rr_getR dX2_chooseFor_62 fX2_9 lo_30 sh_30 rfl ?_
      refine rr_iload_n 2 rfl rfl dX2_chooseFor_65 ?_
      refine rr_iaload dX2_chooseFor_66 lo_31 sh_31 (by first | assumption | exact jj_pers hP hn (by assumption) | exact vp_in_nI (by omega) (by decide) | decide | omega) ?_
      rw [show (jj_rs h [(30, a1.1), (32, a1.2.1), (33, a1.2.2)]) 31 = h 31 from rfl]
      refine rr_iload_n 3 rfl rfl dX2_chooseFor_67 ?_
      refine rr_iconst (-1) rfl dX2_chooseFor_68 ?_
      refine rr_ixor dX2_chooseFor_69 ?_
      refine rr_iand dX2_chooseFor_70 ?_
      refine rr_iconst 1 rfl dX2_chooseFor_71 ?_
      refine rr_iload 6 rfl dX2_chooseFor_72 ?_
      refine rr_ishl dX2_chooseFor_74 ?_
      refine rr_iand dX2_chooseFor_75 ?_
      refine rr_if_eq dX2_chooseFor_76 (fun c2 => ?_) (fun c2 => ?_)
      · skip
        refine rr_iinc 6 1 [(0, .ref 30), (1, .ref 38), (2, .int (nI P)), (3, .int b), (4, .int v), (5, .int w), (6, .int ((nI k1) + 1))] dX2_chooseFor_115 rfl rfl (by decide) rfl ?_
        refine rr_goto dX2_chooseFor_118 ?_
        try simp only [(nI_clamp (show k1 < 2 ^ 31 by omega))] at c2
        simpa only [nI_1, (nI_clamp (show k1 < 2 ^ 31 by omega)), fkn1_1, if_pos c2] using ih1
      · skip
        refine rr_aload_n 0 rfl rfl dX2_chooseFor_79 ?_
        refine rr_getR dX2_chooseFor_80 fX2_15 lo_30 sh_30 rfl ?_
        refine rr_iload_n 2 rfl rfl dX2_chooseFor_83 ?_
        refine rr_iload 6 rfl dX2_chooseFor_84 ?_
        refine rr_iastore dX2_chooseFor_86 lo_32 sh_32 (by first | assumption | exact jj_pers hP hn (by assumption) | exact vp_in_nI (by omega) (by decide) | decide | omega) ?_
        rw [jj_rs_set (B := h) (L := [(30, a1.1), (32, a1.2.1), (33, a1.2.2)]) (L2 := [(30, a1.1), (32, (upd a1.2.1 (((nI P) : Int32).toNatClampNeg) (nI k1))), (33, a1.2.2)]) (r := a1.2.1) rfl rfl]
        refine rr_aload_n 0 rfl rfl dX2_chooseFor_87 ?_
        refine rr_aload_n 1 rfl rfl dX2_chooseFor_88 ?_
        refine rr_iload_n 2 rfl rfl dX2_chooseFor_89 ?_
        refine rr_iconst 1 rfl dX2_chooseFor_90 ?_
        refine rr_iadd dX2_chooseFor_91 ?_
        rw [show ((nI P) + 1 : Int32) = (nI (P + 1)) from nI_add (P) (1)]
        refine rr_iload_n 3 rfl rfl dX2_chooseFor_92 ?_
        refine rr_iconst 1 rfl dX2_chooseFor_93 ?_
        refine rr_iload 6 rfl dX2_chooseFor_94 ?_
        refine rr_ishl dX2_chooseFor_96 ?_
        refine rr_ior dX2_chooseFor_97 ?_
        refine rr_iload 4 rfl dX2_chooseFor_98 ?_
        refine rr_iconst 1 rfl dX2_chooseFor_100 ?_
        refine rr_iadd dX2_chooseFor_101 ?_
        refine rr_iload 5 rfl dX2_chooseFor_102 ?_
        refine rr_aload_n 1 rfl rfl dX2_chooseFor_104 ?_
        refine rr_iload 6 rfl dX2_chooseFor_105 ?_
        refine rr_iload_n 2 rfl rfl dX2_chooseFor_107 ?_
        refine rr_callS (As := [.ref 38, .int (nI k1), .int (nI P)]) (rest := [.int w, .int (v + 1), .int (b ||| (1 <<< ((nI k1) &&& 31))), .int (nI (P + 1)), .ref 38, .ref 30]) (kc2 := 0) (ks2 := 0) dX2_chooseFor_108 okX3_dayBy lX2_55 rfl (Nat.le_of_ble_eq_true rfl) (Nat.le_of_ble_eq_true rfl) rfl (by omega) (by simp [jj_rk]) (by simp [jj_rk]) ?_
        refine sp_X3_dayBy_n (by first | assumption | (rw [show (jj_rs h [(30, a1.1), (32, (upd a1.2.1 (((nI P) : Int32).toNatClampNeg) (nI k1))), (33, a1.2.2)]) 7 = h 7 from rfl]; assumption) | (rw [show (jj_rs h [(30, a1.1), (32, (upd a1.2.1 (((nI P) : Int32).toNatClampNeg) (nI k1))), (33, a1.2.2)]) 1 = h 1 from rfl]; assumption) | exact jj_pers hP hn (by assumption) | exact vp_in_nI (by omega) (by decide) | decide | omega) ?_
        show jj_R _ _ kc ks (jj_S, 782, (jj_rs h [(30, a1.1), (32, (upd a1.2.1 (((nI P) : Int32).toNatClampNeg) (nI k1))), (33, a1.2.2)]), g) 111 [(0, .ref 30), (1, .ref 38), (2, .int (nI P)), (3, .int b), (4, .int v), (5, .int w), (6, .int (nI k1))] [.int (vX3_dayBy_n (h 38) (h 39) (nI k1) (nI P)), .int w, .int (v + 1), .int (b ||| (1 <<< ((nI k1) &&& 31))), .int (nI (P + 1)), .ref 38, .ref 30] Q
        refine rr_iadd dX2_chooseFor_111 ?_
        refine rr_callV (As := [.ref 38, .int (nI (P + 1)), .int (b ||| (1 <<< ((nI k1) &&& 31))), .int (v + 1), .int (w + (vX3_dayBy_n (h 38) (h 39) (nI k1) (nI P)))]) (rest := []) (kc2 := 0) (ks2 := 0) dX2_chooseFor_112 okX2_chooseFor lX2_47 lo_30 sh_30 rfl rfl (Nat.le_of_ble_eq_true rfl) (Nat.le_of_ble_eq_true rfl) rfl (by omega) (by simp [jj_rk]) (by simp [jj_rk]) ?_
        refine ih hP rfl rfl rfl ?_
        show jj_R _ _ kc ks (jj_S, 782, (jj_rs (jj_rs h [(30, a1.1), (32, (upd a1.2.1 (((nI P) : Int32).toNatClampNeg) (nI k1))), (33, a1.2.2)]) [(30, (K (P + 1) (b ||| (1 <<< ((nI k1) &&& 31))) (v + 1) (w + (vX3_dayBy_n (h 38) (h 39) (nI k1) (nI P))) a1.1 (upd a1.2.1 (((nI P) : Int32).toNatClampNeg) (nI k1)) a1.2.2).1), (32, (K (P + 1) (b ||| (1 <<< ((nI k1) &&& 31))) (v + 1) (w + (vX3_dayBy_n (h 38) (h 39) (nI k1) (nI P))) a1.1 (upd a1.2.1 (((nI P) : Int32).toNatClampNeg) (nI k1)) a1.2.2).2.1), (33, (K (P + 1) (b ||| (1 <<< ((nI k1) &&& 31))) (v + 1) (w + (vX3_dayBy_n (h 38) (h 39) (nI k1) (nI P))) a1.1 (upd a1.2.1 (((nI P) : Int32).toNatClampNeg) (nI k1)) a1.2.2).2.2)]), g) 115 [(0, .ref 30), (1, .ref 38), (2, .int (nI P)), (3, .int b), (4, .int v), (5, .int w), (6, .int (nI k1))] [] Q
        rw [jj_rs_rs (B := h) (L := [(30, a1.1), (32, (upd a1.2.1 (((nI P) : Int32).toNatClampNeg) (nI k1))), (33, a1.2.2)]) (M := [(30, (K (P + 1) (b ||| (1 <<< ((nI k1) &&& 31))) (v + 1) (w + (vX3_dayBy_n (h 38) (h 39) (nI k1) (nI P))) a1.1 (upd a1.2.1 (((nI P) : Int32).toNatClampNeg) (nI k1)) a1.2.2).1), (32, (K (P + 1) (b ||| (1 <<< ((nI k1) &&& 31))) (v + 1) (w + (vX3_dayBy_n (h 38) (h 39) (nI k1) (nI P))) a1.1 (upd a1.2.1 (((nI P) : Int32).toNatClampNeg) (nI k1)) a1.2.2).2.1), (33, (K (P + 1) (b ||| (1 <<< ((nI k1) &&& 31))) (v + 1) (w + (vX3_dayBy_n (h 38) (h 39) (nI k1) (nI P))) a1.1 (upd a1.2.1 (((nI P) : Int32).toNatClampNeg) (nI k1)) a1.2.2).2.2)]) (L2 := [(30, (K (P + 1) (b ||| (1 <<< ((nI k1) &&& 31))) (v + 1) (w + (vX3_dayBy_n (h 38) (h 39) (nI k1) (nI P))) a1.1 (upd a1.2.1 (((nI P) : Int32).toNatClampNeg) (nI k1)) a1.2.2).1), (32, (K (P + 1) (b ||| (1 <<< ((nI k1) &&& 31))) (v + 1) (w + (vX3_dayBy_n (h 38) (h 39) (nI k1) (nI P))) a1.1 (upd a1.2.1 (((nI P) : Int32).toNatClampNeg) (nI k1)) a1.2.2).2.1), (33, (K (P + 1) (b ||| (1 <<< ((nI k1) &&& 31))) (v + 1) (w + (vX3_dayBy_n (h 38) (h 39) (nI k1) (nI P))) a1.1 (upd a1.2.1 (((nI P) : Int32).toNatClampNeg) (nI k1)) a1.2.2).2.2)]) rfl]
        refine rr_iinc 6 1 [(0, .ref 30), (1, .ref 38), (2, .int (nI P)), (3, .int b), (4, .int v), (5, .int w), (6, .int ((nI k1) + 1))] dX2_chooseFor_115 rfl rfl (by decide) rfl ?_
        refine rr_goto dX2_chooseFor_118 ?_
        try simp only [(nI_clamp (show k1 < 2 ^ 31 by omega))] at c2
        simpa only [nI_1, (nI_clamp (show k1 < 2 ^ 31 by omega)), fkn1_1, if_neg c2] using ih1
    · try dsimp only
      refine rr_iload 6 rfl dX2_chooseFor_49 ?_
      refine rr_aload_n 0 rfl rfl dX2_chooseFor_51 ?_
      refine rr_getR dX2_chooseFor_52 fX2_21 lo_30 sh_30 rfl ?_
      refine rr_getI dX2_chooseFor_55 fX2_36 lo_1 sh_1 rfl ?_
      rw [show (jj_rs h [(30, (jj_fo (fkn1_1 (h 31) (h 38) (h 39) K P b v w) n ((h 30), (h 32), (h 33))).1), (32, (jj_fo (fkn1_1 (h 31) (h 38) (h 39) K P b v w) n ((h 30), (h 32), (h 33))).2.1), (33, (jj_fo (fkn1_1 (h 31) (h 38) (h 39) K P b v w) n ((h 30), (h 32), (h 33))).2.2)]) 1 = h 1 from rfl]
      rw [hP]
      refine rr_icmp_ge dX2_chooseFor_58 (fun _ => ?_) (fun c => absurd (jj_le_rf _) c)
      refine rr_aload_n 0 rfl rfl dX2_chooseFor_121 ?_
      refine rr_getR dX2_chooseFor_122 fX2_15 lo_30 sh_30 rfl ?_
      refine rr_iload_n 2 rfl rfl dX2_chooseFor_125 ?_
      refine rr_iconst (-1) rfl dX2_chooseFor_126 ?_
      refine rr_iastore dX2_chooseFor_127 lo_32 sh_32 (by first | assumption | exact jj_pers hP hn (by assumption) | exact vp_in_nI (by omega) (by decide) | decide | omega) ?_
      rw [jj_rs_set (B := h) (L := [(30, (jj_fo (fkn1_1 (h 31) (h 38) (h 39) K P b v w) n ((h 30), (h 32), (h 33))).1), (32, (jj_fo (fkn1_1 (h 31) (h 38) (h 39) K P b v w) n ((h 30), (h 32), (h 33))).2.1), (33, (jj_fo (fkn1_1 (h 31) (h 38) (h 39) K P b v w) n ((h 30), (h 32), (h 33))).2.2)]) (L2 := [(30, (jj_fo (fkn1_1 (h 31) (h 38) (h 39) K P b v w) n ((h 30), (h 32), (h 33))).1), (32, (upd (jj_fo (fkn1_1 (h 31) (h 38) (h 39) K P b v w) n ((h 30), (h 32), (h 33))).2.1 (((nI P) : Int32).toNatClampNeg) (-1))), (33, (jj_fo (fkn1_1 (h 31) (h 38) (h 39) K P b v w) n ((h 30), (h 32), (h 33))).2.2)]) (r := (jj_fo (fkn1_1 (h 31) (h 38) (h 39) K P b v w) n ((h 30), (h 32), (h 33))).2.1) rfl rfl]
      refine rr_aload_n 0 rfl rfl dX2_chooseFor_128 ?_
      refine rr_aload_n 1 rfl rfl dX2_chooseFor_129 ?_
      refine rr_iload_n 2 rfl rfl dX2_chooseFor_130 ?_
      refine rr_iconst 1 rfl dX2_chooseFor_131 ?_
      refine rr_iadd dX2_chooseFor_132 ?_
      rw [show ((nI P) + 1 : Int32) = (nI (P + 1)) from nI_add (P) (1)]
      refine rr_iload_n 3 rfl rfl dX2_chooseFor_133 ?_
      refine rr_iload 4 rfl dX2_chooseFor_134 ?_
      refine rr_iload 5 rfl dX2_chooseFor_136 ?_
      refine rr_callV (As := [.ref 38, .int (nI (P + 1)), .int b, .int v, .int w]) (rest := []) (kc2 := 0) (ks2 := 0) dX2_chooseFor_138 okX2_chooseFor lX2_47 lo_30 sh_30 rfl rfl (Nat.le_of_ble_eq_true rfl) (Nat.le_of_ble_eq_true rfl) rfl (by omega) (by simp [jj_rk]) (by simp [jj_rk]) ?_
      refine ih hP rfl rfl rfl ?_
      show jj_R _ _ kc ks (jj_S, 782, (jj_rs (jj_rs h [(30, (jj_fo (fkn1_1 (h 31) (h 38) (h 39) K P b v w) n ((h 30), (h 32), (h 33))).1), (32, (upd (jj_fo (fkn1_1 (h 31) (h 38) (h 39) K P b v w) n ((h 30), (h 32), (h 33))).2.1 (((nI P) : Int32).toNatClampNeg) (-1))), (33, (jj_fo (fkn1_1 (h 31) (h 38) (h 39) K P b v w) n ((h 30), (h 32), (h 33))).2.2)]) [(30, (K (P + 1) b v w ((jj_fo (fkn1_1 (h 31) (h 38) (h 39) K P b v w) n ((h 30), (h 32), (h 33))).1) (upd (jj_fo (fkn1_1 (h 31) (h 38) (h 39) K P b v w) n ((h 30), (h 32), (h 33))).2.1 (((nI P) : Int32).toNatClampNeg) (-1)) ((jj_fo (fkn1_1 (h 31) (h 38) (h 39) K P b v w) n ((h 30), (h 32), (h 33))).2.2)).1), (32, (K (P + 1) b v w ((jj_fo (fkn1_1 (h 31) (h 38) (h 39) K P b v w) n ((h 30), (h 32), (h 33))).1) (upd (jj_fo (fkn1_1 (h 31) (h 38) (h 39) K P b v w) n ((h 30), (h 32), (h 33))).2.1 (((nI P) : Int32).toNatClampNeg) (-1)) ((jj_fo (fkn1_1 (h 31) (h 38) (h 39) K P b v w) n ((h 30), (h 32), (h 33))).2.2)).2.1), (33, (K (P + 1) b v w ((jj_fo (fkn1_1 (h 31) (h 38) (h 39) K P b v w) n ((h 30), (h 32), (h 33))).1) (upd (jj_fo (fkn1_1 (h 31) (h 38) (h 39) K P b v w) n ((h 30), (h 32), (h 33))).2.1 (((nI P) : Int32).toNatClampNeg) (-1)) ((jj_fo (fkn1_1 (h 31) (h 38) (h 39) K P b v w) n ((h 30), (h 32), (h 33))).2.2)).2.2)]), g) 141 [(0, .ref 30), (1, .ref 38), (2, .int (nI P)), (3, .int b), (4, .int v), (5, .int w), (6, .int (nI n))] [] Q
      rw [jj_rs_rs (B := h) (L := [(30, (jj_fo (fkn1_1 (h 31) (h 38) (h 39) K P b v w) n ((h 30), (h 32), (h 33))).1), (32, (upd (jj_fo (fkn1_1 (h 31) (h 38) (h 39) K P b v w) n ((h 30), (h 32), (h 33))).2.1 (((nI P) : Int32).toNatClampNeg) (-1))), (33, (jj_fo (fkn1_1 (h 31) (h 38) (h 39) K P b v w) n ((h 30), (h 32), (h 33))).2.2)]) (M := [(30, (K (P + 1) b v w ((jj_fo (fkn1_1 (h 31) (h 38) (h 39) K P b v w) n ((h 30), (h 32), (h 33))).1) (upd (jj_fo (fkn1_1 (h 31) (h 38) (h 39) K P b v w) n ((h 30), (h 32), (h 33))).2.1 (((nI P) : Int32).toNatClampNeg) (-1)) ((jj_fo (fkn1_1 (h 31) (h 38) (h 39) K P b v w) n ((h 30), (h 32), (h 33))).2.2)).1), (32, (K (P + 1) b v w ((jj_fo (fkn1_1 (h 31) (h 38) (h 39) K P b v w) n ((h 30), (h 32), (h 33))).1) (upd (jj_fo (fkn1_1 (h 31) (h 38) (h 39) K P b v w) n ((h 30), (h 32), (h 33))).2.1 (((nI P) : Int32).toNatClampNeg) (-1)) ((jj_fo (fkn1_1 (h 31) (h 38) (h 39) K P b v w) n ((h 30), (h 32), (h 33))).2.2)).2.1), (33, (K (P + 1) b v w ((jj_fo (fkn1_1 (h 31) (h 38) (h 39) K P b v w) n ((h 30), (h 32), (h 33))).1) (upd (jj_fo (fkn1_1 (h 31) (h 38) (h 39) K P b v w) n ((h 30), (h 32), (h 33))).2.1 (((nI P) : Int32).toNatClampNeg) (-1)) ((jj_fo (fkn1_1 (h 31) (h 38) (h 39) K P b v w) n ((h 30), (h 32), (h 33))).2.2)).2.2)]) (L2 := [(30, (K (P + 1) b v w ((jj_fo (fkn1_1 (h 31) (h 38) (h 39) K P b v w) n ((h 30), (h 32), (h 33))).1) (upd (jj_fo (fkn1_1 (h 31) (h 38) (h 39) K P b v w) n ((h 30), (h 32), (h 33))).2.1 (((nI P) : Int32).toNatClampNeg) (-1)) ((jj_fo (fkn1_1 (h 31) (h 38) (h 39) K P b v w) n ((h 30), (h 32), (h 33))).2.2)).1), (32, (K (P + 1) b v w ((jj_fo (fkn1_1 (h 31) (h 38) (h 39) K P b v w) n ((h 30), (h 32), (h 33))).1) (upd (jj_fo (fkn1_1 (h 31) (h 38) (h 39) K P b v w) n ((h 30), (h 32), (h 33))).2.1 (((nI P) : Int32).toNatClampNeg) (-1)) ((jj_fo (fkn1_1 (h 31) (h 38) (h 39) K P b v w) n ((h 30), (h 32), (h 33))).2.2)).2.1), (33, (K (P + 1) b v w ((jj_fo (fkn1_1 (h 31) (h 38) (h 39) K P b v w) n ((h 30), (h 32), (h 33))).1) (upd (jj_fo (fkn1_1 (h 31) (h 38) (h 39) K P b v w) n ((h 30), (h 32), (h 33))).2.1 (((nI P) : Int32).toNatClampNeg) (-1)) ((jj_fo (fkn1_1 (h 31) (h 38) (h 39) K P b v w) n ((h 30), (h 32), (h 33))).2.2)).2.2)]) rfl]
      refine rr_return dX2_chooseFor_141 rfl ?_
      simpa only [rkn1_30, rkn1_32, rkn1_33, if_pos c1] using kq
  · skip
    refine rr_return dX2_chooseFor_19 rfl ?_
    refine jj_Qh (jj_addr (B := h) (o := 30) (r := (h 30)) rfl) ?_
    refine jj_Qh (jj_rs_add (B := h) (L := [(30, (h 30))]) (L2 := [(30, (h 30)), (32, (h 32))]) (o := 32) (r := (h 32)) rfl rfl) ?_
    refine jj_Qh (jj_rs_add (B := h) (L := [(30, (h 30)), (32, (h 32))]) (L2 := [(30, (h 30)), (32, (h 32)), (33, (h 33))]) (o := 33) (r := (h 33)) rfl rfl) ?_
    simpa only [rkn1_30, rkn1_32, rkn1_33, if_neg c1] using kq
def kn (r31 r38 r39 : Nat → Int32) (n : Nat) : Nat → Nat → Int32 → Int32 → Int32 → (Nat → Int32) → (Nat → Int32) → (Nat → Int32) → (Nat → Int32) × (Nat → Int32) × (Nat → Int32)
  | 0 => fun _ _ v w r30 r32 r33 => (rkn0_30 r30 r32 r33 n v w, r32, rkn0_33 r30 r32 r33 n v w)
  | j + 1 => fun P b v w r30 r32 r33 => (rkn1_30 r30 r31 r32 r33 r38 r39 n (kn r31 r38 r39 n j) P b v w, rkn1_32 r30 r31 r32 r33 r38 r39 n (kn r31 r38 r39 n j) P b v w, rkn1_33 r30 r31 r32 r33 r38 r39 n (kn r31 r38 r39 n j) P b v w)
theorem sp_kn {n : Nat} (hn : n ≤ 8) : ∀ (j : Nat) {P d kc ks : Nat} {h : Nat → Nat → Int32} {g : Nat → Nat → Int64} {Q : jj_Rs → jj_St → Prop} {b v w : Int32}, P + j = n → h 1 0 = nI n → Q (.inl none) (jj_S, 782, jj_rs h [(30, (kn (h 31) (h 38) (h 39) n j P b v w (h 30) (h 32) (h 33)).1), (32, (kn (h 31) (h 38) (h 39) n j P b v w (h 30) (h 32) (h 33)).2.1), (33, (kn (h 31) (h 38) (h 39) n j P b v w (h 30) (h 32) (h 33)).2.2)], g) → jj_R mX2_chooseFor (d + j + 3) kc ks (jj_S, 782, h, g) 0 [(0, .ref 30), (1, .ref 38), (2, .int (nI P)), (3, .int b), (4, .int v), (5, .int w)] [] Q
  | 0, P, d, kc, ks, h, g, Q, b, v, w, e, hP, kq => by
    obtain rfl : P = n := e
    refine sp_kn0 (d := d + 1) hP hn ?_
    exact jj_Qh (jj_rs_add (B := h) (L := [(30, _), (33, _)]) (L2 := [(30, _), (32, h 32), (33, _)]) (o := 32) (r := h 32) rfl rfl) kq
  | j + 1, P, d, kc, ks, h, g, Q, b, v, w, e, hP, kq => by
    have e2 : d + (j + 1) + 3 = d + j + 4 := by omega
    rw [e2]
    refine sp_kn1 (d := d + j) (K := kn (h 31) (h 38) (h 39) n j) hP hn (by omega) (fun {kc ks h2 g Q b v w} hP2 e1 e3 e4 kq2 => ?_) kq
    refine sp_kn hn j (by omega) hP2 ?_
    rw [e1, e3, e4]
    exact kq2
theorem sp_knS {n d kc ks : Nat} {h : Nat → Nat → Int32} {g : Nat → Nat → Int64} {Q : jj_Rs → jj_St → Prop} (hP : h 1 0 = nI n) (hn : n ≤ 8) (kq : Q (.inl none) (jj_S, 782, jj_rs h [(30, (kn (h 31) (h 38) (h 39) n n 0 0 0 0 (h 30) (h 32) (h 33)).1), (32, (kn (h 31) (h 38) (h 39) n n 0 0 0 0 (h 30) (h 32) (h 33)).2.1), (33, (kn (h 31) (h 38) (h 39) n n 0 0 0 0 (h 30) (h 32) (h 33)).2.2)], g)) : jj_R mX2_chooseFor (d + 11) kc ks (jj_S, 782, h, g) 0 [(0, .ref 30), (1, .ref 38), (2, .int 0), (3, .int 0), (4, .int 0), (5, .int 0)] [] Q := by
  have e2 : d + 11 = d + (8 - n) + n + 3 := by omega
  rw [e2]
  exact sp_kn hn n (P := 0) (by omega) hP kq
def fX2_search_1 (r2 : Nat → Int32) (r3 : Nat → Int32) (r6 : Nat → Int32) (r8 : Nat → Int32) (r38 : Nat → Int32) (r39 : Nat → Int32) (r40 : Nat → Int32) (r41 : Nat → Int32) (n : Nat) (m : Nat) (k1 : Nat) (a1 : (Nat → Int32)) : (Nat → Int32) := (upd a1 (k1) (vX3_helperBits r2 r3 r6 r8 r38 r39 r40 r41 n m (nI k1)))
def rX2_search_30 (r2 : Nat → Int32) (r3 : Nat → Int32) (r6 : Nat → Int32) (r8 : Nat → Int32) (r30 : Nat → Int32) (r31 : Nat → Int32) (r32 : Nat → Int32) (r33 : Nat → Int32) (r38 : Nat → Int32) (r39 : Nat → Int32) (r40 : Nat → Int32) (r41 : Nat → Int32) (n : Nat) (m : Nat) : Nat → Int32 := (kn (jj_fo (fX2_search_1 r2 r3 r6 r8 r38 r39 r40 r41 n m) n r31) r38 r39 n n 0 0 0 0 (upd (upd r30 (5) (-1)) (6) 0) r32 r33).1
def rX2_search_31 (r2 : Nat → Int32) (r3 : Nat → Int32) (r6 : Nat → Int32) (r8 : Nat → Int32) (r30 : Nat → Int32) (r31 : Nat → Int32) (r32 : Nat → Int32) (r33 : Nat → Int32) (r38 : Nat → Int32) (r39 : Nat → Int32) (r40 : Nat → Int32) (r41 : Nat → Int32) (n : Nat) (m : Nat) : Nat → Int32 := (jj_fo (fX2_search_1 r2 r3 r6 r8 r38 r39 r40 r41 n m) n r31)
def rX2_search_32 (r2 : Nat → Int32) (r3 : Nat → Int32) (r6 : Nat → Int32) (r8 : Nat → Int32) (r30 : Nat → Int32) (r31 : Nat → Int32) (r32 : Nat → Int32) (r33 : Nat → Int32) (r38 : Nat → Int32) (r39 : Nat → Int32) (r40 : Nat → Int32) (r41 : Nat → Int32) (n : Nat) (m : Nat) : Nat → Int32 := (kn (jj_fo (fX2_search_1 r2 r3 r6 r8 r38 r39 r40 r41 n m) n r31) r38 r39 n n 0 0 0 0 (upd (upd r30 (5) (-1)) (6) 0) r32 r33).2.1
def rX2_search_33 (r2 : Nat → Int32) (r3 : Nat → Int32) (r6 : Nat → Int32) (r8 : Nat → Int32) (r30 : Nat → Int32) (r31 : Nat → Int32) (r32 : Nat → Int32) (r33 : Nat → Int32) (r38 : Nat → Int32) (r39 : Nat → Int32) (r40 : Nat → Int32) (r41 : Nat → Int32) (n : Nat) (m : Nat) : Nat → Int32 := (kn (jj_fo (fX2_search_1 r2 r3 r6 r8 r38 r39 r40 r41 n m) n r31) r38 r39 n n 0 0 0 0 (upd (upd r30 (5) (-1)) (6) 0) r32 r33).2.2
set_option maxHeartbeats 1000000 in
theorem sp_X2_search {d kc ks : Nat} {h : Nat → Nat → Int32} {g : Nat → Nat → Int64} {Q : jj_Rs → jj_St → Prop} {n : Nat} {m : Nat} (hP : h 1 0 = nI n) (hn : n ≤ 8) (hm : h 7 1 = nI m) (hm2 : m ≤ 150) (kq : ∀ h9, jj_eq [10, 11] h h9 → Q (.inl none) (jj_S, 782, (jj_rs h9 [(30, (rX2_search_30 (h 2) (h 3) (h 6) (h 8) (h 30) (h 31) (h 32) (h 33) (h 38) (h 39) (h 40) (h 41) n m)), (31, (rX2_search_31 (h 2) (h 3) (h 6) (h 8) (h 30) (h 31) (h 32) (h 33) (h 38) (h 39) (h 40) (h 41) n m)), (32, (rX2_search_32 (h 2) (h 3) (h 6) (h 8) (h 30) (h 31) (h 32) (h 33) (h 38) (h 39) (h 40) (h 41) n m)), (33, (rX2_search_33 (h 2) (h 3) (h 6) (h 8) (h 30) (h 31) (h 32) (h 33) (h 38) (h 39) (h 40) (h 41) n m))]), g)) : jj_R mX2_search (d + 12) kc ks (jj_S, 782, h, g) 0 [(0, .ref 30), (1, .ref 38)] [] Q := by
  refine rr_aload_n 0 rfl rfl dX2_search_0 ?_
  refine rr_iconst (-1) rfl dX2_search_1 ?_
  refine rr_putI dX2_search_2 fX2_29 ni2_5 lo_30 sh_30 rfl ?_
  rw [jj_rs_set0 (B := h) (o := 30) (r := (h 30)) rfl]
  refine rr_aload_n 0 rfl rfl dX2_search_5 ?_
  refine rr_iconst 0 rfl dX2_search_6 ?_
  refine rr_putI dX2_search_7 fX2_33 ni2_6 lo_30 sh_30 rfl ?_
  rw [jj_rs_set (B := h) (L := [(30, (upd (h 30) (5) (-1)))]) (L2 := [(30, (upd (upd (h 30) (5) (-1)) (6) 0))]) (r := (upd (h 30) (5) (-1))) rfl rfl]
  refine rr_iconst 0 rfl dX2_search_10 ?_
  refine rr_istore_n [(0, .ref 30), (1, .ref 38), (2, .int 0)] dX2_search_11 rfl (by decide) rfl ?_
  refine jj_Rh (jj_rs_add (B := h) (L := [(30, (upd (upd (h 30) (5) (-1)) (6) 0))]) (L2 := [(30, (upd (upd (h 30) (5) (-1)) (6) 0)), (31, (h 31))]) (o := 31) (r := (h 31)) rfl rfl) ?_
  refine jj_for (fun k1 (a1 : (Nat → Int32)) => ∀ hc1, jj_eq [10, 11] h hc1 → jj_R _ _ kc ks (jj_S, 782, (jj_rs hc1 [(30, (upd (upd (h 30) (5) (-1)) (6) 0)), (31, a1)]), g) 12 [(0, .ref 30), (1, .ref 38), (2, .int (nI k1))] [] Q) (fX2_search_1 (h 2) (h 3) (h 6) (h 8) (h 38) (h 39) (h 40) (h 41) n m) n (h 31) ?_ ?_ h jj_eq.rf
  · intro k1 hk1 ih1 hc1 ec1
    generalize jj_fo _ k1 _ = a1 at ih1 ⊢
    try dsimp only at ih1 ⊢
    refine rr_iload_n 2 rfl rfl dX2_search_12 ?_
    refine rr_aload_n 0 rfl rfl dX2_search_13 ?_
    refine rr_getR dX2_search_14 fX2_21 lo_30 sh_30 rfl ?_
    refine rr_getI dX2_search_17 fX2_36 lo_1 sh_1 rfl ?_
    rw [show (jj_rs hc1 [(30, (upd (upd (h 30) (5) (-1)) (6) 0)), (31, a1)]) 1 = hc1 1 from rfl]
    rw [ec1 1 (by decide)]
    rw [hP]
    refine rr_icmp_ge dX2_search_20 (fun c => absurd c (nI_ge (a := k1) (b := n) (by omega) (by omega))) (fun _ => ?_)
    refine rr_aload_n 0 rfl rfl dX2_search_23 ?_
    refine rr_getR dX2_search_24 fX2_9 lo_30 sh_30 rfl ?_
    refine rr_iload_n 2 rfl rfl dX2_search_27 ?_
    refine rr_aload_n 0 rfl rfl dX2_search_28 ?_
    refine rr_getR dX2_search_29 fX2_25 lo_30 sh_30 rfl ?_
    refine rr_aload_n 1 rfl rfl dX2_search_32 ?_
    refine rr_iload_n 2 rfl rfl dX2_search_33 ?_
    refine rr_callV (As := [.ref 38, .int (nI k1)]) (rest := [.int (nI k1), .ref 31]) (kc2 := 0) (ks2 := 0) dX2_search_34 okX3_helperBits lX2_41 lo_12 sh_12 rfl rfl (Nat.le_of_ble_eq_true rfl) (Nat.le_of_ble_eq_true rfl) rfl (by omega) (by simp [jj_rk]) (by simp [jj_rk]) ?_
    refine sp_X3_helperBits (by first | assumption | (rw [show (jj_rs hc1 [(30, (upd (upd (h 30) (5) (-1)) (6) 0)), (31, a1)]) 7 = hc1 7 from rfl]; rw [ec1 7 (by decide)]; assumption) | (rw [show (jj_rs hc1 [(30, (upd (upd (h 30) (5) (-1)) (6) 0)), (31, a1)]) 1 = hc1 1 from rfl]; rw [ec1 1 (by decide)]; assumption) | exact jj_pers hP hn (by assumption) | exact vp_in_nI (by omega) (by decide) | decide | omega) (by first | assumption | (rw [show (jj_rs hc1 [(30, (upd (upd (h 30) (5) (-1)) (6) 0)), (31, a1)]) 7 = hc1 7 from rfl]; rw [ec1 7 (by decide)]; assumption) | (rw [show (jj_rs hc1 [(30, (upd (upd (h 30) (5) (-1)) (6) 0)), (31, a1)]) 1 = hc1 1 from rfl]; rw [ec1 1 (by decide)]; assumption) | exact jj_pers hP hn (by assumption) | exact vp_in_nI (by omega) (by decide) | decide | omega) (by first | assumption | (rw [show (jj_rs hc1 [(30, (upd (upd (h 30) (5) (-1)) (6) 0)), (31, a1)]) 7 = hc1 7 from rfl]; rw [ec1 7 (by decide)]; assumption) | (rw [show (jj_rs hc1 [(30, (upd (upd (h 30) (5) (-1)) (6) 0)), (31, a1)]) 1 = hc1 1 from rfl]; rw [ec1 1 (by decide)]; assumption) | exact jj_pers hP hn (by assumption) | exact vp_in_nI (by omega) (by decide) | decide | omega) (by first | assumption | (rw [show (jj_rs hc1 [(30, (upd (upd (h 30) (5) (-1)) (6) 0)), (31, a1)]) 7 = hc1 7 from rfl]; rw [ec1 7 (by decide)]; assumption) | (rw [show (jj_rs hc1 [(30, (upd (upd (h 30) (5) (-1)) (6) 0)), (31, a1)]) 1 = hc1 1 from rfl]; rw [ec1 1 (by decide)]; assumption) | exact jj_pers hP hn (by assumption) | exact vp_in_nI (by omega) (by decide) | decide | omega) (by first | assumption | (rw [show (jj_rs hc1 [(30, (upd (upd (h 30) (5) (-1)) (6) 0)), (31, a1)]) 7 = hc1 7 from rfl]; rw [ec1 7 (by decide)]; assumption) | (rw [show (jj_rs hc1 [(30, (upd (upd (h 30) (5) (-1)) (6) 0)), (31, a1)]) 1 = hc1 1 from rfl]; rw [ec1 1 (by decide)]; assumption) | exact jj_pers hP hn (by assumption) | exact vp_in_nI (by omega) (by decide) | decide | omega) (fun h1 e2 => ?_)
    obtain ⟨h4, e3, rfl⟩ := jj_lo (X := [10, 11]) ec1 e2 (by decide) (by simp [List.lookup])
    show jj_R _ _ kc ks (jj_S, 782, (jj_rs h4 [(30, (upd (upd (h 30) (5) (-1)) (6) 0)), (31, a1)]), g) 37 [(0, .ref 30), (1, .ref 38), (2, .int (nI k1))] [.int (vX3_helperBits (hc1 2) (hc1 3) (hc1 6) (hc1 8) (hc1 38) (hc1 39) (hc1 40) (hc1 41) n m (nI k1)), .int (nI k1), .ref 31] Q
    try rw [ec1 2 (by decide)]
    try rw [ec1 3 (by decide)]
    try rw [ec1 6 (by decide)]
    try rw [ec1 8 (by decide)]
    try rw [ec1 38 (by decide)]
    try rw [ec1 39 (by decide)]
    try rw [ec1 40 (by decide)]
    try rw [ec1 41 (by decide)]
    refine rr_iastore dX2_search_37 lo_31 sh_31 (by first | assumption | exact jj_pers hP hn (by assumption) | exact vp_in_nI (by omega) (by decide) | decide | omega) ?_
    rw [jj_rs_set (B := h4) (L := [(30, (upd (upd (h 30) (5) (-1)) (6) 0)), (31, a1)]) (L2 := [(30, (upd (upd (h 30) (5) (-1)) (6) 0)), (31, (upd a1 (((nI k1) : Int32).toNatClampNeg) (vX3_helperBits (h 2) (h 3) (h 6) (h 8) (h 38) (h 39) (h 40) (h 41) n m (nI k1))))]) (r := a1) rfl rfl]
    refine rr_iinc 2 1 [(0, .ref 30), (1, .ref 38), (2, .int ((nI k1) + 1))] dX2_search_38 rfl rfl (by decide) rfl ?_
    refine rr_goto dX2_search_41 ?_
    simpa only [nI_1, (nI_clamp (show k1 < 2 ^ 31 by omega)), fX2_search_1] using ih1 h4 e3
  · try dsimp only
    intro hc1 ec1
    refine rr_iload_n 2 rfl rfl dX2_search_12 ?_
    refine rr_aload_n 0 rfl rfl dX2_search_13 ?_
    refine rr_getR dX2_search_14 fX2_21 lo_30 sh_30 rfl ?_
    refine rr_getI dX2_search_17 fX2_36 lo_1 sh_1 rfl ?_
    rw [show (jj_rs hc1 [(30, (upd (upd (h 30) (5) (-1)) (6) 0)), (31, (jj_fo (fX2_search_1 (h 2) (h 3) (h 6) (h 8) (h 38) (h 39) (h 40) (h 41) n m) n (h 31)))]) 1 = hc1 1 from rfl]
    rw [ec1 1 (by decide)]
    rw [hP]
    refine rr_icmp_ge dX2_search_20 (fun _ => ?_) (fun c => absurd (jj_le_rf _) c)
    refine rr_aload_n 0 rfl rfl dX2_search_44 ?_
    refine rr_aload_n 1 rfl rfl dX2_search_45 ?_
    refine rr_iconst 0 rfl dX2_search_46 ?_
    refine rr_iconst 0 rfl dX2_search_47 ?_
    refine rr_iconst 0 rfl dX2_search_48 ?_
    refine rr_iconst 0 rfl dX2_search_49 ?_
    refine rr_callV (As := [.ref 38, .int 0, .int 0, .int 0, .int 0]) (rest := []) (kc2 := 0) (ks2 := 0) dX2_search_50 okX2_chooseFor lX2_47 lo_30 sh_30 rfl rfl (Nat.le_of_ble_eq_true rfl) (Nat.le_of_ble_eq_true rfl) rfl (by omega) (by simp [jj_rk]) (by simp [jj_rk]) ?_
    refine sp_knS (by first | assumption | (rw [show (jj_rs hc1 [(30, (upd (upd (h 30) (5) (-1)) (6) 0)), (31, (jj_fo (fX2_search_1 (h 2) (h 3) (h 6) (h 8) (h 38) (h 39) (h 40) (h 41) n m) n (h 31)))]) 7 = hc1 7 from rfl]; rw [ec1 7 (by decide)]; assumption) | (rw [show (jj_rs hc1 [(30, (upd (upd (h 30) (5) (-1)) (6) 0)), (31, (jj_fo (fX2_search_1 (h 2) (h 3) (h 6) (h 8) (h 38) (h 39) (h 40) (h 41) n m) n (h 31)))]) 1 = hc1 1 from rfl]; rw [ec1 1 (by decide)]; assumption) | exact jj_pers hP hn (by assumption) | exact vp_in_nI (by omega) (by decide) | decide | omega) hn ?_
    show jj_R _ _ kc ks (jj_S, 782, (jj_rs (jj_rs hc1 [(30, (upd (upd (h 30) (5) (-1)) (6) 0)), (31, (jj_fo (fX2_search_1 (h 2) (h 3) (h 6) (h 8) (h 38) (h 39) (h 40) (h 41) n m) n (h 31)))]) [(30, (kn (jj_fo (fX2_search_1 (h 2) (h 3) (h 6) (h 8) (h 38) (h 39) (h 40) (h 41) n m) n (h 31)) (hc1 38) (hc1 39) n n 0 0 0 0 (upd (upd (h 30) (5) (-1)) (6) 0) (hc1 32) (hc1 33)).1), (32, (kn (jj_fo (fX2_search_1 (h 2) (h 3) (h 6) (h 8) (h 38) (h 39) (h 40) (h 41) n m) n (h 31)) (hc1 38) (hc1 39) n n 0 0 0 0 (upd (upd (h 30) (5) (-1)) (6) 0) (hc1 32) (hc1 33)).2.1), (33, (kn (jj_fo (fX2_search_1 (h 2) (h 3) (h 6) (h 8) (h 38) (h 39) (h 40) (h 41) n m) n (h 31)) (hc1 38) (hc1 39) n n 0 0 0 0 (upd (upd (h 30) (5) (-1)) (6) 0) (hc1 32) (hc1 33)).2.2)]), g) 53 [(0, .ref 30), (1, .ref 38), (2, .int (nI n))] [] Q
    rw [jj_rs_rs (B := hc1) (L := [(30, (upd (upd (h 30) (5) (-1)) (6) 0)), (31, (jj_fo (fX2_search_1 (h 2) (h 3) (h 6) (h 8) (h 38) (h 39) (h 40) (h 41) n m) n (h 31)))]) (M := [(30, (kn (jj_fo (fX2_search_1 (h 2) (h 3) (h 6) (h 8) (h 38) (h 39) (h 40) (h 41) n m) n (h 31)) (hc1 38) (hc1 39) n n 0 0 0 0 (upd (upd (h 30) (5) (-1)) (6) 0) (hc1 32) (hc1 33)).1), (32, (kn (jj_fo (fX2_search_1 (h 2) (h 3) (h 6) (h 8) (h 38) (h 39) (h 40) (h 41) n m) n (h 31)) (hc1 38) (hc1 39) n n 0 0 0 0 (upd (upd (h 30) (5) (-1)) (6) 0) (hc1 32) (hc1 33)).2.1), (33, (kn (jj_fo (fX2_search_1 (h 2) (h 3) (h 6) (h 8) (h 38) (h 39) (h 40) (h 41) n m) n (h 31)) (hc1 38) (hc1 39) n n 0 0 0 0 (upd (upd (h 30) (5) (-1)) (6) 0) (hc1 32) (hc1 33)).2.2)]) (L2 := [(30, (kn (jj_fo (fX2_search_1 (h 2) (h 3) (h 6) (h 8) (h 38) (h 39) (h 40) (h 41) n m) n (h 31)) (hc1 38) (hc1 39) n n 0 0 0 0 (upd (upd (h 30) (5) (-1)) (6) 0) (hc1 32) (hc1 33)).1), (31, (jj_fo (fX2_search_1 (h 2) (h 3) (h 6) (h 8) (h 38) (h 39) (h 40) (h 41) n m) n (h 31))), (32, (kn (jj_fo (fX2_search_1 (h 2) (h 3) (h 6) (h 8) (h 38) (h 39) (h 40) (h 41) n m) n (h 31)) (hc1 38) (hc1 39) n n 0 0 0 0 (upd (upd (h 30) (5) (-1)) (6) 0) (hc1 32) (hc1 33)).2.1), (33, (kn (jj_fo (fX2_search_1 (h 2) (h 3) (h 6) (h 8) (h 38) (h 39) (h 40) (h 41) n m) n (h 31)) (hc1 38) (hc1 39) n n 0 0 0 0 (upd (upd (h 30) (5) (-1)) (6) 0) (hc1 32) (hc1 33)).2.2)]) rfl]
    try rw [ec1 32 (by decide)]
    try rw [ec1 33 (by decide)]
    try rw [ec1 38 (by decide)]
    try rw [ec1 39 (by decide)]
    refine rr_return dX2_search_53 rfl ?_
    simpa only [rX2_search_30, rX2_search_31, rX2_search_32, rX2_search_33] using kq hc1 ec1
def vX9_kneel (r0 : Nat → Int32) (r2 : Nat → Int32) (r3 : Nat → Int32) (r6 : Nat → Int32) (r8 : Nat → Int32) (r30 : Nat → Int32) (r31 : Nat → Int32) (r32 : Nat → Int32) (r33 : Nat → Int32) (r38 : Nat → Int32) (r39 : Nat → Int32) (r40 : Nat → Int32) (r41 : Nat → Int32) (n : Nat) (m : Nat) (w : Int32) : jj_Rs := (if (vX9_isBit w) = 0 then (.inr "java/lang/IllegalArgumentException") else (if w = 0 then (.inl (some (.int ((rX2_search_30 r2 r3 r6 r8 r30 r31 r32 r33 r38 r39 r40 r41 n m) 5)))) else (.inl (some (.int ((rX2_search_30 r2 r3 r6 r8 r30 r31 r32 r33 r38 r39 r40 r41 n m) 6))))))
def rX9_kneel_0 (r0 : Nat → Int32) (r2 : Nat → Int32) (r3 : Nat → Int32) (r6 : Nat → Int32) (r8 : Nat → Int32) (r30 : Nat → Int32) (r31 : Nat → Int32) (r32 : Nat → Int32) (r33 : Nat → Int32) (r38 : Nat → Int32) (r39 : Nat → Int32) (r40 : Nat → Int32) (r41 : Nat → Int32) (n : Nat) (m : Nat) (w : Int32) : Nat → Int32 := (if (vX9_isBit w) = 0 then (upd r0 14 (r0 14 + 1)) else r0)
def rX9_kneel_30 (r0 : Nat → Int32) (r2 : Nat → Int32) (r3 : Nat → Int32) (r6 : Nat → Int32) (r8 : Nat → Int32) (r30 : Nat → Int32) (r31 : Nat → Int32) (r32 : Nat → Int32) (r33 : Nat → Int32) (r38 : Nat → Int32) (r39 : Nat → Int32) (r40 : Nat → Int32) (r41 : Nat → Int32) (n : Nat) (m : Nat) (w : Int32) : Nat → Int32 := (if (vX9_isBit w) = 0 then r30 else (rX2_search_30 r2 r3 r6 r8 r30 r31 r32 r33 r38 r39 r40 r41 n m))
def rX9_kneel_31 (r0 : Nat → Int32) (r2 : Nat → Int32) (r3 : Nat → Int32) (r6 : Nat → Int32) (r8 : Nat → Int32) (r30 : Nat → Int32) (r31 : Nat → Int32) (r32 : Nat → Int32) (r33 : Nat → Int32) (r38 : Nat → Int32) (r39 : Nat → Int32) (r40 : Nat → Int32) (r41 : Nat → Int32) (n : Nat) (m : Nat) (w : Int32) : Nat → Int32 := (if (vX9_isBit w) = 0 then r31 else (rX2_search_31 r2 r3 r6 r8 r30 r31 r32 r33 r38 r39 r40 r41 n m))
def rX9_kneel_32 (r0 : Nat → Int32) (r2 : Nat → Int32) (r3 : Nat → Int32) (r6 : Nat → Int32) (r8 : Nat → Int32) (r30 : Nat → Int32) (r31 : Nat → Int32) (r32 : Nat → Int32) (r33 : Nat → Int32) (r38 : Nat → Int32) (r39 : Nat → Int32) (r40 : Nat → Int32) (r41 : Nat → Int32) (n : Nat) (m : Nat) (w : Int32) : Nat → Int32 := (if (vX9_isBit w) = 0 then r32 else (rX2_search_32 r2 r3 r6 r8 r30 r31 r32 r33 r38 r39 r40 r41 n m))
def rX9_kneel_33 (r0 : Nat → Int32) (r2 : Nat → Int32) (r3 : Nat → Int32) (r6 : Nat → Int32) (r8 : Nat → Int32) (r30 : Nat → Int32) (r31 : Nat → Int32) (r32 : Nat → Int32) (r33 : Nat → Int32) (r38 : Nat → Int32) (r39 : Nat → Int32) (r40 : Nat → Int32) (r41 : Nat → Int32) (n : Nat) (m : Nat) (w : Int32) : Nat → Int32 := (if (vX9_isBit w) = 0 then r33 else (rX2_search_33 r2 r3 r6 r8 r30 r31 r32 r33 r38 r39 r40 r41 n m))
set_option maxHeartbeats 1000000 in
theorem sp_X9_kneel {d kc ks : Nat} {h : Nat → Nat → Int32} {g : Nat → Nat → Int64} {Q : jj_Rs → jj_St → Prop} {n : Nat} {m : Nat} {w : Int32} (hP : h 1 0 = nI n) (hn : n ≤ 8) (hm : h 7 1 = nI m) (hm2 : m ≤ 150) (kq : ∀ h9, jj_eq [10, 11] h h9 → Q (vX9_kneel (h 0) (h 2) (h 3) (h 6) (h 8) (h 30) (h 31) (h 32) (h 33) (h 38) (h 39) (h 40) (h 41) n m w) (jj_S, 782, (jj_rs h9 [(0, (rX9_kneel_0 (h 0) (h 2) (h 3) (h 6) (h 8) (h 30) (h 31) (h 32) (h 33) (h 38) (h 39) (h 40) (h 41) n m w)), (30, (rX9_kneel_30 (h 0) (h 2) (h 3) (h 6) (h 8) (h 30) (h 31) (h 32) (h 33) (h 38) (h 39) (h 40) (h 41) n m w)), (31, (rX9_kneel_31 (h 0) (h 2) (h 3) (h 6) (h 8) (h 30) (h 31) (h 32) (h 33) (h 38) (h 39) (h 40) (h 41) n m w)), (32, (rX9_kneel_32 (h 0) (h 2) (h 3) (h 6) (h 8) (h 30) (h 31) (h 32) (h 33) (h 38) (h 39) (h 40) (h 41) n m w)), (33, (rX9_kneel_33 (h 0) (h 2) (h 3) (h 6) (h 8) (h 30) (h 31) (h 32) (h 33) (h 38) (h 39) (h 40) (h 41) n m w))]), g)) : jj_R mX9_kneel (d + 13) (kc + 1) (ks + 6) (jj_S, 782, h, g) 0 [(0, .ref 0), (1, .int w)] [] Q := by
  refine rr_aload_n 0 rfl rfl dX9_kneel_0 ?_
  refine rr_iload_n 1 rfl rfl dX9_kneel_1 ?_
  refine rr_callS (As := [.int w]) (rest := [.ref 0]) (kc2 := 0) (ks2 := 0) dX9_kneel_2 okX9_isBit lX9_235 rfl (Nat.le_of_ble_eq_true rfl) (Nat.le_of_ble_eq_true rfl) rfl (by omega) (by simp [jj_rk]) (by simp [jj_rk]) ?_
  refine sp_X9_isBit  ?_
  show jj_R _ _ (kc + 1) (ks + 6) (jj_S, 782, h, g) 5 [(0, .ref 0), (1, .int w)] [.int (vX9_isBit w), .ref 0] Q
  refine rr_callV (As := [.int (vX9_isBit w)]) (rest := []) (kc2 := 1) (ks2 := 6) dX9_kneel_5 okX9_require lX9_103 lo_0 sh_0 rfl rfl (Nat.le_of_ble_eq_true rfl) (Nat.le_of_ble_eq_true rfl) rfl (by omega) (by simp [jj_rk]) (by simp [jj_rk]) ?_
  refine sp_X9_require  (fun c1 => ?_) (fun c1 => ?_)
  · skip
    show jj_R _ _ kc ks (jj_S, 782, h, g) 8 [(0, .ref 0), (1, .int w)] [] Q
    refine rr_aload_n 0 rfl rfl dX9_kneel_8 ?_
    refine rr_getR dX9_kneel_9 fX9_63 lo_0 sh_0 rfl ?_
    refine rr_aload_n 0 rfl rfl dX9_kneel_12 ?_
    refine rr_getR dX9_kneel_13 fX9_80 lo_0 sh_0 rfl ?_
    refine rr_callV (As := [.ref 38]) (rest := []) (kc2 := 0) (ks2 := 0) dX9_kneel_16 okX2_search lX9_279 lo_30 sh_30 rfl rfl (Nat.le_of_ble_eq_true rfl) (Nat.le_of_ble_eq_true rfl) rfl (by omega) (by simp [jj_rk]) (by simp [jj_rk]) ?_
    refine sp_X2_search (by first | assumption | exact jj_pers hP hn (by assumption) | exact vp_in_nI (by omega) (by decide) | decide | omega) (by first | assumption | exact jj_pers hP hn (by assumption) | exact vp_in_nI (by omega) (by decide) | decide | omega) (by first | assumption | exact jj_pers hP hn (by assumption) | exact vp_in_nI (by omega) (by decide) | decide | omega) (by first | assumption | exact jj_pers hP hn (by assumption) | exact vp_in_nI (by omega) (by decide) | decide | omega) (fun h2 e3 => ?_)
    have e4 := jj_lo0 (X := [10, 11]) (jj_eq.rf (X := [10, 11])) e3 (by decide)
    show jj_R _ _ kc ks (jj_S, 782, (jj_rs h2 [(30, (rX2_search_30 (h 2) (h 3) (h 6) (h 8) (h 30) (h 31) (h 32) (h 33) (h 38) (h 39) (h 40) (h 41) n m)), (31, (rX2_search_31 (h 2) (h 3) (h 6) (h 8) (h 30) (h 31) (h 32) (h 33) (h 38) (h 39) (h 40) (h 41) n m)), (32, (rX2_search_32 (h 2) (h 3) (h 6) (h 8) (h 30) (h 31) (h 32) (h 33) (h 38) (h 39) (h 40) (h 41) n m)), (33, (rX2_search_33 (h 2) (h 3) (h 6) (h 8) (h 30) (h 31) (h 32) (h 33) (h 38) (h 39) (h 40) (h 41) n m))]), g) 19 [(0, .ref 0), (1, .int w)] [] Q
    refine rr_iload_n 1 rfl rfl dX9_kneel_19 ?_
    refine rr_if_ne dX9_kneel_20 (fun c5 => ?_) (fun c5 => ?_)
    · skip
      refine rr_aload_n 0 rfl rfl dX9_kneel_33 ?_
      refine rr_getR dX9_kneel_34 fX9_63 lo_0 sh_0 rfl ?_
      refine rr_getI dX9_kneel_37 fX9_285 lo_30 sh_30 rfl ?_
      rw [show (jj_rs h2 [(30, (rX2_search_30 (h 2) (h 3) (h 6) (h 8) (h 30) (h 31) (h 32) (h 33) (h 38) (h 39) (h 40) (h 41) n m)), (31, (rX2_search_31 (h 2) (h 3) (h 6) (h 8) (h 30) (h 31) (h 32) (h 33) (h 38) (h 39) (h 40) (h 41) n m)), (32, (rX2_search_32 (h 2) (h 3) (h 6) (h 8) (h 30) (h 31) (h 32) (h 33) (h 38) (h 39) (h 40) (h 41) n m)), (33, (rX2_search_33 (h 2) (h 3) (h 6) (h 8) (h 30) (h 31) (h 32) (h 33) (h 38) (h 39) (h 40) (h 41) n m))]) 30 = (rX2_search_30 (h 2) (h 3) (h 6) (h 8) (h 30) (h 31) (h 32) (h 33) (h 38) (h 39) (h 40) (h 41) n m) from rfl]
      refine rr_ireturn dX9_kneel_40 rfl ?_
      refine jj_Qh (jj_rs_add (B := h2) (L := [(30, (rX2_search_30 (h 2) (h 3) (h 6) (h 8) (h 30) (h 31) (h 32) (h 33) (h 38) (h 39) (h 40) (h 41) n m)), (31, (rX2_search_31 (h 2) (h 3) (h 6) (h 8) (h 30) (h 31) (h 32) (h 33) (h 38) (h 39) (h 40) (h 41) n m)), (32, (rX2_search_32 (h 2) (h 3) (h 6) (h 8) (h 30) (h 31) (h 32) (h 33) (h 38) (h 39) (h 40) (h 41) n m)), (33, (rX2_search_33 (h 2) (h 3) (h 6) (h 8) (h 30) (h 31) (h 32) (h 33) (h 38) (h 39) (h 40) (h 41) n m))]) (L2 := [(0, (h 0)), (30, (rX2_search_30 (h 2) (h 3) (h 6) (h 8) (h 30) (h 31) (h 32) (h 33) (h 38) (h 39) (h 40) (h 41) n m)), (31, (rX2_search_31 (h 2) (h 3) (h 6) (h 8) (h 30) (h 31) (h 32) (h 33) (h 38) (h 39) (h 40) (h 41) n m)), (32, (rX2_search_32 (h 2) (h 3) (h 6) (h 8) (h 30) (h 31) (h 32) (h 33) (h 38) (h 39) (h 40) (h 41) n m)), (33, (rX2_search_33 (h 2) (h 3) (h 6) (h 8) (h 30) (h 31) (h 32) (h 33) (h 38) (h 39) (h 40) (h 41) n m))]) (o := 0) (r := (h 0)) ((show jj_rs h2 [(30, (rX2_search_30 (h 2) (h 3) (h 6) (h 8) (h 30) (h 31) (h 32) (h 33) (h 38) (h 39) (h 40) (h 41) n m)), (31, (rX2_search_31 (h 2) (h 3) (h 6) (h 8) (h 30) (h 31) (h 32) (h 33) (h 38) (h 39) (h 40) (h 41) n m)), (32, (rX2_search_32 (h 2) (h 3) (h 6) (h 8) (h 30) (h 31) (h 32) (h 33) (h 38) (h 39) (h 40) (h 41) n m)), (33, (rX2_search_33 (h 2) (h 3) (h 6) (h 8) (h 30) (h 31) (h 32) (h 33) (h 38) (h 39) (h 40) (h 41) n m))] 0 = h2 0 from rfl).trans (e4 0 (by decide))) rfl) ?_
      simpa only [vX9_kneel, rX9_kneel_0, rX9_kneel_30, rX9_kneel_31, rX9_kneel_32, rX9_kneel_33, if_neg c1, if_neg c5] using kq h2 e4
    · skip
      refine rr_aload_n 0 rfl rfl dX9_kneel_23 ?_
      refine rr_getR dX9_kneel_24 fX9_63 lo_0 sh_0 rfl ?_
      refine rr_getI dX9_kneel_27 fX9_282 lo_30 sh_30 rfl ?_
      rw [show (jj_rs h2 [(30, (rX2_search_30 (h 2) (h 3) (h 6) (h 8) (h 30) (h 31) (h 32) (h 33) (h 38) (h 39) (h 40) (h 41) n m)), (31, (rX2_search_31 (h 2) (h 3) (h 6) (h 8) (h 30) (h 31) (h 32) (h 33) (h 38) (h 39) (h 40) (h 41) n m)), (32, (rX2_search_32 (h 2) (h 3) (h 6) (h 8) (h 30) (h 31) (h 32) (h 33) (h 38) (h 39) (h 40) (h 41) n m)), (33, (rX2_search_33 (h 2) (h 3) (h 6) (h 8) (h 30) (h 31) (h 32) (h 33) (h 38) (h 39) (h 40) (h 41) n m))]) 30 = (rX2_search_30 (h 2) (h 3) (h 6) (h 8) (h 30) (h 31) (h 32) (h 33) (h 38) (h 39) (h 40) (h 41) n m) from rfl]
      refine rr_goto dX9_kneel_30 ?_
      refine rr_ireturn dX9_kneel_40 rfl ?_
      refine jj_Qh (jj_rs_add (B := h2) (L := [(30, (rX2_search_30 (h 2) (h 3) (h 6) (h 8) (h 30) (h 31) (h 32) (h 33) (h 38) (h 39) (h 40) (h 41) n m)), (31, (rX2_search_31 (h 2) (h 3) (h 6) (h 8) (h 30) (h 31) (h 32) (h 33) (h 38) (h 39) (h 40) (h 41) n m)), (32, (rX2_search_32 (h 2) (h 3) (h 6) (h 8) (h 30) (h 31) (h 32) (h 33) (h 38) (h 39) (h 40) (h 41) n m)), (33, (rX2_search_33 (h 2) (h 3) (h 6) (h 8) (h 30) (h 31) (h 32) (h 33) (h 38) (h 39) (h 40) (h 41) n m))]) (L2 := [(0, (h 0)), (30, (rX2_search_30 (h 2) (h 3) (h 6) (h 8) (h 30) (h 31) (h 32) (h 33) (h 38) (h 39) (h 40) (h 41) n m)), (31, (rX2_search_31 (h 2) (h 3) (h 6) (h 8) (h 30) (h 31) (h 32) (h 33) (h 38) (h 39) (h 40) (h 41) n m)), (32, (rX2_search_32 (h 2) (h 3) (h 6) (h 8) (h 30) (h 31) (h 32) (h 33) (h 38) (h 39) (h 40) (h 41) n m)), (33, (rX2_search_33 (h 2) (h 3) (h 6) (h 8) (h 30) (h 31) (h 32) (h 33) (h 38) (h 39) (h 40) (h 41) n m))]) (o := 0) (r := (h 0)) ((show jj_rs h2 [(30, (rX2_search_30 (h 2) (h 3) (h 6) (h 8) (h 30) (h 31) (h 32) (h 33) (h 38) (h 39) (h 40) (h 41) n m)), (31, (rX2_search_31 (h 2) (h 3) (h 6) (h 8) (h 30) (h 31) (h 32) (h 33) (h 38) (h 39) (h 40) (h 41) n m)), (32, (rX2_search_32 (h 2) (h 3) (h 6) (h 8) (h 30) (h 31) (h 32) (h 33) (h 38) (h 39) (h 40) (h 41) n m)), (33, (rX2_search_33 (h 2) (h 3) (h 6) (h 8) (h 30) (h 31) (h 32) (h 33) (h 38) (h 39) (h 40) (h 41) n m))] 0 = h2 0 from rfl).trans (e4 0 (by decide))) rfl) ?_
      simpa only [vX9_kneel, rX9_kneel_0, rX9_kneel_30, rX9_kneel_31, rX9_kneel_32, rX9_kneel_33, if_neg c1, if_pos c5] using kq h2 e4
  · skip
    show Q (.inr "java/lang/IllegalArgumentException") (jj_S, 782, (jj_rs h [(0, (upd (h 0) 14 ((h 0) 14 + 1)))]), g)
    refine jj_Qh (jj_rs_add (B := h) (L := [(0, (upd (h 0) 14 ((h 0) 14 + 1)))]) (L2 := [(0, (upd (h 0) 14 ((h 0) 14 + 1))), (30, (h 30))]) (o := 30) (r := (h 30)) rfl rfl) ?_
    refine jj_Qh (jj_rs_add (B := h) (L := [(0, (upd (h 0) 14 ((h 0) 14 + 1))), (30, (h 30))]) (L2 := [(0, (upd (h 0) 14 ((h 0) 14 + 1))), (30, (h 30)), (31, (h 31))]) (o := 31) (r := (h 31)) rfl rfl) ?_
    refine jj_Qh (jj_rs_add (B := h) (L := [(0, (upd (h 0) 14 ((h 0) 14 + 1))), (30, (h 30)), (31, (h 31))]) (L2 := [(0, (upd (h 0) 14 ((h 0) 14 + 1))), (30, (h 30)), (31, (h 31)), (32, (h 32))]) (o := 32) (r := (h 32)) rfl rfl) ?_
    refine jj_Qh (jj_rs_add (B := h) (L := [(0, (upd (h 0) 14 ((h 0) 14 + 1))), (30, (h 30)), (31, (h 31)), (32, (h 32))]) (L2 := [(0, (upd (h 0) 14 ((h 0) 14 + 1))), (30, (h 30)), (31, (h 31)), (32, (h 32)), (33, (h 33))]) (o := 33) (r := (h 33)) rfl rfl) ?_
    simpa only [vX9_kneel, rX9_kneel_0, rX9_kneel_30, rX9_kneel_31, rX9_kneel_32, rX9_kneel_33, if_pos c1] using kq h jj_eq.rf
def vX9_kneels (r0 : Nat → Int32) (r1 : Nat → Int32) (r2 : Nat → Int32) (r3 : Nat → Int32) (r6 : Nat → Int32) (r8 : Nat → Int32) (r30 : Nat → Int32) (r31 : Nat → Int32) (r32 : Nat → Int32) (r33 : Nat → Int32) (r38 : Nat → Int32) (r39 : Nat → Int32) (r40 : Nat → Int32) (r41 : Nat → Int32) (n : Nat) (m : Nat) (p : Int32) : jj_Rs := (if (vX9_isPerson r1 p) = 0 then (.inr "java/util/NoSuchElementException") else (.inl (some (.int ((rX2_search_33 r2 r3 r6 r8 r30 r31 r32 r33 r38 r39 r40 r41 n m) (p : Int32).toNatClampNeg)))))
def rX9_kneels_0 (r0 : Nat → Int32) (r1 : Nat → Int32) (r2 : Nat → Int32) (r3 : Nat → Int32) (r6 : Nat → Int32) (r8 : Nat → Int32) (r30 : Nat → Int32) (r31 : Nat → Int32) (r32 : Nat → Int32) (r33 : Nat → Int32) (r38 : Nat → Int32) (r39 : Nat → Int32) (r40 : Nat → Int32) (r41 : Nat → Int32) (n : Nat) (m : Nat) (p : Int32) : Nat → Int32 := (if (vX9_isPerson r1 p) = 0 then (upd r0 13 (r0 13 + 1)) else r0)
def rX9_kneels_30 (r0 : Nat → Int32) (r1 : Nat → Int32) (r2 : Nat → Int32) (r3 : Nat → Int32) (r6 : Nat → Int32) (r8 : Nat → Int32) (r30 : Nat → Int32) (r31 : Nat → Int32) (r32 : Nat → Int32) (r33 : Nat → Int32) (r38 : Nat → Int32) (r39 : Nat → Int32) (r40 : Nat → Int32) (r41 : Nat → Int32) (n : Nat) (m : Nat) (p : Int32) : Nat → Int32 := (if (vX9_isPerson r1 p) = 0 then r30 else (rX2_search_30 r2 r3 r6 r8 r30 r31 r32 r33 r38 r39 r40 r41 n m))
def rX9_kneels_31 (r0 : Nat → Int32) (r1 : Nat → Int32) (r2 : Nat → Int32) (r3 : Nat → Int32) (r6 : Nat → Int32) (r8 : Nat → Int32) (r30 : Nat → Int32) (r31 : Nat → Int32) (r32 : Nat → Int32) (r33 : Nat → Int32) (r38 : Nat → Int32) (r39 : Nat → Int32) (r40 : Nat → Int32) (r41 : Nat → Int32) (n : Nat) (m : Nat) (p : Int32) : Nat → Int32 := (if (vX9_isPerson r1 p) = 0 then r31 else (rX2_search_31 r2 r3 r6 r8 r30 r31 r32 r33 r38 r39 r40 r41 n m))
def rX9_kneels_32 (r0 : Nat → Int32) (r1 : Nat → Int32) (r2 : Nat → Int32) (r3 : Nat → Int32) (r6 : Nat → Int32) (r8 : Nat → Int32) (r30 : Nat → Int32) (r31 : Nat → Int32) (r32 : Nat → Int32) (r33 : Nat → Int32) (r38 : Nat → Int32) (r39 : Nat → Int32) (r40 : Nat → Int32) (r41 : Nat → Int32) (n : Nat) (m : Nat) (p : Int32) : Nat → Int32 := (if (vX9_isPerson r1 p) = 0 then r32 else (rX2_search_32 r2 r3 r6 r8 r30 r31 r32 r33 r38 r39 r40 r41 n m))
def rX9_kneels_33 (r0 : Nat → Int32) (r1 : Nat → Int32) (r2 : Nat → Int32) (r3 : Nat → Int32) (r6 : Nat → Int32) (r8 : Nat → Int32) (r30 : Nat → Int32) (r31 : Nat → Int32) (r32 : Nat → Int32) (r33 : Nat → Int32) (r38 : Nat → Int32) (r39 : Nat → Int32) (r40 : Nat → Int32) (r41 : Nat → Int32) (n : Nat) (m : Nat) (p : Int32) : Nat → Int32 := (if (vX9_isPerson r1 p) = 0 then r33 else (rX2_search_33 r2 r3 r6 r8 r30 r31 r32 r33 r38 r39 r40 r41 n m))
set_option maxHeartbeats 1000000 in
theorem sp_X9_kneels {d kc ks : Nat} {h : Nat → Nat → Int32} {g : Nat → Nat → Int64} {Q : jj_Rs → jj_St → Prop} {n : Nat} {m : Nat} {p : Int32} (hP : h 1 0 = nI n) (hn : n ≤ 8) (hm : h 7 1 = nI m) (hm2 : m ≤ 150) (kq : ∀ h9, jj_eq [10, 11] h h9 → Q (vX9_kneels (h 0) (h 1) (h 2) (h 3) (h 6) (h 8) (h 30) (h 31) (h 32) (h 33) (h 38) (h 39) (h 40) (h 41) n m p) (jj_S, 782, (jj_rs h9 [(0, (rX9_kneels_0 (h 0) (h 1) (h 2) (h 3) (h 6) (h 8) (h 30) (h 31) (h 32) (h 33) (h 38) (h 39) (h 40) (h 41) n m p)), (30, (rX9_kneels_30 (h 0) (h 1) (h 2) (h 3) (h 6) (h 8) (h 30) (h 31) (h 32) (h 33) (h 38) (h 39) (h 40) (h 41) n m p)), (31, (rX9_kneels_31 (h 0) (h 1) (h 2) (h 3) (h 6) (h 8) (h 30) (h 31) (h 32) (h 33) (h 38) (h 39) (h 40) (h 41) n m p)), (32, (rX9_kneels_32 (h 0) (h 1) (h 2) (h 3) (h 6) (h 8) (h 30) (h 31) (h 32) (h 33) (h 38) (h 39) (h 40) (h 41) n m p)), (33, (rX9_kneels_33 (h 0) (h 1) (h 2) (h 3) (h 6) (h 8) (h 30) (h 31) (h 32) (h 33) (h 38) (h 39) (h 40) (h 41) n m p))]), g)) : jj_R mX9_kneels (d + 13) (kc + 1) (ks + 6) (jj_S, 782, h, g) 0 [(0, .ref 0), (1, .int p)] [] Q := by
  refine rr_aload_n 0 rfl rfl dX9_kneels_0 ?_
  refine rr_iload_n 1 rfl rfl dX9_kneels_1 ?_
  refine rr_callV (As := [.int p]) (rest := []) (kc2 := 1) (ks2 := 6) dX9_kneels_2 okX9_requirePerson lX9_198 lo_0 sh_0 rfl rfl (Nat.le_of_ble_eq_true rfl) (Nat.le_of_ble_eq_true rfl) rfl (by omega) (by simp [jj_rk]) (by simp [jj_rk]) ?_
  refine sp_X9_requirePerson  (fun c1 => ?_) (fun c1 => ?_)
  · skip
    show jj_R _ _ kc ks (jj_S, 782, h, g) 5 [(0, .ref 0), (1, .int p)] [] Q
    refine rr_aload_n 0 rfl rfl dX9_kneels_5 ?_
    refine rr_getR dX9_kneels_6 fX9_63 lo_0 sh_0 rfl ?_
    refine rr_aload_n 0 rfl rfl dX9_kneels_9 ?_
    refine rr_getR dX9_kneels_10 fX9_80 lo_0 sh_0 rfl ?_
    refine rr_callV (As := [.ref 38]) (rest := []) (kc2 := 0) (ks2 := 0) dX9_kneels_13 okX2_search lX9_279 lo_30 sh_30 rfl rfl (Nat.le_of_ble_eq_true rfl) (Nat.le_of_ble_eq_true rfl) rfl (by omega) (by simp [jj_rk]) (by simp [jj_rk]) ?_
    refine sp_X2_search (by first | assumption | exact jj_pers hP hn (by assumption) | exact vp_in_nI (by omega) (by decide) | decide | omega) (by first | assumption | exact jj_pers hP hn (by assumption) | exact vp_in_nI (by omega) (by decide) | decide | omega) (by first | assumption | exact jj_pers hP hn (by assumption) | exact vp_in_nI (by omega) (by decide) | decide | omega) (by first | assumption | exact jj_pers hP hn (by assumption) | exact vp_in_nI (by omega) (by decide) | decide | omega) (fun h2 e3 => ?_)
    have e4 := jj_lo0 (X := [10, 11]) (jj_eq.rf (X := [10, 11])) e3 (by decide)
    show jj_R _ _ kc ks (jj_S, 782, (jj_rs h2 [(30, (rX2_search_30 (h 2) (h 3) (h 6) (h 8) (h 30) (h 31) (h 32) (h 33) (h 38) (h 39) (h 40) (h 41) n m)), (31, (rX2_search_31 (h 2) (h 3) (h 6) (h 8) (h 30) (h 31) (h 32) (h 33) (h 38) (h 39) (h 40) (h 41) n m)), (32, (rX2_search_32 (h 2) (h 3) (h 6) (h 8) (h 30) (h 31) (h 32) (h 33) (h 38) (h 39) (h 40) (h 41) n m)), (33, (rX2_search_33 (h 2) (h 3) (h 6) (h 8) (h 30) (h 31) (h 32) (h 33) (h 38) (h 39) (h 40) (h 41) n m))]), g) 16 [(0, .ref 0), (1, .int p)] [] Q
    refine rr_aload_n 0 rfl rfl dX9_kneels_16 ?_
    refine rr_getR dX9_kneels_17 fX9_63 lo_0 sh_0 rfl ?_
    refine rr_getR dX9_kneels_20 fX9_288 lo_30 sh_30 rfl ?_
    refine rr_iload_n 1 rfl rfl dX9_kneels_23 ?_
    refine rr_iaload dX9_kneels_24 lo_33 sh_33 (by first | assumption | exact jj_pers hP hn (by assumption) | exact vp_in_nI (by omega) (by decide) | decide | omega) ?_
    rw [show (jj_rs h2 [(30, (rX2_search_30 (h 2) (h 3) (h 6) (h 8) (h 30) (h 31) (h 32) (h 33) (h 38) (h 39) (h 40) (h 41) n m)), (31, (rX2_search_31 (h 2) (h 3) (h 6) (h 8) (h 30) (h 31) (h 32) (h 33) (h 38) (h 39) (h 40) (h 41) n m)), (32, (rX2_search_32 (h 2) (h 3) (h 6) (h 8) (h 30) (h 31) (h 32) (h 33) (h 38) (h 39) (h 40) (h 41) n m)), (33, (rX2_search_33 (h 2) (h 3) (h 6) (h 8) (h 30) (h 31) (h 32) (h 33) (h 38) (h 39) (h 40) (h 41) n m))]) 33 = (rX2_search_33 (h 2) (h 3) (h 6) (h 8) (h 30) (h 31) (h 32) (h 33) (h 38) (h 39) (h 40) (h 41) n m) from rfl]
    refine rr_ireturn dX9_kneels_25 rfl ?_
    refine jj_Qh (jj_rs_add (B := h2) (L := [(30, (rX2_search_30 (h 2) (h 3) (h 6) (h 8) (h 30) (h 31) (h 32) (h 33) (h 38) (h 39) (h 40) (h 41) n m)), (31, (rX2_search_31 (h 2) (h 3) (h 6) (h 8) (h 30) (h 31) (h 32) (h 33) (h 38) (h 39) (h 40) (h 41) n m)), (32, (rX2_search_32 (h 2) (h 3) (h 6) (h 8) (h 30) (h 31) (h 32) (h 33) (h 38) (h 39) (h 40) (h 41) n m)), (33, (rX2_search_33 (h 2) (h 3) (h 6) (h 8) (h 30) (h 31) (h 32) (h 33) (h 38) (h 39) (h 40) (h 41) n m))]) (L2 := [(0, (h 0)), (30, (rX2_search_30 (h 2) (h 3) (h 6) (h 8) (h 30) (h 31) (h 32) (h 33) (h 38) (h 39) (h 40) (h 41) n m)), (31, (rX2_search_31 (h 2) (h 3) (h 6) (h 8) (h 30) (h 31) (h 32) (h 33) (h 38) (h 39) (h 40) (h 41) n m)), (32, (rX2_search_32 (h 2) (h 3) (h 6) (h 8) (h 30) (h 31) (h 32) (h 33) (h 38) (h 39) (h 40) (h 41) n m)), (33, (rX2_search_33 (h 2) (h 3) (h 6) (h 8) (h 30) (h 31) (h 32) (h 33) (h 38) (h 39) (h 40) (h 41) n m))]) (o := 0) (r := (h 0)) ((show jj_rs h2 [(30, (rX2_search_30 (h 2) (h 3) (h 6) (h 8) (h 30) (h 31) (h 32) (h 33) (h 38) (h 39) (h 40) (h 41) n m)), (31, (rX2_search_31 (h 2) (h 3) (h 6) (h 8) (h 30) (h 31) (h 32) (h 33) (h 38) (h 39) (h 40) (h 41) n m)), (32, (rX2_search_32 (h 2) (h 3) (h 6) (h 8) (h 30) (h 31) (h 32) (h 33) (h 38) (h 39) (h 40) (h 41) n m)), (33, (rX2_search_33 (h 2) (h 3) (h 6) (h 8) (h 30) (h 31) (h 32) (h 33) (h 38) (h 39) (h 40) (h 41) n m))] 0 = h2 0 from rfl).trans (e4 0 (by decide))) rfl) ?_
    simpa only [vX9_kneels, rX9_kneels_0, rX9_kneels_30, rX9_kneels_31, rX9_kneels_32, rX9_kneels_33, if_neg c1] using kq h2 e4
  · skip
    show Q (.inr "java/util/NoSuchElementException") (jj_S, 782, (jj_rs h [(0, (upd (h 0) 13 ((h 0) 13 + 1)))]), g)
    refine jj_Qh (jj_rs_add (B := h) (L := [(0, (upd (h 0) 13 ((h 0) 13 + 1)))]) (L2 := [(0, (upd (h 0) 13 ((h 0) 13 + 1))), (30, (h 30))]) (o := 30) (r := (h 30)) rfl rfl) ?_
    refine jj_Qh (jj_rs_add (B := h) (L := [(0, (upd (h 0) 13 ((h 0) 13 + 1))), (30, (h 30))]) (L2 := [(0, (upd (h 0) 13 ((h 0) 13 + 1))), (30, (h 30)), (31, (h 31))]) (o := 31) (r := (h 31)) rfl rfl) ?_
    refine jj_Qh (jj_rs_add (B := h) (L := [(0, (upd (h 0) 13 ((h 0) 13 + 1))), (30, (h 30)), (31, (h 31))]) (L2 := [(0, (upd (h 0) 13 ((h 0) 13 + 1))), (30, (h 30)), (31, (h 31)), (32, (h 32))]) (o := 32) (r := (h 32)) rfl rfl) ?_
    refine jj_Qh (jj_rs_add (B := h) (L := [(0, (upd (h 0) 13 ((h 0) 13 + 1))), (30, (h 30)), (31, (h 31)), (32, (h 32))]) (L2 := [(0, (upd (h 0) 13 ((h 0) 13 + 1))), (30, (h 30)), (31, (h 31)), (32, (h 32)), (33, (h 33))]) (o := 33) (r := (h 33)) rfl rfl) ?_
    simpa only [vX9_kneels, rX9_kneels_0, rX9_kneels_30, rX9_kneels_31, rX9_kneels_32, rX9_kneels_33, if_pos c1] using kq h jj_eq.rf
