def rX2_keepIfBetter_30 (r30 : Nat → Int32) (r32 : Nat → Int32) (r33 : Nat → Int32) (v : Int32) (w : Int32) : Nat → Int32 := (if (r30 5) < v then (upd (upd r30 (5) v) (6) w) else (if v = (r30 5) then (if w ≤ (r30 6) then r30 else (upd (upd r30 (5) v) (6) w)) else r30))
def rX2_keepIfBetter_33 (r30 : Nat → Int32) (r32 : Nat → Int32) (r33 : Nat → Int32) (v : Int32) (w : Int32) : Nat → Int32 := (if (r30 5) < v then (va_cpy r32 r33 (0 : Int32).toNatClampNeg (0 : Int32).toNatClampNeg (8 : Int32).toNatClampNeg) else (if v = (r30 5) then (if w ≤ (r30 6) then r33 else (va_cpy r32 r33 (0 : Int32).toNatClampNeg (0 : Int32).toNatClampNeg (8 : Int32).toNatClampNeg)) else r33))
set_option maxHeartbeats 1000000 in
theorem sp_X2_keepIfBetter {d kc ks : Nat} {h : Nat → Nat → Int32} {g : Nat → Nat → Int64} {Q : jj_Rs → jj_St → Prop} {v : Int32} {w : Int32} (kq : Q (.inl none) (jj_S, 782, (jj_rs h [(30, (rX2_keepIfBetter_30 (h 30) (h 32) (h 33) v w)), (33, (rX2_keepIfBetter_33 (h 30) (h 32) (h 33) v w))]), g)) : jj_R mX2_keepIfBetter (d + 1) kc ks (jj_S, 782, h, g) 0 [(0, .ref 30), (1, .int v), (2, .int w)] [] Q := by
  refine rr_iload_n 1 rfl rfl dX2_keepIfBetter_0 ?_
  refine rr_aload_n 0 rfl rfl dX2_keepIfBetter_1 ?_
  refine rr_getI dX2_keepIfBetter_2 fX2_29 lo_30 sh_30 rfl ?_
  refine rr_icmp_gt dX2_keepIfBetter_5 (fun c1 => ?_) (fun c1 => ?_)
  · skip
    refine rr_aload_n 0 rfl rfl dX2_keepIfBetter_24 ?_
    refine rr_iload_n 1 rfl rfl dX2_keepIfBetter_25 ?_
    refine rr_putI dX2_keepIfBetter_26 fX2_29 ni2_5 lo_30 sh_30 rfl ?_
    rw [jj_rs_set0 (B := h) (o := 30) (r := (h 30)) rfl]
    refine rr_aload_n 0 rfl rfl dX2_keepIfBetter_29 ?_
    refine rr_iload_n 2 rfl rfl dX2_keepIfBetter_30 ?_
    refine rr_putI dX2_keepIfBetter_31 fX2_33 ni2_6 lo_30 sh_30 rfl ?_
    rw [jj_rs_set (B := h) (L := [(30, (upd (h 30) (5) v))]) (L2 := [(30, (upd (upd (h 30) (5) v) (6) w))]) (r := (upd (h 30) (5) v)) rfl rfl]
    refine rr_aload_n 0 rfl rfl dX2_keepIfBetter_34 ?_
    refine rr_getR dX2_keepIfBetter_35 fX2_15 lo_30 sh_30 rfl ?_
    refine rr_iconst 0 rfl dX2_keepIfBetter_38 ?_
    refine rr_aload_n 0 rfl rfl dX2_keepIfBetter_39 ?_
    refine rr_getR dX2_keepIfBetter_40 fX2_18 lo_30 sh_30 rfl ?_
    refine rr_iconst 0 rfl dX2_keepIfBetter_43 ?_
    refine rr_bipush 8 rfl dX2_keepIfBetter_44 ?_
    refine rr_copy (st := []) dX2_keepIfBetter_46 lX2_59 (Nat.le_of_ble_eq_true rfl) lo_32 lo_33 sh_32 sh_33 (by first | assumption | exact jj_pers hP hn (by assumption) | exact vp_in_nI (by omega) (by decide) | decide | omega) (by first | assumption | exact jj_pers hP hn (by assumption) | exact vp_in_nI (by omega) (by decide) | decide | omega) (by first | assumption | exact jj_pers hP hn (by assumption) | exact vp_in_nI (by omega) (by decide) | decide | omega) (by first | assumption | exact jj_pers hP hn (by assumption) | exact vp_in_nI (by omega) (by decide) | decide | omega) (by first | assumption | exact jj_pers hP hn (by assumption) | exact vp_in_nI (by omega) (by decide) | decide | omega) ?_
    rw [jj_rs_cp (B := h) (L := [(30, (upd (upd (h 30) (5) v) (6) w))]) (L2 := [(30, (upd (upd (h 30) (5) v) (6) w)), (33, (va_cpy (h 32) (h 33) (0 : Int32).toNatClampNeg (0 : Int32).toNatClampNeg (8 : Int32).toNatClampNeg))]) (f := (h 32)) (r := (h 33)) rfl rfl rfl]
    refine rr_return dX2_keepIfBetter_49 rfl ?_
    simpa only [rX2_keepIfBetter_30, rX2_keepIfBetter_33, if_pos c1] using kq
  · skip
    refine rr_iload_n 1 rfl rfl dX2_keepIfBetter_8 ?_
    refine rr_aload_n 0 rfl rfl dX2_keepIfBetter_9 ?_
    refine rr_getI dX2_keepIfBetter_10 fX2_29 lo_30 sh_30 rfl ?_
    refine rr_icmp_ne dX2_keepIfBetter_13 (fun c2 => ?_) (fun c2 => ?_)
    · skip
      refine rr_return dX2_keepIfBetter_49 rfl ?_
      refine jj_Qh (jj_addr (B := h) (o := 30) (r := (h 30)) rfl) ?_
      refine jj_Qh (jj_rs_add (B := h) (L := [(30, (h 30))]) (L2 := [(30, (h 30)), (33, (h 33))]) (o := 33) (r := (h 33)) rfl rfl) ?_
      simpa only [rX2_keepIfBetter_30, rX2_keepIfBetter_33, if_neg c1, if_neg c2] using kq
    · skip
      refine rr_iload_n 2 rfl rfl dX2_keepIfBetter_16 ?_
      refine rr_aload_n 0 rfl rfl dX2_keepIfBetter_17 ?_
      refine rr_getI dX2_keepIfBetter_18 fX2_33 lo_30 sh_30 rfl ?_
      refine rr_icmp_le dX2_keepIfBetter_21 (fun c3 => ?_) (fun c3 => ?_)
      · skip
        refine rr_return dX2_keepIfBetter_49 rfl ?_
        refine jj_Qh (jj_addr (B := h) (o := 30) (r := (h 30)) rfl) ?_
        refine jj_Qh (jj_rs_add (B := h) (L := [(30, (h 30))]) (L2 := [(30, (h 30)), (33, (h 33))]) (o := 33) (r := (h 33)) rfl rfl) ?_
        simpa only [rX2_keepIfBetter_30, rX2_keepIfBetter_33, if_neg c1, if_pos c2, if_pos c3] using kq
      · skip
        refine rr_aload_n 0 rfl rfl dX2_keepIfBetter_24 ?_
        refine rr_iload_n 1 rfl rfl dX2_keepIfBetter_25 ?_
        refine rr_putI dX2_keepIfBetter_26 fX2_29 ni2_5 lo_30 sh_30 rfl ?_
        rw [jj_rs_set0 (B := h) (o := 30) (r := (h 30)) rfl]
        refine rr_aload_n 0 rfl rfl dX2_keepIfBetter_29 ?_
        refine rr_iload_n 2 rfl rfl dX2_keepIfBetter_30 ?_
        refine rr_putI dX2_keepIfBetter_31 fX2_33 ni2_6 lo_30 sh_30 rfl ?_
        rw [jj_rs_set (B := h) (L := [(30, (upd (h 30) (5) v))]) (L2 := [(30, (upd (upd (h 30) (5) v) (6) w))]) (r := (upd (h 30) (5) v)) rfl rfl]
        refine rr_aload_n 0 rfl rfl dX2_keepIfBetter_34 ?_
        refine rr_getR dX2_keepIfBetter_35 fX2_15 lo_30 sh_30 rfl ?_
        refine rr_iconst 0 rfl dX2_keepIfBetter_38 ?_
        refine rr_aload_n 0 rfl rfl dX2_keepIfBetter_39 ?_
        refine rr_getR dX2_keepIfBetter_40 fX2_18 lo_30 sh_30 rfl ?_
        refine rr_iconst 0 rfl dX2_keepIfBetter_43 ?_
        refine rr_bipush 8 rfl dX2_keepIfBetter_44 ?_
        refine rr_copy (st := []) dX2_keepIfBetter_46 lX2_59 (Nat.le_of_ble_eq_true rfl) lo_32 lo_33 sh_32 sh_33 (by first | assumption | exact jj_pers hP hn (by assumption) | exact vp_in_nI (by omega) (by decide) | decide | omega) (by first | assumption | exact jj_pers hP hn (by assumption) | exact vp_in_nI (by omega) (by decide) | decide | omega) (by first | assumption | exact jj_pers hP hn (by assumption) | exact vp_in_nI (by omega) (by decide) | decide | omega) (by first | assumption | exact jj_pers hP hn (by assumption) | exact vp_in_nI (by omega) (by decide) | decide | omega) (by first | assumption | exact jj_pers hP hn (by assumption) | exact vp_in_nI (by omega) (by decide) | decide | omega) ?_
        rw [jj_rs_cp (B := h) (L := [(30, (upd (upd (h 30) (5) v) (6) w))]) (L2 := [(30, (upd (upd (h 30) (5) v) (6) w)), (33, (va_cpy (h 32) (h 33) (0 : Int32).toNatClampNeg (0 : Int32).toNatClampNeg (8 : Int32).toNatClampNeg))]) (f := (h 32)) (r := (h 33)) rfl rfl rfl]
        refine rr_return dX2_keepIfBetter_49 rfl ?_
        simpa only [rX2_keepIfBetter_30, rX2_keepIfBetter_33, if_neg c1, if_pos c2, if_neg c3] using kq
def rkn0_30 (r30 : Nat → Int32) (r32 : Nat → Int32) (r33 : Nat → Int32) (n : Nat) (v : Int32) (w : Int32) : Nat → Int32 := (if (r30 5) ≤ ((v + (nI n)) - (nI n)) then (rX2_keepIfBetter_30 r30 r32 r33 v w) else r30)
def rkn0_33 (r30 : Nat → Int32) (r32 : Nat → Int32) (r33 : Nat → Int32) (n : Nat) (v : Int32) (w : Int32) : Nat → Int32 := (if (r30 5) ≤ ((v + (nI n)) - (nI n)) then (rX2_keepIfBetter_33 r30 r32 r33 v w) else r33)
set_option maxHeartbeats 1000000 in
theorem sp_kn0 {d kc ks : Nat} {h : Nat → Nat → Int32} {g : Nat → Nat → Int64} {Q : jj_Rs → jj_St → Prop} {n : Nat} {b : Int32} {v : Int32} {w : Int32} (hP : h 1 0 = nI n) (hn : n ≤ 8) (kq : Q (.inl none) (jj_S, 782, (jj_rs h [(30, (rkn0_30 (h 30) (h 32) (h 33) n v w)), (33, (rkn0_33 (h 30) (h 32) (h 33) n v w))]), g)) : jj_R mX2_chooseFor (d + 2) kc ks (jj_S, 782, h, g) 0 [(0, .ref 30), (1, .ref 38), (2, .int (nI n)), (3, .int b), (4, .int v), (5, .int w)] [] Q := by
  refine rr_iload 4 rfl dX2_chooseFor_0 ?_
  refine rr_aload_n 0 rfl rfl dX2_chooseFor_2 ?_
  refine rr_getR dX2_chooseFor_3 fX2_21 lo_30 sh_30 rfl ?_
  refine rr_getI dX2_chooseFor_6 fX2_36 lo_1 sh_1 rfl ?_
  rw [hP]
  refine rr_iadd dX2_chooseFor_9 ?_
  refine rr_iload_n 2 rfl rfl dX2_chooseFor_10 ?_
  refine rr_isub dX2_chooseFor_11 ?_
  refine rr_aload_n 0 rfl rfl dX2_chooseFor_12 ?_
  refine rr_getI dX2_chooseFor_13 fX2_29 lo_30 sh_30 rfl ?_
  refine rr_icmp_ge dX2_chooseFor_16 (fun c1 => ?_) (fun c1 => ?_)
  · skip
    refine rr_iload_n 2 rfl rfl dX2_chooseFor_20 ?_
    refine rr_aload_n 0 rfl rfl dX2_chooseFor_21 ?_
    refine rr_getR dX2_chooseFor_22 fX2_21 lo_30 sh_30 rfl ?_
    refine rr_getI dX2_chooseFor_25 fX2_36 lo_1 sh_1 rfl ?_
    rw [hP]
    refine rr_icmp_ge dX2_chooseFor_28 (fun _ => ?_) (fun c => absurd (jj_le_rf _) c)
    refine rr_aload_n 0 rfl rfl dX2_chooseFor_37 ?_
    refine rr_iload 4 rfl dX2_chooseFor_38 ?_
    refine rr_iload 5 rfl dX2_chooseFor_40 ?_
    refine rr_callV (As := [.int v, .int w]) (rest := []) (kc2 := 0) (ks2 := 0) dX2_chooseFor_42 okX2_keepIfBetter lX2_51 lo_30 sh_30 rfl rfl (Nat.le_of_ble_eq_true rfl) (Nat.le_of_ble_eq_true rfl) rfl (by omega) (by simp [jj_rk]) (by simp [jj_rk]) ?_
    refine sp_X2_keepIfBetter  ?_
    show jj_R _ _ kc ks (jj_S, 782, (jj_rs h [(30, (rX2_keepIfBetter_30 (h 30) (h 32) (h 33) v w)), (33, (rX2_keepIfBetter_33 (h 30) (h 32) (h 33) v w))]), g) 45 [(0, .ref 30), (1, .ref 38), (2, .int (nI n)), (3, .int b), (4, .int v), (5, .int w)] [] Q
    refine rr_return dX2_chooseFor_45 rfl ?_
    simpa only [rkn0_30, rkn0_33, if_pos c1] using kq
  · skip
    refine rr_return dX2_chooseFor_19 rfl ?_
    refine jj_Qh (jj_addr (B := h) (o := 30) (r := (h 30)) rfl) ?_
    refine jj_Qh (jj_rs_add (B := h) (L := [(30, (h 30))]) (L2 := [(30, (h 30)), (33, (h 33))]) (o := 33) (r := (h 33)) rfl rfl) ?_
    simpa only [rkn0_30, rkn0_33, if_neg c1] using kq
def fkn1_1 (r31 : Nat → Int32) (r38 : Nat → Int32) (r39 : Nat → Int32) (K : Nat → Int32 → Int32 → Int32 → (Nat → Int32) → (Nat → Int32) → (Nat → Int32) → (Nat → Int32) × (Nat → Int32) × (Nat → Int32)) (P : Nat) (b : Int32) (v : Int32) (w : Int32) (k1 : Nat) (a1 : (Nat → Int32) × (Nat → Int32) × (Nat → Int32)) : (Nat → Int32) × (Nat → Int32) × (Nat → Int32) := (if (((r31 ((nI P) : Int32).toNatClampNeg) &&& (b ^^^ ((-1) : Int32))) &&& (1 <<< ((nI k1) &&& 31))) = 0 then (a1.1, a1.2.1, a1.2.2) else ((K (P + 1) (b ||| (1 <<< ((nI k1) &&& 31))) (v + 1) (w + (vX3_dayBy_n r38 r39 (nI k1) (nI P))) a1.1 (upd a1.2.1 (((nI P) : Int32).toNatClampNeg) (nI k1)) a1.2.2).1, (K (P + 1) (b ||| (1 <<< ((nI k1) &&& 31))) (v + 1) (w + (vX3_dayBy_n r38 r39 (nI k1) (nI P))) a1.1 (upd a1.2.1 (((nI P) : Int32).toNatClampNeg) (nI k1)) a1.2.2).2.1, (K (P + 1) (b ||| (1 <<< ((nI k1) &&& 31))) (v + 1) (w + (vX3_dayBy_n r38 r39 (nI k1) (nI P))) a1.1 (upd a1.2.1 (((nI P) : Int32).toNatClampNeg) (nI k1)) a1.2.2).2.2))
def rkn1_30 (r30 : Nat → Int32) (r31 : Nat → Int32) (r32 : Nat → Int32) (r33 : Nat → Int32) (r38 : Nat → Int32) (r39 : Nat → Int32) (n : Nat) (K : Nat → Int32 → Int32 → Int32 → (Nat → Int32) → (Nat → Int32) → (Nat → Int32) → (Nat → Int32) × (Nat → Int32) × (Nat → Int32)) (P : Nat) (b : Int32) (v : Int32) (w : Int32) : Nat → Int32 := (if (r30 5) ≤ ((v + (nI n)) - (nI P)) then (K (P + 1) b v w ((jj_fo (fkn1_1 r31 r38 r39 K P b v w) n (r30, r32, r33)).1) (upd (jj_fo (fkn1_1 r31 r38 r39 K P b v w) n (r30, r32, r33)).2.1 (((nI P) : Int32).toNatClampNeg) (-1)) ((jj_fo (fkn1_1 r31 r38 r39 K P b v w) n (r30, r32, r33)).2.2)).1 else r30)
def rkn1_32 (r30 : Nat → Int32) (r31 : Nat → Int32) (r32 : Nat → Int32) (r33 : Nat → Int32) (r38 : Nat → Int32) (r39 : Nat → Int32) (n : Nat) (K : Nat → Int32 → Int32 → Int32 → (Nat → Int32) → (Nat → Int32) → (Nat → Int32) → (Nat → Int32) × (Nat → Int32) × (Nat → Int32)) (P : Nat) (b : Int32) (v : Int32) (w : Int32) : Nat → Int32 := (if (r30 5) ≤ ((v + (nI n)) - (nI P)) then (K (P + 1) b v w ((jj_fo (fkn1_1 r31 r38 r39 K P b v w) n (r30, r32, r33)).1) (upd (jj_fo (fkn1_1 r31 r38 r39 K P b v w) n (r30, r32, r33)).2.1 (((nI P) : Int32).toNatClampNeg) (-1)) ((jj_fo (fkn1_1 r31 r38 r39 K P b v w) n (r30, r32, r33)).2.2)).2.1 else r32)
def rkn1_33 (r30 : Nat → Int32) (r31 : Nat → Int32) (r32 : Nat → Int32) (r33 : Nat → Int32) (r38 : Nat → Int32) (r39 : Nat → Int32) (n : Nat) (K : Nat → Int32 → Int32 → Int32 → (Nat → Int32) → (Nat → Int32) → (Nat → Int32) → (Nat → Int32) × (Nat → Int32) × (Nat → Int32)) (P : Nat) (b : Int32) (v : Int32) (w : Int32) : Nat → Int32 := (if (r30 5) ≤ ((v + (nI n)) - (nI P)) then (K (P + 1) b v w ((jj_fo (fkn1_1 r31 r38 r39 K P b v w) n (r30, r32, r33)).1) (upd (jj_fo (fkn1_1 r31 r38 r39 K P b v w) n (r30, r32, r33)).2.1 (((nI P) : Int32).toNatClampNeg) (-1)) ((jj_fo (fkn1_1 r31 r38 r39 K P b v w) n (r30, r32, r33)).2.2)).2.2 else r33)
set_option maxHeartbeats 1000000 in
theorem sp_kn1 {d kc ks : Nat} {h : Nat → Nat → Int32} {g : Nat → Nat → Int64} {Q : jj_Rs → jj_St → Prop} {n : Nat} {K : Nat → Int32 → Int32 → Int32 → (Nat → Int32) → (Nat → Int32) → (Nat → Int32) → (Nat → Int32) × (Nat → Int32) × (Nat → Int32)} {P : Nat} {b : Int32} {v : Int32} {w : Int32} (hP : h 1 0 = nI n) (hn : n ≤ 8) (hp : P < n) (ih : ∀ {kc ks : Nat} {h2 : Nat → Nat → Int32} {g : Nat → Nat → Int64} {Q : jj_Rs → jj_St → Prop} {b v w : Int32}, h2 1 0 = nI n → h2 31 = h 31 → h2 38 = h 38 → h2 39 = h 39 → Q (.inl none) (jj_S, 782, jj_rs h2 [(30, (K (P + 1) b v w (h2 30) (h2 32) (h2 33)).1), (32, (K (P + 1) b v w (h2 30) (h2 32) (h2 33)).2.1), (33, (K (P + 1) b v w (h2 30) (h2 32) (h2 33)).2.2)], g) → jj_R mX2_chooseFor (d + 3) kc ks (jj_S, 782, h2, g) 0 [(0, .ref 30), (1, .ref 38), (2, .int (nI (P + 1))), (3, .int b), (4, .int v), (5, .int w)] [] Q) (kq : Q (.inl none) (jj_S, 782, (jj_rs h [(30, (rkn1_30 (h 30) (h 31) (h 32) (h 33) (h 38) (h 39) n K P b v w)), (32, (rkn1_32 (h 30) (h 31) (h 32) (h 33) (h 38) (h 39) n K P b v w)), (33, (rkn1_33 (h 30) (h 31) (h 32) (h 33) (h 38) (h 39) n K P b v w))]), g)) : jj_R mX2_chooseFor (d + 4) kc ks (jj_S, 782, h, g) 0 [(0, .ref 30), (1, .ref 38), (2, .int (nI P)), (3, .int b), (4, .int v), (5, .int w)] [] Q := by
  refine rr_iload 4 rfl dX2_chooseFor_0 ?_
  refine rr_aload_n 0 rfl rfl dX2_chooseFor_2 ?_
  refine rr_getR dX2_chooseFor_3 fX2_21 lo_30 sh_30 rfl ?_
  refine rr_getI dX2_chooseFor_6 fX2_36 lo_1 sh_1 rfl ?_
  rw [hP]
  refine rr_iadd dX2_chooseFor_9 ?_
  refine rr_iload_n 2 rfl rfl dX2_chooseFor_10 ?_
  refine rr_isub dX2_chooseFor_11 ?_
  refine rr_aload_n 0 rfl rfl dX2_chooseFor_12 ?_
  refine rr_getI dX2_chooseFor_13 fX2_29 lo_30 sh_30 rfl ?_
  refine rr_icmp_ge dX2_chooseFor_16 (fun c1 => ?_) (fun c1 => ?_)
  · skip
    refine rr_iload_n 2 rfl rfl dX2_chooseFor_20 ?_
    refine rr_aload_n 0 rfl rfl dX2_chooseFor_21 ?_
    refine rr_getR dX2_chooseFor_22 fX2_21 lo_30 sh_30 rfl ?_
    refine rr_getI dX2_chooseFor_25 fX2_36 lo_1 sh_1 rfl ?_
    rw [hP]
    refine rr_icmp_ge dX2_chooseFor_28 (fun c => absurd c (nI_ge (a := P) (b := n) (by omega) (by omega))) (fun _ => ?_)
    refine rr_iload_n 2 rfl rfl dX2_chooseFor_31 ?_
    refine rr_bipush 8 rfl dX2_chooseFor_32 ?_
    refine rr_icmp_lt dX2_chooseFor_34 (fun _ => ?_) (fun c => absurd (nI_lt (a := P) (b := 8) (by omega) (by decide)) c)
    refine rr_iconst 0 rfl dX2_chooseFor_46 ?_
    refine rr_istore [(0, .ref 30), (1, .ref 38), (2, .int (nI P)), (3, .int b), (4, .int v), (5, .int w), (6, .int 0)] dX2_chooseFor_47 (by decide) rfl ?_
    refine jj_Rh (jj_addr (B := h) (o := 30) (r := (h 30)) rfl) ?_
    refine jj_Rh (jj_rs_add (B := h) (L := [(30, (h 30))]) (L2 := [(30, (h 30)), (32, (h 32))]) (o := 32) (r := (h 32)) rfl rfl) ?_
    refine jj_Rh (jj_rs_add (B := h) (L := [(30, (h 30)), (32, (h 32))]) (L2 := [(30, (h 30)), (32, (h 32)), (33, (h 33))]) (o := 33) (r := (h 33)) rfl rfl) ?_
    refine jj_for (fun k1 (a1 : (Nat → Int32) × (Nat → Int32) × (Nat → Int32)) => jj_R _ _ kc ks (jj_S, 782, (jj_rs h [(30, a1.1), (32, a1.2.1), (33, a1.2.2)]), g) 49 [(0, .ref 30), (1, .ref 38), (2, .int (nI P)), (3, .int b), (4, .int v), (5, .int w), (6, .int (nI k1))] [] Q) (fkn1_1 (h 31) (h 38) (h 39) K P b v w) n ((h 30), (h 32), (h 33)) ?_ ?_
    · intro k1 hk1 ih1
      generalize jj_fo _ k1 _ = a1 at ih1 ⊢
      try dsimp only at ih1 ⊢
      refine rr_iload 6 rfl dX2_chooseFor_49 ?_
      refine rr_aload_n 0 rfl rfl dX2_chooseFor_51 ?_
      refine rr_getR dX2_chooseFor_52 fX2_21 lo_30 sh_30 rfl ?_
      refine rr_getI dX2_chooseFor_55 fX2_36 lo_1 sh_1 rfl ?_
      rw [show (jj_rs h [(30, a1.1), (32, a1.2.1), (33, a1.2.2)]) 1 = h 1 from rfl]
      rw [hP]
      refine rr_icmp_ge dX2_chooseFor_58 (fun c => absurd c (nI_ge (a := k1) (b := n) (by omega) (by omega))) (fun _ => ?_)
      refine rr_aload_n 0 rfl rfl dX2_chooseFor_61 ?_
      refine rr_getR dX2_chooseFor_62 fX2_9 lo_30 sh_30 rfl ?_
      refine rr_iload_n 2 rfl rfl dX2_chooseFor_65 ?_
      refine rr_iaload dX2_chooseFor_66 lo_31 sh_31 (by first | assumption | exact jj_pers hP hn (by assumption) | exact vp_in_nI (by omega) (by decide) | decide | omega) ?_
      rw [show (jj_rs h [(30, a1.1), (32, a1.2.1), (33, a1.2.2)]) 31 = h 31 from rfl]
      refine rr_iload_n 3 rfl rfl dX2_chooseFor_67 ?_
      refine rr_iconst (-1) rfl dX2_chooseFor_68 ?_
      refine rr_ixor dX2_chooseFor_69 ?_
      refine rr_iand dX2_chooseFor_70 ?_
      refine rr_iconst 1 rfl dX2_chooseFor_71 ?_
      refine rr_iload 6 rfl dX2_chooseFor_72 ?_
      refine rr_ishl dX2_chooseFor_74 ?_
      refine rr_iand dX2_chooseFor_75 ?_
      refine rr_if_eq dX2_chooseFor_76 (fun c2 => ?_) (fun c2 => ?_)
      · skip
        refine rr_iinc 6 1 [(0, .ref 30), (1, .ref 38), (2, .int (nI P)), (3, .int b), (4, .int v), (5, .int w), (6, .int ((nI k1) + 1))] dX2_chooseFor_115 rfl rfl (by decide) rfl ?_
        refine rr_goto dX2_chooseFor_118 ?_
        try simp only [(nI_clamp (show k1 < 2 ^ 31 by omega))] at c2
        simpa only [nI_1, (nI_clamp (show k1 < 2 ^ 31 by omega)), fkn1_1, if_pos c2] using ih1
      · skip
        refine rr_aload_n 0 rfl rfl dX2_chooseFor_79 ?_
        refine rr_getR dX2_chooseFor_80 fX2_15 lo_30 sh_30 rfl ?_
        refine rr_iload_n 2 rfl rfl dX2_chooseFor_83 ?_
        refine rr_iload 6 rfl dX2_chooseFor_84 ?_
        refine rr_iastore dX2_chooseFor_86 lo_32 sh_32 (by first | assumption | exact jj_pers hP hn (by assumption) | exact vp_in_nI (by omega) (by decide) | decide | omega) ?_
        rw [jj_rs_set (B := h) (L := [(30, a1.1), (32, a1.2.1), (33, a1.2.2)]) (L2 := [(30, a1.1), (32, (upd a1.2.1 (((nI P) : Int32).toNatClampNeg) (nI k1))), (33, a1.2.2)]) (r := a1.2.1) rfl rfl]
        refine rr_aload_n 0 rfl rfl dX2_chooseFor_87 ?_
        refine rr_aload_n 1 rfl rfl dX2_chooseFor_88 ?_
        refine rr_iload_n 2 rfl rfl dX2_chooseFor_89 ?_
        refine rr_iconst 1 rfl dX2_chooseFor_90 ?_
        refine rr_iadd dX2_chooseFor_91 ?_
        rw [show ((nI P) + 1 : Int32) = (nI (P + 1)) from nI_add (P) (1)]
        refine rr_iload_n 3 rfl rfl dX2_chooseFor_92 ?_
        refine rr_iconst 1 rfl dX2_chooseFor_93 ?_
        refine rr_iload 6 rfl dX2_chooseFor_94 ?_
        refine rr_ishl dX2_chooseFor_96 ?_
        refine rr_ior dX2_chooseFor_97 ?_
        refine rr_iload 4 rfl dX2_chooseFor_98 ?_
        refine rr_iconst 1 rfl dX2_chooseFor_100 ?_
        refine rr_iadd dX2_chooseFor_101 ?_
        refine rr_iload 5 rfl dX2_chooseFor_102 ?_
        refine rr_aload_n 1 rfl rfl dX2_chooseFor_104 ?_
        refine rr_iload 6 rfl dX2_chooseFor_105 ?_
        refine rr_iload_n 2 rfl rfl dX2_chooseFor_107 ?_
        refine rr_callS (As := [.ref 38, .int (nI k1), .int (nI P)]) (rest := [.int w, .int (v + 1), .int (b ||| (1 <<< ((nI k1) &&& 31))), .int (nI (P + 1)), .ref 38, .ref 30]) (kc2 := 0) (ks2 := 0) dX2_chooseFor_108 okX3_dayBy lX2_55 rfl (Nat.le_of_ble_eq_true rfl) (Nat.le_of_ble_eq_true rfl) rfl (by omega) (by simp [jj_rk]) (by simp [jj_rk]) ?_
        refine sp_X3_dayBy_n (by first | assumption | (rw [show (jj_rs h [(30, a1.1), (32, (upd a1.2.1 (((nI P) : Int32).toNatClampNeg) (nI k1))), (33, a1.2.2)]) 7 = h 7 from rfl]; assumption) | (rw [show (jj_rs h [(30, a1.1), (32, (upd a1.2.1 (((nI P) : Int32).toNatClampNeg) (nI k1))), (33, a1.2.2)]) 1 = h 1 from rfl]; assumption) | exact jj_pers hP hn (by assumption) | exact vp_in_nI (by omega) (by decide) | decide | omega) ?_
        show jj_R _ _ kc ks (jj_S, 782, (jj_rs h [(30, a1.1), (32, (upd a1.2.1 (((nI P) : Int32).toNatClampNeg) (nI k1))), (33, a1.2.2)]), g) 111 [(0, .ref 30), (1, .ref 38), (2, .int (nI P)), (3, .int b), (4, .int v), (5, .int w), (6, .int (nI k1))] [.int (vX3_dayBy_n (h 38) (h 39) (nI k1) (nI P)), .int w, .int (v + 1), .int (b ||| (1 <<< ((nI k1) &&& 31))), .int (nI (P + 1)), .ref 38, .ref 30] Q
        refine rr_iadd dX2_chooseFor_111 ?_
        refine rr_callV (As := [.ref 38, .int (nI (P + 1)), .int (b ||| (1 <<< ((nI k1) &&& 31))), .int (v + 1), .int (w + (vX3_dayBy_n (h 38) (h 39) (nI k1) (nI P)))]) (rest := []) (kc2 := 0) (ks2 := 0) dX2_chooseFor_112 okX2_chooseFor lX2_47 lo_30 sh_30 rfl rfl (Nat.le_of_ble_eq_true rfl) (Nat.le_of_ble_eq_true rfl) rfl (by omega) (by simp [jj_rk]) (by simp [jj_rk]) ?_
        refine ih hP rfl rfl rfl ?_
        show jj_R _ _ kc ks (jj_S, 782, (jj_rs (jj_rs h [(30, a1.1), (32, (upd a1.2.1 (((nI P) : Int32).toNatClampNeg) (nI k1))), (33, a1.2.2)]) [(30, (K (P + 1) (b ||| (1 <<< ((nI k1) &&& 31))) (v + 1) (w + (vX3_dayBy_n (h 38) (h 39) (nI k1) (nI P))) a1.1 (upd a1.2.1 (((nI P) : Int32).toNatClampNeg) (nI k1)) a1.2.2).1), (32, (K (P + 1) (b ||| (1 <<< ((nI k1) &&& 31))) (v + 1) (w + (vX3_dayBy_n (h 38) (h 39) (nI k1) (nI P))) a1.1 (upd a1.2.1 (((nI P) : Int32).toNatClampNeg) (nI k1)) a1.2.2).2.1), (33, (K (P + 1) (b ||| (1 <<< ((nI k1) &&& 31))) (v + 1) (w + (vX3_dayBy_n (h 38) (h 39) (nI k1) (nI P))) a1.1 (upd a1.2.1 (((nI P) : Int32).toNatClampNeg) (nI k1)) a1.2.2).2.2)]), g) 115 [(0, .ref 30), (1, .ref 38), (2, .int (nI P)), (3, .int b), (4, .int v), (5, .int w), (6, .int (nI k1))] [] Q
        rw [jj_rs_rs (B := h) (L := [(30, a1.1), (32, (upd a1.2.1 (((nI P) : Int32).toNatClampNeg) (nI k1))), (33, a1.2.2)]) (M := [(30, (K (P + 1) (b ||| (1 <<< ((nI k1) &&& 31))) (v + 1) (w + (vX3_dayBy_n (h 38) (h 39) (nI k1) (nI P))) a1.1 (upd a1.2.1 (((nI P) : Int32).toNatClampNeg) (nI k1)) a1.2.2).1), (32, (K (P + 1) (b ||| (1 <<< ((nI k1) &&& 31))) (v + 1) (w + (vX3_dayBy_n (h 38) (h 39) (nI k1) (nI P))) a1.1 (upd a1.2.1 (((nI P) : Int32).toNatClampNeg) (nI k1)) a1.2.2).2.1), (33, (K (P + 1) (b ||| (1 <<< ((nI k1) &&& 31))) (v + 1) (w + (vX3_dayBy_n (h 38) (h 39) (nI k1) (nI P))) a1.1 (upd a1.2.1 (((nI P) : Int32).toNatClampNeg) (nI k1)) a1.2.2).2.2)]) (L2 := [(30, (K (P + 1) (b ||| (1 <<< ((nI k1) &&& 31))) (v + 1) (w + (vX3_dayBy_n (h 38) (h 39) (nI k1) (nI P))) a1.1 (upd a1.2.1 (((nI P) : Int32).toNatClampNeg) (nI k1)) a1.2.2).1), (32, (K (P + 1) (b ||| (1 <<< ((nI k1) &&& 31))) (v + 1) (w + (vX3_dayBy_n (h 38) (h 39) (nI k1) (nI P))) a1.1 (upd a1.2.1 (((nI P) : Int32).toNatClampNeg) (nI k1)) a1.2.2).2.1), (33, (K (P + 1) (b ||| (1 <<< ((nI k1) &&& 31))) (v + 1) (w + (vX3_dayBy_n (h 38) (h 39) (nI k1) (nI P))) a1.1 (upd a1.2.1 (((nI P) : Int32).toNatClampNeg) (nI k1)) a1.2.2).2.2)]) rfl]
        refine rr_iinc 6 1 [(0, .ref 30), (1, .ref 38), (2, .int (nI P)), (3, .int b), (4, .int v), (5, .int w), (6, .int ((nI k1) + 1))] dX2_chooseFor_115 rfl rfl (by decide) rfl ?_
        refine rr_goto dX2_chooseFor_118 ?_
        try simp only [(nI_clamp (show k1 < 2 ^ 31 by omega))] at c2
        simpa only [nI_1, (nI_clamp (show k1 < 2 ^ 31 by omega)), fkn1_1, if_neg c2] using ih1
    · try dsimp only
      refine rr_iload 6 rfl dX2_chooseFor_49 ?_
      refine rr_aload_n 0 rfl rfl dX2_chooseFor_51 ?_
      refine rr_getR dX2_chooseFor_52 fX2_21 lo_30 sh_30 rfl ?_
      refine rr_getI dX2_chooseFor_55 fX2_36 lo_1 sh_1 rfl ?_
      rw [show (jj_rs h [(30, (jj_fo (fkn1_1 (h 31) (h 38) (h 39) K P b v w) n ((h 30), (h 32), (h 33))).1), (32, (jj_fo (fkn1_1 (h 31) (h 38) (h 39) K P b v w) n ((h 30), (h 32), (h 33))).2.1), (33, (jj_fo (fkn1_1 (h 31) (h 38) (h 39) K P b v w) n ((h 30), (h 32), (h 33))).2.2)]) 1 = h 1 from rfl]
      rw [hP]
      refine rr_icmp_ge dX2_chooseFor_58 (fun _ => ?_) (fun c => absurd (jj_le_rf _) c)
      refine rr_aload_n 0 rfl rfl dX2_chooseFor_121 ?_
      refine rr_getR dX2_chooseFor_122 fX2_15 lo_30 sh_30 rfl ?_
      refine rr_iload_n 2 rfl rfl dX2_chooseFor_125 ?_
      refine rr_iconst (-1) rfl dX2_chooseFor_126 ?_
      refine rr_iastore dX2_chooseFor_127 lo_32 sh_32 (by first | assumption | exact jj_pers hP hn (by assumption) | exact vp_in_nI (by omega) (by decide) | decide | omega) ?_
      rw [jj_rs_set (B := h) (L := [(30, (jj_fo (fkn1_1 (h 31) (h 38) (h 39) K P b v w) n ((h 30), (h 32), (h 33))).1), (32, (jj_fo (fkn1_1 (h 31) (h 38) (h 39) K P b v w) n ((h 30), (h 32), (h 33))).2.1), (33, (jj_fo (fkn1_1 (h 31) (h 38) (h 39) K P b v w) n ((h 30), (h 32), (h 33))).2.2)]) (L2 := [(30, (jj_fo (fkn1_1 (h 31) (h 38) (h 39) K P b v w) n ((h 30), (h 32), (h 33))).1), (32, (upd (jj_fo (fkn1_1 (h 31) (h 38) (h 39) K P b v w) n ((h 30), (h 32), (h 33))).2.1 (((nI P) : Int32).toNatClampNeg) (-1))), (33, (jj_fo (fkn1_1 (h 31) (h 38) (h 39) K P b v w) n ((h 30), (h 32), (h 33))).2.2)]) (r := (jj_fo (fkn1_1 (h 31) (h 38) (h 39) K P b v w) n ((h 30), (h 32), (h 33))).2.1) rfl rfl]
      refine rr_aload_n 0 rfl rfl dX2_chooseFor_128 ?_
      refine rr_aload_n 1 rfl rfl dX2_chooseFor_129 ?_
      refine rr_iload_n 2 rfl rfl dX2_chooseFor_130 ?_
      refine rr_iconst 1 rfl dX2_chooseFor_131 ?_
      refine rr_iadd dX2_chooseFor_132 ?_
      rw [show ((nI P) + 1 : Int32) = (nI (P + 1)) from nI_add (P) (1)]
      refine rr_iload_n 3 rfl rfl dX2_chooseFor_133 ?_
      refine rr_iload 4 rfl dX2_chooseFor_134 ?_
      refine rr_iload 5 rfl dX2_chooseFor_136 ?_
      refine rr_callV (As := [.ref 38, .int (nI (P + 1)), .int b, .int v, .int w]) (rest := []) (kc2 := 0) (ks2 := 0) dX2_chooseFor_138 okX2_chooseFor lX2_47 lo_30 sh_30 rfl rfl (Nat.le_of_ble_eq_true rfl) (Nat.le_of_ble_eq_true rfl) rfl (by omega) (by simp [jj_rk]) (by simp [jj_rk]) ?_
      refine ih hP rfl rfl rfl ?_
      show jj_R _ _ kc ks (jj_S, 782, (jj_rs (jj_rs h [(30, (jj_fo (fkn1_1 (h 31) (h 38) (h 39) K P b v w) n ((h 30), (h 32), (h 33))).1), (32, (upd (jj_fo (fkn1_1 (h 31) (h 38) (h 39) K P b v w) n ((h 30), (h 32), (h 33))).2.1 (((nI P) : Int32).toNatClampNeg) (-1))), (33, (jj_fo (fkn1_1 (h 31) (h 38) (h 39) K P b v w) n ((h 30), (h 32), (h 33))).2.2)]) [(30, (K (P + 1) b v w ((jj_fo (fkn1_1 (h 31) (h 38) (h 39) K P b v w) n ((h 30), (h 32), (h 33))).1) (upd (jj_fo (fkn1_1 (h 31) (h 38) (h 39) K P b v w) n ((h 30), (h 32), (h 33))).2.1 (((nI P) : Int32).toNatClampNeg) (-1)) ((jj_fo (fkn1_1 (h 31) (h 38) (h 39) K P b v w) n ((h 30), (h 32), (h 33))).2.2)).1), (32, (K (P + 1) b v w ((jj_fo (fkn1_1 (h 31) (h 38) (h 39) K P b v w) n ((h 30), (h 32), (h 33))).1) (upd (jj_fo (fkn1_1 (h 31) (h 38) (h 39) K P b v w) n ((h 30), (h 32), (h 33))).2.1 (((nI P) : Int32).toNatClampNeg) (-1)) ((jj_fo (fkn1_1 (h 31) (h 38) (h 39) K P b v w) n ((h 30), (h 32), (h 33))).2.2)).2.1), (33, (K (P + 1) b v w ((jj_fo (fkn1_1 (h 31) (h 38) (h 39) K P b v w) n ((h 30), (h 32), (h 33))).1) (upd (jj_fo (fkn1_1 (h 31) (h 38) (h 39) K P b v w) n ((h 30), (h 32), (h 33))).2.1 (((nI P) : Int32).toNatClampNeg) (-1)) ((jj_fo (fkn1_1 (h 31) (h 38) (h 39) K P b v w) n ((h 30), (h 32), (h 33))).2.2)).2.2)]), g) 141 [(0, .ref 30), (1, .ref 38), (2, .int (nI P)), (3, .int b), (4, .int v), (5, .int w), (6, .int (nI n))] [] Q
      rw [jj_rs_rs (B := h) (L := [(30, (jj_fo (fkn1_1 (h 31) (h 38) (h 39) K P b v w) n ((h 30), (h 32), (h 33))).1), (32, (upd (jj_fo (fkn1_1 (h 31) (h 38) (h 39) K P b v w) n ((h 30), (h 32), (h 33))).2.1 (((nI P) : Int32).toNatClampNeg) (-1))), (33, (jj_fo (fkn1_1 (h 31) (h 38) (h 39) K P b v w) n ((h 30), (h 32), (h 33))).2.2)]) (M := [(30, (K (P + 1) b v w ((jj_fo (fkn1_1 (h 31) (h 38) (h 39) K P b v w) n ((h 30), (h 32), (h 33))).1) (upd (jj_fo (fkn1_1 (h 31) (h 38) (h 39) K P b v w) n ((h 30), (h 32), (h 33))).2.1 (((nI P) : Int32).toNatClampNeg) (-1)) ((jj_fo (fkn1_1 (h 31) (h 38) (h 39) K P b v w) n ((h 30), (h 32), (h 33))).2.2)).1), (32, (K (P + 1) b v w ((jj_fo (fkn1_1 (h 31) (h 38) (h 39) K P b v w) n ((h 30), (h 32), (h 33))).1) (upd (jj_fo (fkn1_1 (h 31) (h 38) (h 39) K P b v w) n ((h 30), (h 32), (h 33))).2.1 (((nI P) : Int32).toNatClampNeg) (-1)) ((jj_fo (fkn1_1 (h 31) (h 38) (h 39) K P b v w) n ((h 30), (h 32), (h 33))).2.2)).2.1), (33, (K (P + 1) b v w ((jj_fo (fkn1_1 (h 31) (h 38) (h 39) K P b v w) n ((h 30), (h 32), (h 33))).1) (upd (jj_fo (fkn1_1 (h 31) (h 38) (h 39) K P b v w) n ((h 30), (h 32), (h 33))).2.1 (((nI P) : Int32).toNatClampNeg) (-1)) ((jj_fo (fkn1_1 (h 31) (h 38) (h 39) K P b v w) n ((h 30), (h 32), (h 33))).2.2)).2.2)]) (L2 := [(30, (K (P + 1) b v w ((jj_fo (fkn1_1 (h 31) (h 38) (h 39) K P b v w) n ((h 30), (h 32), (h 33))).1) (upd (jj_fo (fkn1_1 (h 31) (h 38) (h 39) K P b v w) n ((h 30), (h 32), (h 33))).2.1 (((nI P) : Int32).toNatClampNeg) (-1)) ((jj_fo (fkn1_1 (h 31) (h 38) (h 39) K P b v w) n ((h 30), (h 32), (h 33))).2.2)).1), (32, (K (P + 1) b v w ((jj_fo (fkn1_1 (h 31) (h 38) (h 39) K P b v w) n ((h 30), (h 32), (h 33))).1) (upd (jj_fo (fkn1_1 (h 31) (h 38) (h 39) K P b v w) n ((h 30), (h 32), (h 33))).2.1 (((nI P) : Int32).toNatClampNeg) (-1)) ((jj_fo (fkn1_1 (h 31) (h 38) (h 39) K P b v w) n ((h 30), (h 32), (h 33))).2.2)).2.1), (33, (K (P + 1) b v w ((jj_fo (fkn1_1 (h 31) (h 38) (h 39) K P b v w) n ((h 30), (h 32), (h 33))).1) (upd (jj_fo (fkn1_1 (h 31) (h 38) (h 39) K P b v w) n ((h 30), (h 32), (h 33))).2.1 (((nI P) : Int32).toNatClampNeg) (-1)) ((jj_fo (fkn1_1 (h 31) (h 38) (h 39) K P b v w) n ((h 30), (h 32), (h 33))).2.2)).2.2)]) rfl]
      refine rr_return dX2_chooseFor_141 rfl ?_
      simpa only [rkn1_30, rkn1_32, rkn1_33, if_pos c1] using kq
  · skip
    refine rr_return dX2_chooseFor_19 rfl ?_
    refine jj_Qh (jj_addr (B := h) (o := 30) (r := (h 30)) rfl) ?_
    refine jj_Qh (jj_rs_add (B := h) (L := [(30, (h 30))]) (L2 := [(30, (h 30)), (32, (h 32))]) (o := 32) (r := (h 32)) rfl rfl) ?_
    refine jj_Qh (jj_rs_add (B := h) (L := [(30, (h 30)), (32, (h 32))]) (L2 := [(30, (h 30)), (32, (h 32)), (33, (h 33))]) (o := 33) (r := (h 33)) rfl rfl) ?_
    simpa only [rkn1_30, rkn1_32, rkn1_33, if_neg c1] using kq
