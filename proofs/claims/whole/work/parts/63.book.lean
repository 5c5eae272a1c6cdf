def vX0_isTwice (r13 : Nat → Int32) (r27 : Nat → Int32) : Int32 := (if (r13 5) < 0 then 0 else (if 8 ≤ (r13 5) then 0 else (if (r27 ((r13 5) : Int32).toNatClampNeg) = (-1) then 0 else 1)))
set_option maxHeartbeats 1000000 in
theorem sp_X0_isTwice {d kc ks : Nat} {h : Nat → Nat → Int32} {g : Nat → Nat → Int64} {Q : jj_Rs → jj_St → Prop}  (kq : Q (.inl (some (.int (vX0_isTwice (h 13) (h 27))))) (jj_S, 782, h, g)) : jj_R mX0_isTwice (d + 0) kc ks (jj_S, 782, h, g) 0 [(0, .ref 25), (1, .ref 13)] [] Q := by
  refine rr_aload_n 1 rfl rfl dX0_isTwice_0 ?_
  refine rr_getI dX0_isTwice_1 fX0_78 lo_13 sh_13 rfl ?_
  refine rr_if_lt dX0_isTwice_4 (fun c1 => ?_) (fun c1 => ?_)
  · skip
    refine rr_iconst 0 rfl dX0_isTwice_33 ?_
    refine rr_nreturn dX0_isTwice_34 rfl (by first | rfl | assumption) ?_
    simpa only [vX0_isTwice, if_pos c1] using kq
  · skip
    refine rr_aload_n 1 rfl rfl dX0_isTwice_7 ?_
    refine rr_getI dX0_isTwice_8 fX0_78 lo_13 sh_13 rfl ?_
    refine rr_bipush 8 rfl dX0_isTwice_11 ?_
    refine rr_icmp_ge dX0_isTwice_13 (fun c2 => ?_) (fun c2 => ?_)
    · skip
      refine rr_iconst 0 rfl dX0_isTwice_33 ?_
      refine rr_nreturn dX0_isTwice_34 rfl (by first | rfl | assumption) ?_
      simpa only [vX0_isTwice, if_neg c1, if_pos c2] using kq
    · skip
      refine rr_aload_n 0 rfl rfl dX0_isTwice_16 ?_
      refine rr_getR dX0_isTwice_17 fX0_15 lo_25 sh_25 rfl ?_
      refine rr_aload_n 1 rfl rfl dX0_isTwice_20 ?_
      refine rr_getI dX0_isTwice_21 fX0_78 lo_13 sh_13 rfl ?_
      refine rr_iaload dX0_isTwice_24 lo_27 sh_27 (jj_inC (by assumption) (by assumption)) ?_
      refine rr_iconst (-1) rfl dX0_isTwice_25 ?_
      refine rr_icmp_eq dX0_isTwice_26 (fun c3 => ?_) (fun c3 => ?_)
      · skip
        refine rr_iconst 0 rfl dX0_isTwice_33 ?_
        refine rr_nreturn dX0_isTwice_34 rfl (by first | rfl | assumption) ?_
        simpa only [vX0_isTwice, if_neg c1, if_neg c2, if_pos c3] using kq
      · skip
        refine rr_iconst 1 rfl dX0_isTwice_29 ?_
        refine rr_goto dX0_isTwice_30 ?_
        refine rr_nreturn dX0_isTwice_34 rfl (by first | rfl | assumption) ?_
        simpa only [vX0_isTwice, if_neg c1, if_neg c2, if_neg c3] using kq
def vX0_readLine (r13 : Nat → Int32) (r14 : Nat → Int32) (r25 : Nat → Int32) (r27 : Nat → Int32) (n : Nat) : Int32 := (if (vX0_isTwice r13 r27) = 0 then (if (vX5_number r13 r14 ((nI n) - 1)) = (-1) then 0 else (if (vX5_number (rX5_number_13 r13 r14 ((nI n) - 1)) r14 999) = (-1) then 0 else (if (vX5_passSign (rX5_number_13 (rX5_number_13 r13 r14 ((nI n) - 1)) r14 999) r14 59) = 0 then 0 else 1))) else 0)
def rX0_readLine_13 (r13 : Nat → Int32) (r14 : Nat → Int32) (r25 : Nat → Int32) (r27 : Nat → Int32) (n : Nat) : Nat → Int32 := (if (vX0_isTwice r13 r27) = 0 then (if (vX5_number r13 r14 ((nI n) - 1)) = (-1) then (rX5_number_13 r13 r14 ((nI n) - 1)) else (if (vX5_number (rX5_number_13 r13 r14 ((nI n) - 1)) r14 999) = (-1) then (rX5_number_13 (rX5_number_13 r13 r14 ((nI n) - 1)) r14 999) else (rX5_passSign_13 (rX5_number_13 (rX5_number_13 r13 r14 ((nI n) - 1)) r14 999) r14 59))) else (rX5_failed_13 r13 2))
def rX0_readLine_25 (r13 : Nat → Int32) (r14 : Nat → Int32) (r25 : Nat → Int32) (r27 : Nat → Int32) (n : Nat) : Nat → Int32 := (if (vX0_isTwice r13 r27) = 0 then (if (vX5_number r13 r14 ((nI n) - 1)) = (-1) then r25 else (upd r25 (4) ((r25 4) + 1))) else r25)
def rX0_readLine_27 (r13 : Nat → Int32) (r14 : Nat → Int32) (r25 : Nat → Int32) (r27 : Nat → Int32) (n : Nat) : Nat → Int32 := (if (vX0_isTwice r13 r27) = 0 then (if (vX5_number r13 r14 ((nI n) - 1)) = (-1) then r27 else (upd r27 (((vX5_number r13 r14 ((nI n) - 1)) : Int32).toNatClampNeg) (vX5_number (rX5_number_13 r13 r14 ((nI n) - 1)) r14 999))) else r27)
set_option maxHeartbeats 1000000 in
theorem sp_X0_readLine {d kc ks : Nat} {h : Nat → Nat → Int32} {g : Nat → Nat → Int64} {Q : jj_Rs → jj_St → Prop} {n : Nat} (ho : rdT (h 13) (h 14)) (hP : h 1 0 = nI n) (hn : n ≤ 8) (kq : Q (.inl (some (.int (vX0_readLine (h 13) (h 14) (h 25) (h 27) n)))) (jj_S, 782, (jj_rs h [(13, (rX0_readLine_13 (h 13) (h 14) (h 25) (h 27) n)), (25, (rX0_readLine_25 (h 13) (h 14) (h 25) (h 27) n)), (27, (rX0_readLine_27 (h 13) (h 14) (h 25) (h 27) n))]), g)) : jj_R mX0_readLine (d + 3) kc ks (jj_S, 782, h, g) 0 [(0, .ref 25), (1, .ref 13)] [] Q := by
  refine rr_aload_n 0 rfl rfl dX0_readLine_0 ?_
  refine rr_aload_n 1 rfl rfl dX0_readLine_1 ?_
  refine rr_callV (As := [.ref 13]) (rest := []) (kc2 := 0) (ks2 := 0) dX0_readLine_2 okX0_isTwice lX0_59 lo_25 sh_25 rfl rfl (Nat.le_of_ble_eq_true rfl) (Nat.le_of_ble_eq_true rfl) rfl (by omega) (by simp [jj_rk]) (by simp [jj_rk]) ?_
  refine sp_X0_isTwice  ?_
  show jj_R _ _ kc ks (jj_S, 782, h, g) 5 [(0, .ref 25), (1, .ref 13)] [.int (vX0_isTwice (h 13) (h 27))] Q
  refine rr_if_eq dX0_readLine_5 (fun c1 => ?_) (fun c1 => ?_)
  · skip
    refine rr_aload_n 1 rfl rfl dX0_readLine_16 ?_
    refine rr_aload_n 0 rfl rfl dX0_readLine_17 ?_
    refine rr_getR dX0_readLine_18 fX0_25 lo_25 sh_25 rfl ?_
    refine rr_getI dX0_readLine_21 fX0_66 lo_1 sh_1 rfl ?_
    rw [show (h 1) 0 = (nI n) from hP]
    refine rr_iconst 1 rfl dX0_readLine_24 ?_
    refine rr_isub dX0_readLine_25 ?_
    refine rr_callV (As := [.int ((nI n) - 1)]) (rest := []) (kc2 := 0) (ks2 := 0) dX0_readLine_26 okX5_number lX0_71 lo_13 sh_13 rfl rfl (Nat.le_of_ble_eq_true rfl) (Nat.le_of_ble_eq_true rfl) rfl (by omega) (by simp [jj_rk]) (by simp [jj_rk]) ?_
    refine sp_X5_number (rT_ok (r14 := (h 14)) ho) ?_
    show jj_R _ _ kc ks (jj_S, 782, (jj_rs h [(13, (rX5_number_13 (h 13) (h 14) ((nI n) - 1)))]), g) 29 [(0, .ref 25), (1, .ref 13)] [.int (vX5_number (h 13) (h 14) ((nI n) - 1))] Q
    refine rr_istore_n [(0, .ref 25), (1, .ref 13), (2, .int (vX5_number (h 13) (h 14) ((nI n) - 1)))] dX0_readLine_29 rfl (by decide) rfl ?_
    refine rr_iload_n 2 rfl rfl dX0_readLine_30 ?_
    refine rr_iconst (-1) rfl dX0_readLine_31 ?_
    refine rr_icmp_ne dX0_readLine_32 (fun c2 => ?_) (fun c2 => ?_)
    · skip
      refine rr_aload_n 0 rfl rfl dX0_readLine_37 ?_
      refine rr_getR dX0_readLine_38 fX0_15 lo_25 sh_25 rfl ?_
      refine rr_iload_n 2 rfl rfl dX0_readLine_41 ?_
      refine rr_aload_n 1 rfl rfl dX0_readLine_42 ?_
      refine rr_sipush 999 rfl dX0_readLine_43 ?_
      refine rr_callV (As := [.int 999]) (rest := [.int (vX5_number (h 13) (h 14) ((nI n) - 1)), .ref 27]) (kc2 := 0) (ks2 := 0) dX0_readLine_46 okX5_number lX0_71 lo_13 sh_13 rfl rfl (Nat.le_of_ble_eq_true rfl) (Nat.le_of_ble_eq_true rfl) rfl (by omega) (by simp [jj_rk]) (by simp [jj_rk]) ?_
      refine sp_X5_number (rT_ok (r14 := (h 14)) (rT_num (r14 := (h 14)) ho)) ?_
      show jj_R _ _ kc ks (jj_S, 782, (jj_rs (jj_rs h [(13, (rX5_number_13 (h 13) (h 14) ((nI n) - 1)))]) [(13, (rX5_number_13 (rX5_number_13 (h 13) (h 14) ((nI n) - 1)) (h 14) 999))]), g) 49 [(0, .ref 25), (1, .ref 13), (2, .int (vX5_number (h 13) (h 14) ((nI n) - 1)))] [.int (vX5_number (rX5_number_13 (h 13) (h 14) ((nI n) - 1)) (h 14) 999), .int (vX5_number (h 13) (h 14) ((nI n) - 1)), .ref 27] Q
      rw [jj_rs_rs (B := h) (L := [(13, (rX5_number_13 (h 13) (h 14) ((nI n) - 1)))]) (M := [(13, (rX5_number_13 (rX5_number_13 (h 13) (h 14) ((nI n) - 1)) (h 14) 999))]) (L2 := [(13, (rX5_number_13 (rX5_number_13 (h 13) (h 14) ((nI n) - 1)) (h 14) 999))]) rfl]
      refine rr_iastore dX0_readLine_49 lo_27 sh_27 (fr_in ho hn (by assumption)) ?_
      rw [jj_rs_set (B := h) (L := [(13, (rX5_number_13 (rX5_number_13 (h 13) (h 14) ((nI n) - 1)) (h 14) 999))]) (L2 := [(13, (rX5_number_13 (rX5_number_13 (h 13) (h 14) ((nI n) - 1)) (h 14) 999)), (27, (upd (h 27) (((vX5_number (h 13) (h 14) ((nI n) - 1)) : Int32).toNatClampNeg) (vX5_number (rX5_number_13 (h 13) (h 14) ((nI n) - 1)) (h 14) 999)))]) (r := (h 27)) rfl rfl]
      refine rr_aload_n 0 rfl rfl dX0_readLine_50 ?_
      refine rr_dup rfl dX0_readLine_51 ?_
      refine rr_getI dX0_readLine_52 fX0_37 lo_25 sh_25 rfl ?_
      rw [show (jj_rs h [(13, (rX5_number_13 (rX5_number_13 (h 13) (h 14) ((nI n) - 1)) (h 14) 999)), (27, (upd (h 27) (((vX5_number (h 13) (h 14) ((nI n) - 1)) : Int32).toNatClampNeg) (vX5_number (rX5_number_13 (h 13) (h 14) ((nI n) - 1)) (h 14) 999)))]) 25 = h 25 from rfl]
      refine rr_iconst 1 rfl dX0_readLine_55 ?_
      refine rr_iadd dX0_readLine_56 ?_
      refine rr_putI dX0_readLine_57 fX0_37 ni0_4 lo_25 sh_25 rfl ?_
      rw [jj_rs_set (B := h) (L := [(13, (rX5_number_13 (rX5_number_13 (h 13) (h 14) ((nI n) - 1)) (h 14) 999)), (27, (upd (h 27) (((vX5_number (h 13) (h 14) ((nI n) - 1)) : Int32).toNatClampNeg) (vX5_number (rX5_number_13 (h 13) (h 14) ((nI n) - 1)) (h 14) 999)))]) (L2 := [(13, (rX5_number_13 (rX5_number_13 (h 13) (h 14) ((nI n) - 1)) (h 14) 999)), (25, (upd (h 25) (4) (((h 25) 4) + 1))), (27, (upd (h 27) (((vX5_number (h 13) (h 14) ((nI n) - 1)) : Int32).toNatClampNeg) (vX5_number (rX5_number_13 (h 13) (h 14) ((nI n) - 1)) (h 14) 999)))]) (r := (h 25)) rfl rfl]
      refine rr_aload_n 0 rfl rfl dX0_readLine_60 ?_
      refine rr_getR dX0_readLine_61 fX0_15 lo_25 sh_25 rfl ?_
      refine rr_iload_n 2 rfl rfl dX0_readLine_64 ?_
      refine rr_iaload dX0_readLine_65 lo_27 sh_27 (fr_in ho hn (by assumption)) ?_
      rw [show (jj_rs h [(13, (rX5_number_13 (rX5_number_13 (h 13) (h 14) ((nI n) - 1)) (h 14) 999)), (25, (upd (h 25) (4) (((h 25) 4) + 1))), (27, (upd (h 27) (((vX5_number (h 13) (h 14) ((nI n) - 1)) : Int32).toNatClampNeg) (vX5_number (rX5_number_13 (h 13) (h 14) ((nI n) - 1)) (h 14) 999)))]) 27 = (upd (h 27) (((vX5_number (h 13) (h 14) ((nI n) - 1)) : Int32).toNatClampNeg) (vX5_number (rX5_number_13 (h 13) (h 14) ((nI n) - 1)) (h 14) 999)) from rfl]
      rw [show (upd (h 27) (((vX5_number (h 13) (h 14) ((nI n) - 1)) : Int32).toNatClampNeg) (vX5_number (rX5_number_13 (h 13) (h 14) ((nI n) - 1)) (h 14) 999)) (((vX5_number (h 13) (h 14) ((nI n) - 1)) : Int32).toNatClampNeg) = (vX5_number (rX5_number_13 (h 13) (h 14) ((nI n) - 1)) (h 14) 999) from jj_ueq rfl]
      refine rr_iconst (-1) rfl dX0_readLine_66 ?_
      refine rr_icmp_eq dX0_readLine_67 (fun c3 => ?_) (fun c3 => ?_)
      · skip
        refine rr_iconst 0 rfl dX0_readLine_83 ?_
        refine rr_nreturn dX0_readLine_84 rfl (by first | rfl | assumption) ?_
        simpa only [vX0_readLine, rX0_readLine_13, rX0_readLine_25, rX0_readLine_27, if_pos c1, if_neg c2, if_pos c3] using kq
      · skip
        refine rr_aload_n 1 rfl rfl dX0_readLine_70 ?_
        refine rr_bipush 59 rfl dX0_readLine_71 ?_
        refine rr_callV (As := [.int 59]) (rest := []) (kc2 := 0) (ks2 := 0) dX0_readLine_73 okX5_passSign lX0_74 lo_13 sh_13 rfl rfl (Nat.le_of_ble_eq_true rfl) (Nat.le_of_ble_eq_true rfl) rfl (by omega) (by simp [jj_rk]) (by simp [jj_rk]) ?_
        refine sp_X5_passSign (rT_ok (r14 := (h 14)) (rT_num (r14 := (h 14)) (rT_num (r14 := (h 14)) ho))) ?_
        show jj_R _ _ kc ks (jj_S, 782, (jj_rs (jj_rs h [(13, (rX5_number_13 (rX5_number_13 (h 13) (h 14) ((nI n) - 1)) (h 14) 999)), (25, (upd (h 25) (4) (((h 25) 4) + 1))), (27, (upd (h 27) (((vX5_number (h 13) (h 14) ((nI n) - 1)) : Int32).toNatClampNeg) (vX5_number (rX5_number_13 (h 13) (h 14) ((nI n) - 1)) (h 14) 999)))]) [(13, (rX5_passSign_13 (rX5_number_13 (rX5_number_13 (h 13) (h 14) ((nI n) - 1)) (h 14) 999) (h 14) 59))]), g) 76 [(0, .ref 25), (1, .ref 13), (2, .int (vX5_number (h 13) (h 14) ((nI n) - 1)))] [.int (vX5_passSign (rX5_number_13 (rX5_number_13 (h 13) (h 14) ((nI n) - 1)) (h 14) 999) (h 14) 59)] Q
        rw [jj_rs_rs (B := h) (L := [(13, (rX5_number_13 (rX5_number_13 (h 13) (h 14) ((nI n) - 1)) (h 14) 999)), (25, (upd (h 25) (4) (((h 25) 4) + 1))), (27, (upd (h 27) (((vX5_number (h 13) (h 14) ((nI n) - 1)) : Int32).toNatClampNeg) (vX5_number (rX5_number_13 (h 13) (h 14) ((nI n) - 1)) (h 14) 999)))]) (M := [(13, (rX5_passSign_13 (rX5_number_13 (rX5_number_13 (h 13) (h 14) ((nI n) - 1)) (h 14) 999) (h 14) 59))]) (L2 := [(13, (rX5_passSign_13 (rX5_number_13 (rX5_number_13 (h 13) (h 14) ((nI n) - 1)) (h 14) 999) (h 14) 59)), (25, (upd (h 25) (4) (((h 25) 4) + 1))), (27, (upd (h 27) (((vX5_number (h 13) (h 14) ((nI n) - 1)) : Int32).toNatClampNeg) (vX5_number (rX5_number_13 (h 13) (h 14) ((nI n) - 1)) (h 14) 999)))]) rfl]
        refine rr_if_eq dX0_readLine_76 (fun c4 => ?_) (fun c4 => ?_)
        · skip
          refine rr_iconst 0 rfl dX0_readLine_83 ?_
          refine rr_nreturn dX0_readLine_84 rfl (by first | rfl | assumption) ?_
          simpa only [vX0_readLine, rX0_readLine_13, rX0_readLine_25, rX0_readLine_27, if_pos c1, if_neg c2, if_neg c3, if_pos c4] using kq
        · skip
          refine rr_iconst 1 rfl dX0_readLine_79 ?_
          refine rr_goto dX0_readLine_80 ?_
          refine rr_nreturn dX0_readLine_84 rfl (by first | rfl | assumption) ?_
          simpa only [vX0_readLine, rX0_readLine_13, rX0_readLine_25, rX0_readLine_27, if_pos c1, if_neg c2, if_neg c3, if_neg c4] using kq
    · skip
      refine rr_iconst 0 rfl dX0_readLine_35 ?_
      refine rr_nreturn dX0_readLine_36 rfl (by first | rfl | assumption) ?_
      refine jj_Qh (jj_rs_add (B := h) (L := [(13, (rX5_number_13 (h 13) (h 14) ((nI n) - 1)))]) (L2 := [(13, (rX5_number_13 (h 13) (h 14) ((nI n) - 1))), (25, (h 25))]) (o := 25) (r := (h 25)) rfl rfl) ?_
      refine jj_Qh (jj_rs_add (B := h) (L := [(13, (rX5_number_13 (h 13) (h 14) ((nI n) - 1))), (25, (h 25))]) (L2 := [(13, (rX5_number_13 (h 13) (h 14) ((nI n) - 1))), (25, (h 25)), (27, (h 27))]) (o := 27) (r := (h 27)) rfl rfl) ?_
      simpa only [vX0_readLine, rX0_readLine_13, rX0_readLine_25, rX0_readLine_27, if_pos c1, if_pos c2] using kq
  · skip
    refine rr_aload_n 1 rfl rfl dX0_readLine_8 ?_
    refine rr_iconst 2 rfl dX0_readLine_9 ?_
    refine rr_callV (As := [.int 2]) (rest := []) (kc2 := 0) (ks2 := 0) dX0_readLine_10 okX5_failed lX0_62 lo_13 sh_13 rfl rfl (Nat.le_of_ble_eq_true rfl) (Nat.le_of_ble_eq_true rfl) rfl (by omega) (by simp [jj_rk]) (by simp [jj_rk]) ?_
    refine sp_X5_failed  ?_
    show jj_R _ _ kc ks (jj_S, 782, (jj_rs h [(13, (rX5_failed_13 (h 13) 2))]), g) 13 [(0, .ref 25), (1, .ref 13)] [.int (vX5_failed (h 13) 2)] Q
    refine rr_pop rfl dX0_readLine_13 ?_
    refine rr_iconst 0 rfl dX0_readLine_14 ?_
    refine rr_nreturn dX0_readLine_15 rfl (by first | rfl | assumption) ?_
    refine jj_Qh (jj_rs_add (B := h) (L := [(13, (rX5_failed_13 (h 13) 2))]) (L2 := [(13, (rX5_failed_13 (h 13) 2)), (25, (h 25))]) (o := 25) (r := (h 25)) rfl rfl) ?_
    refine jj_Qh (jj_rs_add (B := h) (L := [(13, (rX5_failed_13 (h 13) 2)), (25, (h 25))]) (L2 := [(13, (rX5_failed_13 (h 13) 2)), (25, (h 25)), (27, (h 27))]) (o := 27) (r := (h 27)) rfl rfl) ?_
    simpa only [vX0_readLine, rX0_readLine_13, rX0_readLine_25, rX0_readLine_27, if_neg c1] using kq
