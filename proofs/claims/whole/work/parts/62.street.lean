theorem rT_pers {r13 r14 r15 r16 r17 r18 r19 r20 : Nat → Int32} {n : Nat} (h : rdT r13 r14) : rdT (rX7_readPerson_13 r13 r14 r15 r16 r17 r18 r19 r20 n) r14 := by
  unfold rX7_readPerson_13
  (repeat' split) <;> first | exact rT_num h | exact rT_num (rT_num h) | exact rT_num (rT_num (rT_num h)) | exact rT_num (rT_num (rT_num (rT_num h))) | exact h
theorem rT_frnd {r13 r14 r20 : Nat → Int32} {n : Nat} (h : rdT r13 r14) : rdT (rX7_readFriend_13 r13 r14 r20 n) r14 := by
  unfold rX7_readFriend_13
  (repeat' split) <;> first | exact rT_num h | exact rT_num (rT_num h) | exact rT_fl (rT_num h)
theorem rT_str {r13 r14 r15 : Nat → Int32} (h : rdT r13 r14) : rdT (rX7_readString_13 r13 r14 r15) r14 := by
  unfold rX7_readString_13
  exact rT_num h
theorem jj_n8 {n : Nat} (hn : n ≤ 8) (c : nI n < 8) : n < 8 := (nI_ltI (b := 8) (by omega) (by decide)).mp c
def vX7_readClause (r13 : Nat → Int32) (r14 : Nat → Int32) (r15 : Nat → Int32) (r16 : Nat → Int32) (r17 : Nat → Int32) (r18 : Nat → Int32) (r19 : Nat → Int32) (r20 : Nat → Int32) (n : Nat) (w : Int32) : Int32 := (if (vX5_isWord_1 r13 r14) = 0 then (if (vX5_isWord_2 r13 r14) = 0 then (if (vX5_isWord_3 r13 r14) = 0 then 0 else (if w = 0 then (if (vX7_readString (rX5_advance_13 r13 r14) r14 r15) = 0 then 0 else (if (vX5_passSign (rX7_readString_13 (rX5_advance_13 r13 r14) r14 r15) r14 59) = 0 then 0 else 1)) else 0)) else (if w = 0 then (if (vX7_readFriend (rX5_advance_13 r13 r14) r14 r20 n) = 0 then 0 else (if (vX5_passSign (rX7_readFriend_13 (rX5_advance_13 r13 r14) r14 r20 n) r14 59) = 0 then 0 else 1)) else 0)) else (if w = 0 then (if (nI n) < 8 then (if (vX7_readPerson (rX5_advance_13 r13 r14) r14 r15 r16 r17 r18 r19 r20 n) = 0 then 0 else (if (vX5_passSign (rX7_readPerson_13 (rX5_advance_13 r13 r14) r14 r15 r16 r17 r18 r19 r20 n) r14 59) = 0 then 0 else 1)) else 0) else 0))
def rX7_readClause_13 (r13 : Nat → Int32) (r14 : Nat → Int32) (r15 : Nat → Int32) (r16 : Nat → Int32) (r17 : Nat → Int32) (r18 : Nat → Int32) (r19 : Nat → Int32) (r20 : Nat → Int32) (n : Nat) (w : Int32) : Nat → Int32 := (if (vX5_isWord_1 r13 r14) = 0 then (if (vX5_isWord_2 r13 r14) = 0 then (if (vX5_isWord_3 r13 r14) = 0 then (rX5_failed_13 r13 1) else (if w = 0 then (if (vX7_readString (rX5_advance_13 r13 r14) r14 r15) = 0 then (rX7_readString_13 (rX5_advance_13 r13 r14) r14 r15) else (rX5_passSign_13 (rX7_readString_13 (rX5_advance_13 r13 r14) r14 r15) r14 59)) else (rX5_failed_13 r13 3))) else (if w = 0 then (if (vX7_readFriend (rX5_advance_13 r13 r14) r14 r20 n) = 0 then (rX7_readFriend_13 (rX5_advance_13 r13 r14) r14 r20 n) else (rX5_passSign_13 (rX7_readFriend_13 (rX5_advance_13 r13 r14) r14 r20 n) r14 59)) else (rX5_failed_13 r13 3))) else (if w = 0 then (if (nI n) < 8 then (if (vX7_readPerson (rX5_advance_13 r13 r14) r14 r15 r16 r17 r18 r19 r20 n) = 0 then (rX7_readPerson_13 (rX5_advance_13 r13 r14) r14 r15 r16 r17 r18 r19 r20 n) else (rX5_passSign_13 (rX7_readPerson_13 (rX5_advance_13 r13 r14) r14 r15 r16 r17 r18 r19 r20 n) r14 59)) else (rX5_failed_13 r13 3)) else (rX5_failed_13 r13 3)))
def rX7_readClause_15 (r13 : Nat → Int32) (r14 : Nat → Int32) (r15 : Nat → Int32) (r16 : Nat → Int32) (r17 : Nat → Int32) (r18 : Nat → Int32) (r19 : Nat → Int32) (r20 : Nat → Int32) (n : Nat) (w : Int32) : Nat → Int32 := (if (vX5_isWord_1 r13 r14) = 0 then (if (vX5_isWord_2 r13 r14) = 0 then (if (vX5_isWord_3 r13 r14) = 0 then r15 else (if w = 0 then (rX7_readString_15 (rX5_advance_13 r13 r14) r14 r15) else r15)) else r15) else (if w = 0 then (if (nI n) < 8 then (rX7_readPerson_15 (rX5_advance_13 r13 r14) r14 r15 r16 r17 r18 r19 r20 n) else r15) else r15))
def rX7_readClause_16 (r13 : Nat → Int32) (r14 : Nat → Int32) (r15 : Nat → Int32) (r16 : Nat → Int32) (r17 : Nat → Int32) (r18 : Nat → Int32) (r19 : Nat → Int32) (r20 : Nat → Int32) (n : Nat) (w : Int32) : Nat → Int32 := (if (vX5_isWord_1 r13 r14) = 0 then r16 else (if w = 0 then (if (nI n) < 8 then (rX7_readPerson_16 (rX5_advance_13 r13 r14) r14 r15 r16 r17 r18 r19 r20 n) else r16) else r16))
def rX7_readClause_17 (r13 : Nat → Int32) (r14 : Nat → Int32) (r15 : Nat → Int32) (r16 : Nat → Int32) (r17 : Nat → Int32) (r18 : Nat → Int32) (r19 : Nat → Int32) (r20 : Nat → Int32) (n : Nat) (w : Int32) : Nat → Int32 := (if (vX5_isWord_1 r13 r14) = 0 then r17 else (if w = 0 then (if (nI n) < 8 then (rX7_readPerson_17 (rX5_advance_13 r13 r14) r14 r15 r16 r17 r18 r19 r20 n) else r17) else r17))
def rX7_readClause_18 (r13 : Nat → Int32) (r14 : Nat → Int32) (r15 : Nat → Int32) (r16 : Nat → Int32) (r17 : Nat → Int32) (r18 : Nat → Int32) (r19 : Nat → Int32) (r20 : Nat → Int32) (n : Nat) (w : Int32) : Nat → Int32 := (if (vX5_isWord_1 r13 r14) = 0 then r18 else (if w = 0 then (if (nI n) < 8 then (rX7_readPerson_18 (rX5_advance_13 r13 r14) r14 r15 r16 r17 r18 r19 r20 n) else r18) else r18))
def rX7_readClause_19 (r13 : Nat → Int32) (r14 : Nat → Int32) (r15 : Nat → Int32) (r16 : Nat → Int32) (r17 : Nat → Int32) (r18 : Nat → Int32) (r19 : Nat → Int32) (r20 : Nat → Int32) (n : Nat) (w : Int32) : Nat → Int32 := (if (vX5_isWord_1 r13 r14) = 0 then r19 else (if w = 0 then (if (nI n) < 8 then (rX7_readPerson_19 (rX5_advance_13 r13 r14) r14 r15 r16 r17 r18 r19 r20 n) else r19) else r19))
def rX7_readClause_20 (r13 : Nat → Int32) (r14 : Nat → Int32) (r15 : Nat → Int32) (r16 : Nat → Int32) (r17 : Nat → Int32) (r18 : Nat → Int32) (r19 : Nat → Int32) (r20 : Nat → Int32) (n : Nat) (w : Int32) : Nat → Int32 := (if (vX5_isWord_1 r13 r14) = 0 then (if (vX5_isWord_2 r13 r14) = 0 then r20 else (if w = 0 then (rX7_readFriend_20 (rX5_advance_13 r13 r14) r14 r20 n) else r20)) else (if w = 0 then (if (nI n) < 8 then (rX7_readPerson_20 (rX5_advance_13 r13 r14) r14 r15 r16 r17 r18 r19 r20 n) else r20) else r20))
set_option maxHeartbeats 16000000 in
theorem sp_X7_readClause {d kc ks : Nat} {h : Nat → Nat → Int32} {g : Nat → Nat → Int64} {Q : jj_Rs → jj_St → Prop} {n : Nat} {w : Int32} (ho : rdT (h 13) (h 14)) (hP : h 15 0 = nI n) (hn : n ≤ 8) (kq : Q (.inl (some (.int (vX7_readClause (h 13) (h 14) (h 15) (h 16) (h 17) (h 18) (h 19) (h 20) n w)))) (jj_S, 782, (jj_rs h [(13, (rX7_readClause_13 (h 13) (h 14) (h 15) (h 16) (h 17) (h 18) (h 19) (h 20) n w)), (15, (rX7_readClause_15 (h 13) (h 14) (h 15) (h 16) (h 17) (h 18) (h 19) (h 20) n w)), (16, (rX7_readClause_16 (h 13) (h 14) (h 15) (h 16) (h 17) (h 18) (h 19) (h 20) n w)), (17, (rX7_readClause_17 (h 13) (h 14) (h 15) (h 16) (h 17) (h 18) (h 19) (h 20) n w)), (18, (rX7_readClause_18 (h 13) (h 14) (h 15) (h 16) (h 17) (h 18) (h 19) (h 20) n w)), (19, (rX7_readClause_19 (h 13) (h 14) (h 15) (h 16) (h 17) (h 18) (h 19) (h 20) n w)), (20, (rX7_readClause_20 (h 13) (h 14) (h 15) (h 16) (h 17) (h 18) (h 19) (h 20) n w))]), g)) : jj_R mX7_readClause (d + 5) kc ks (jj_S, 782, h, g) 0 [(0, .ref 15), (1, .ref 13), (2, .int w)] [] Q := by
  refine rr_aload_n 1 rfl rfl dX7_readClause_0 ?_
  refine rr_ldcS 1 rfl dX7_readClause_1 ?_
  refine rr_callV (As := [.ref (1000000 + 1)]) (rest := []) (kc2 := 0) (ks2 := 0) dX7_readClause_3 okX5_isWord lX7_55 lo_13 sh_13 rfl rfl (Nat.le_of_ble_eq_true rfl) (Nat.le_of_ble_eq_true rfl) rfl (by omega) (by simp [jj_rk]) (by simp [jj_rk]) ?_
  refine sp_X5_isWord_1 (rT_at (r14 := (h 14)) ho) ?_
  show jj_R _ _ kc ks (jj_S, 782, h, g) 6 [(0, .ref 15), (1, .ref 13), (2, .int w)] [.int (vX5_isWord_1 (h 13) (h 14))] Q
  refine rr_istore_n [(0, .ref 15), (1, .ref 13), (2, .int w), (3, .int (vX5_isWord_1 (h 13) (h 14)))] dX7_readClause_6 rfl (by decide) rfl ?_
  refine rr_aload_n 1 rfl rfl dX7_readClause_7 ?_
  refine rr_ldcS 2 rfl dX7_readClause_8 ?_
  refine rr_callV (As := [.ref (1000000 + 2)]) (rest := []) (kc2 := 0) (ks2 := 0) dX7_readClause_10 okX5_isWord lX7_55 lo_13 sh_13 rfl rfl (Nat.le_of_ble_eq_true rfl) (Nat.le_of_ble_eq_true rfl) rfl (by omega) (by simp [jj_rk]) (by simp [jj_rk]) ?_
  refine sp_X5_isWord_2 (rT_at (r14 := (h 14)) ho) ?_
  show jj_R _ _ kc ks (jj_S, 782, h, g) 13 [(0, .ref 15), (1, .ref 13), (2, .int w), (3, .int (vX5_isWord_1 (h 13) (h 14)))] [.int (vX5_isWord_2 (h 13) (h 14))] Q
  refine rr_istore [(0, .ref 15), (1, .ref 13), (2, .int w), (3, .int (vX5_isWord_1 (h 13) (h 14))), (4, .int (vX5_isWord_2 (h 13) (h 14)))] dX7_readClause_13 (by decide) rfl ?_
  refine rr_iload_n 3 rfl rfl dX7_readClause_15 ?_
  refine rr_if_ne dX7_readClause_16 (fun c1 => ?_) (fun c1 => ?_)
  · skip
    refine rr_iload_n 2 rfl rfl dX7_readClause_41 ?_
    refine rr_if_ne dX7_readClause_42 (fun c2 => ?_) (fun c2 => ?_)
    · skip
      refine rr_aload_n 1 rfl rfl dX7_readClause_58 ?_
      refine rr_iconst 3 rfl dX7_readClause_59 ?_
      refine rr_callV (As := [.int 3]) (rest := []) (kc2 := 0) (ks2 := 0) dX7_readClause_60 okX5_failed lX7_62 lo_13 sh_13 rfl rfl (Nat.le_of_ble_eq_true rfl) (Nat.le_of_ble_eq_true rfl) rfl (by omega) (by simp [jj_rk]) (by simp [jj_rk]) ?_
      refine sp_X5_failed  ?_
      show jj_R _ _ kc ks (jj_S, 782, (jj_rs h [(13, (rX5_failed_13 (h 13) 3))]), g) 63 [(0, .ref 15), (1, .ref 13), (2, .int w), (3, .int (vX5_isWord_1 (h 13) (h 14))), (4, .int (vX5_isWord_2 (h 13) (h 14)))] [.int (vX5_failed (h 13) 3)] Q
      refine rr_pop rfl dX7_readClause_63 ?_
      refine rr_iconst 0 rfl dX7_readClause_64 ?_
      refine rr_nreturn dX7_readClause_65 rfl (by first | rfl | assumption) ?_
      refine jj_Qh (jj_rs_add (B := h) (L := [(13, (rX5_failed_13 (h 13) 3))]) (L2 := [(13, (rX5_failed_13 (h 13) 3)), (15, (h 15))]) (o := 15) (r := (h 15)) rfl rfl) ?_
      refine jj_Qh (jj_rs_add (B := h) (L := [(13, (rX5_failed_13 (h 13) 3)), (15, (h 15))]) (L2 := [(13, (rX5_failed_13 (h 13) 3)), (15, (h 15)), (16, (h 16))]) (o := 16) (r := (h 16)) rfl rfl) ?_
      refine jj_Qh (jj_rs_add (B := h) (L := [(13, (rX5_failed_13 (h 13) 3)), (15, (h 15)), (16, (h 16))]) (L2 := [(13, (rX5_failed_13 (h 13) 3)), (15, (h 15)), (16, (h 16)), (17, (h 17))]) (o := 17) (r := (h 17)) rfl rfl) ?_
      refine jj_Qh (jj_rs_add (B := h) (L := [(13, (rX5_failed_13 (h 13) 3)), (15, (h 15)), (16, (h 16)), (17, (h 17))]) (L2 := [(13, (rX5_failed_13 (h 13) 3)), (15, (h 15)), (16, (h 16)), (17, (h 17)), (18, (h 18))]) (o := 18) (r := (h 18)) rfl rfl) ?_
      refine jj_Qh (jj_rs_add (B := h) (L := [(13, (rX5_failed_13 (h 13) 3)), (15, (h 15)), (16, (h 16)), (17, (h 17)), (18, (h 18))]) (L2 := [(13, (rX5_failed_13 (h 13) 3)), (15, (h 15)), (16, (h 16)), (17, (h 17)), (18, (h 18)), (19, (h 19))]) (o := 19) (r := (h 19)) rfl rfl) ?_
      refine jj_Qh (jj_rs_add (B := h) (L := [(13, (rX5_failed_13 (h 13) 3)), (15, (h 15)), (16, (h 16)), (17, (h 17)), (18, (h 18)), (19, (h 19))]) (L2 := [(13, (rX5_failed_13 (h 13) 3)), (15, (h 15)), (16, (h 16)), (17, (h 17)), (18, (h 18)), (19, (h 19)), (20, (h 20))]) (o := 20) (r := (h 20)) rfl rfl) ?_
      simpa only [vX7_readClause, rX7_readClause_13, rX7_readClause_15, rX7_readClause_16, rX7_readClause_17, rX7_readClause_18, rX7_readClause_19, rX7_readClause_20, if_neg c1, if_neg c2] using kq
    · skip
      refine rr_iload_n 3 rfl rfl dX7_readClause_45 ?_
      refine rr_if_eq dX7_readClause_46 (fun c => absurd c c1) (fun _ => ?_)
      refine rr_aload_n 0 rfl rfl dX7_readClause_49 ?_
      refine rr_getI dX7_readClause_50 fX7_31 lo_15 sh_15 rfl ?_
      rw [show (h 15) 0 = (nI n) from hP]
      refine rr_bipush 8 rfl dX7_readClause_53 ?_
      refine rr_icmp_lt dX7_readClause_55 (fun c3 => ?_) (fun c3 => ?_)
      · skip
        refine rr_aload_n 1 rfl rfl dX7_readClause_66 ?_
        refine rr_callV (As := []) (rest := []) (kc2 := 0) (ks2 := 0) dX7_readClause_67 okX5_advance lX7_66 lo_13 sh_13 rfl rfl (Nat.le_of_ble_eq_true rfl) (Nat.le_of_ble_eq_true rfl) rfl (by omega) (by simp [jj_rk]) (by simp [jj_rk]) ?_
        refine sp_X5_advance (rT_ok (r14 := (h 14)) ho) ?_
        show jj_R _ _ kc ks (jj_S, 782, (jj_rs h [(13, (rX5_advance_13 (h 13) (h 14)))]), g) 70 [(0, .ref 15), (1, .ref 13), (2, .int w), (3, .int (vX5_isWord_1 (h 13) (h 14))), (4, .int (vX5_isWord_2 (h 13) (h 14)))] [] Q
        refine rr_iload_n 3 rfl rfl dX7_readClause_70 ?_
        refine rr_if_eq dX7_readClause_71 (fun c => absurd c c1) (fun _ => ?_)
        refine rr_aload_n 0 rfl rfl dX7_readClause_74 ?_
        refine rr_aload_n 1 rfl rfl dX7_readClause_75 ?_
        refine rr_callV (As := [.ref 13]) (rest := []) (kc2 := 0) (ks2 := 0) dX7_readClause_76 okX7_readPerson lX7_69 lo_15 sh_15 rfl rfl (Nat.le_of_ble_eq_true rfl) (Nat.le_of_ble_eq_true rfl) rfl (by omega) (by simp [jj_rk]) (by simp [jj_rk]) ?_
        refine sp_X7_readPerson (rT_adv (r14 := (h 14)) ho) hP (jj_n8 hn (by assumption)) ?_
        show jj_R _ _ kc ks (jj_S, 782, (jj_rs (jj_rs h [(13, (rX5_advance_13 (h 13) (h 14)))]) [(13, (rX7_readPerson_13 (rX5_advance_13 (h 13) (h 14)) (h 14) (h 15) (h 16) (h 17) (h 18) (h 19) (h 20) n)), (15, (rX7_readPerson_15 (rX5_advance_13 (h 13) (h 14)) (h 14) (h 15) (h 16) (h 17) (h 18) (h 19) (h 20) n)), (16, (rX7_readPerson_16 (rX5_advance_13 (h 13) (h 14)) (h 14) (h 15) (h 16) (h 17) (h 18) (h 19) (h 20) n)), (17, (rX7_readPerson_17 (rX5_advance_13 (h 13) (h 14)) (h 14) (h 15) (h 16) (h 17) (h 18) (h 19) (h 20) n)), (18, (rX7_readPerson_18 (rX5_advance_13 (h 13) (h 14)) (h 14) (h 15) (h 16) (h 17) (h 18) (h 19) (h 20) n)), (19, (rX7_readPerson_19 (rX5_advance_13 (h 13) (h 14)) (h 14) (h 15) (h 16) (h 17) (h 18) (h 19) (h 20) n)), (20, (rX7_readPerson_20 (rX5_advance_13 (h 13) (h 14)) (h 14) (h 15) (h 16) (h 17) (h 18) (h 19) (h 20) n))]), g) 79 [(0, .ref 15), (1, .ref 13), (2, .int w), (3, .int (vX5_isWord_1 (h 13) (h 14))), (4, .int (vX5_isWord_2 (h 13) (h 14)))] [.int (vX7_readPerson (rX5_advance_13 (h 13) (h 14)) (h 14) (h 15) (h 16) (h 17) (h 18) (h 19) (h 20) n)] Q
        rw [jj_rs_rs (B := h) (L := [(13, (rX5_advance_13 (h 13) (h 14)))]) (M := [(13, (rX7_readPerson_13 (rX5_advance_13 (h 13) (h 14)) (h 14) (h 15) (h 16) (h 17) (h 18) (h 19) (h 20) n)), (15, (rX7_readPerson_15 (rX5_advance_13 (h 13) (h 14)) (h 14) (h 15) (h 16) (h 17) (h 18) (h 19) (h 20) n)), (16, (rX7_readPerson_16 (rX5_advance_13 (h 13) (h 14)) (h 14) (h 15) (h 16) (h 17) (h 18) (h 19) (h 20) n)), (17, (rX7_readPerson_17 (rX5_advance_13 (h 13) (h 14)) (h 14) (h 15) (h 16) (h 17) (h 18) (h 19) (h 20) n)), (18, (rX7_readPerson_18 (rX5_advance_13 (h 13) (h 14)) (h 14) (h 15) (h 16) (h 17) (h 18) (h 19) (h 20) n)), (19, (rX7_readPerson_19 (rX5_advance_13 (h 13) (h 14)) (h 14) (h 15) (h 16) (h 17) (h 18) (h 19) (h 20) n)), (20, (rX7_readPerson_20 (rX5_advance_13 (h 13) (h 14)) (h 14) (h 15) (h 16) (h 17) (h 18) (h 19) (h 20) n))]) (L2 := [(13, (rX7_readPerson_13 (rX5_advance_13 (h 13) (h 14)) (h 14) (h 15) (h 16) (h 17) (h 18) (h 19) (h 20) n)), (15, (rX7_readPerson_15 (rX5_advance_13 (h 13) (h 14)) (h 14) (h 15) (h 16) (h 17) (h 18) (h 19) (h 20) n)), (16, (rX7_readPerson_16 (rX5_advance_13 (h 13) (h 14)) (h 14) (h 15) (h 16) (h 17) (h 18) (h 19) (h 20) n)), (17, (rX7_readPerson_17 (rX5_advance_13 (h 13) (h 14)) (h 14) (h 15) (h 16) (h 17) (h 18) (h 19) (h 20) n)), (18, (rX7_readPerson_18 (rX5_advance_13 (h 13) (h 14)) (h 14) (h 15) (h 16) (h 17) (h 18) (h 19) (h 20) n)), (19, (rX7_readPerson_19 (rX5_advance_13 (h 13) (h 14)) (h 14) (h 15) (h 16) (h 17) (h 18) (h 19) (h 20) n)), (20, (rX7_readPerson_20 (rX5_advance_13 (h 13) (h 14)) (h 14) (h 15) (h 16) (h 17) (h 18) (h 19) (h 20) n))]) rfl]
        refine rr_goto dX7_readClause_79 ?_
        refine rr_istore [(0, .ref 15), (1, .ref 13), (2, .int w), (3, .int (vX5_isWord_1 (h 13) (h 14))), (4, .int (vX5_isWord_2 (h 13) (h 14))), (5, .int (vX7_readPerson (rX5_advance_13 (h 13) (h 14)) (h 14) (h 15) (h 16) (h 17) (h 18) (h 19) (h 20) n))] dX7_readClause_100 (by decide) rfl ?_
        refine rr_iload 5 rfl dX7_readClause_102 ?_
        refine rr_if_eq dX7_readClause_104 (fun c4 => ?_) (fun c4 => ?_)
        · skip
          refine rr_iconst 0 rfl dX7_readClause_120 ?_
          refine rr_nreturn dX7_readClause_121 rfl (by first | rfl | assumption) ?_
          simpa only [vX7_readClause, rX7_readClause_13, rX7_readClause_15, rX7_readClause_16, rX7_readClause_17, rX7_readClause_18, rX7_readClause_19, rX7_readClause_20, if_neg c1, if_pos c2, if_pos c3, if_pos c4] using kq
        · skip
          refine rr_aload_n 1 rfl rfl dX7_readClause_107 ?_
          refine rr_bipush 59 rfl dX7_readClause_108 ?_
          refine rr_callV (As := [.int 59]) (rest := []) (kc2 := 0) (ks2 := 0) dX7_readClause_110 okX5_passSign lX7_79 lo_13 sh_13 rfl rfl (Nat.le_of_ble_eq_true rfl) (Nat.le_of_ble_eq_true rfl) rfl (by omega) (by simp [jj_rk]) (by simp [jj_rk]) ?_
          refine sp_X5_passSign (rT_ok (r14 := (h 14)) (rT_pers (r13 := (rX5_advance_13 (h 13) (h 14))) (r14 := (h 14)) (r15 := (h 15)) (r16 := (h 16)) (r17 := (h 17)) (r18 := (h 18)) (r19 := (h 19)) (r20 := (h 20)) (n := n) (rT_adv (r14 := (h 14)) ho))) ?_
          show jj_R _ _ kc ks (jj_S, 782, (jj_rs (jj_rs h [(13, (rX7_readPerson_13 (rX5_advance_13 (h 13) (h 14)) (h 14) (h 15) (h 16) (h 17) (h 18) (h 19) (h 20) n)), (15, (rX7_readPerson_15 (rX5_advance_13 (h 13) (h 14)) (h 14) (h 15) (h 16) (h 17) (h 18) (h 19) (h 20) n)), (16, (rX7_readPerson_16 (rX5_advance_13 (h 13) (h 14)) (h 14) (h 15) (h 16) (h 17) (h 18) (h 19) (h 20) n)), (17, (rX7_readPerson_17 (rX5_advance_13 (h 13) (h 14)) (h 14) (h 15) (h 16) (h 17) (h 18) (h 19) (h 20) n)), (18, (rX7_readPerson_18 (rX5_advance_13 (h 13) (h 14)) (h 14) (h 15) (h 16) (h 17) (h 18) (h 19) (h 20) n)), (19, (rX7_readPerson_19 (rX5_advance_13 (h 13) (h 14)) (h 14) (h 15) (h 16) (h 17) (h 18) (h 19) (h 20) n)), (20, (rX7_readPerson_20 (rX5_advance_13 (h 13) (h 14)) (h 14) (h 15) (h 16) (h 17) (h 18) (h 19) (h 20) n))]) [(13, (rX5_passSign_13 (rX7_readPerson_13 (rX5_advance_13 (h 13) (h 14)) (h 14) (h 15) (h 16) (h 17) (h 18) (h 19) (h 20) n) (h 14) 59))]), g) 113 [(0, .ref 15), (1, .ref 13), (2, .int w), (3, .int (vX5_isWord_1 (h 13) (h 14))), (4, .int (vX5_isWord_2 (h 13) (h 14))), (5, .int (vX7_readPerson (rX5_advance_13 (h 13) (h 14)) (h 14) (h 15) (h 16) (h 17) (h 18) (h 19) (h 20) n))] [.int (vX5_passSign (rX7_readPerson_13 (rX5_advance_13 (h 13) (h 14)) (h 14) (h 15) (h 16) (h 17) (h 18) (h 19) (h 20) n) (h 14) 59)] Q
          rw [jj_rs_rs (B := h) (L := [(13, (rX7_readPerson_13 (rX5_advance_13 (h 13) (h 14)) (h 14) (h 15) (h 16) (h 17) (h 18) (h 19) (h 20) n)), (15, (rX7_readPerson_15 (rX5_advance_13 (h 13) (h 14)) (h 14) (h 15) (h 16) (h 17) (h 18) (h 19) (h 20) n)), (16, (rX7_readPerson_16 (rX5_advance_13 (h 13) (h 14)) (h 14) (h 15) (h 16) (h 17) (h 18) (h 19) (h 20) n)), (17, (rX7_readPerson_17 (rX5_advance_13 (h 13) (h 14)) (h 14) (h 15) (h 16) (h 17) (h 18) (h 19) (h 20) n)), (18, (rX7_readPerson_18 (rX5_advance_13 (h 13) (h 14)) (h 14) (h 15) (h 16) (h 17) (h 18) (h 19) (h 20) n)), (19, (rX7_readPerson_19 (rX5_advance_13 (h 13) (h 14)) (h 14) (h 15) (h 16) (h 17) (h 18) (h 19) (h 20) n)), (20, (rX7_readPerson_20 (rX5_advance_13 (h 13) (h 14)) (h 14) (h 15) (h 16) (h 17) (h 18) (h 19) (h 20) n))]) (M := [(13, (rX5_passSign_13 (rX7_readPerson_13 (rX5_advance_13 (h 13) (h 14)) (h 14) (h 15) (h 16) (h 17) (h 18) (h 19) (h 20) n) (h 14) 59))]) (L2 := [(13, (rX5_passSign_13 (rX7_readPerson_13 (rX5_advance_13 (h 13) (h 14)) (h 14) (h 15) (h 16) (h 17) (h 18) (h 19) (h 20) n) (h 14) 59)), (15, (rX7_readPerson_15 (rX5_advance_13 (h 13) (h 14)) (h 14) (h 15) (h 16) (h 17) (h 18) (h 19) (h 20) n)), (16, (rX7_readPerson_16 (rX5_advance_13 (h 13) (h 14)) (h 14) (h 15) (h 16) (h 17) (h 18) (h 19) (h 20) n)), (17, (rX7_readPerson_17 (rX5_advance_13 (h 13) (h 14)) (h 14) (h 15) (h 16) (h 17) (h 18) (h 19) (h 20) n)), (18, (rX7_readPerson_18 (rX5_advance_13 (h 13) (h 14)) (h 14) (h 15) (h 16) (h 17) (h 18) (h 19) (h 20) n)), (19, (rX7_readPerson_19 (rX5_advance_13 (h 13) (h 14)) (h 14) (h 15) (h 16) (h 17) (h 18) (h 19) (h 20) n)), (20, (rX7_readPerson_20 (rX5_advance_13 (h 13) (h 14)) (h 14) (h 15) (h 16) (h 17) (h 18) (h 19) (h 20) n))]) rfl]
          refine rr_if_eq dX7_readClause_113 (fun c5 => ?_) (fun c5 => ?_)
          · skip
            refine rr_iconst 0 rfl dX7_readClause_120 ?_
            refine rr_nreturn dX7_readClause_121 rfl (by first | rfl | assumption) ?_
            simpa only [vX7_readClause, rX7_readClause_13, rX7_readClause_15, rX7_readClause_16, rX7_readClause_17, rX7_readClause_18, rX7_readClause_19, rX7_readClause_20, if_neg c1, if_pos c2, if_pos c3, if_neg c4, if_pos c5] using kq
          · skip
            refine rr_iconst 1 rfl dX7_readClause_116 ?_
            refine rr_goto dX7_readClause_117 ?_
            refine rr_nreturn dX7_readClause_121 rfl (by first | rfl | assumption) ?_
            simpa only [vX7_readClause, rX7_readClause_13, rX7_readClause_15, rX7_readClause_16, rX7_readClause_17, rX7_readClause_18, rX7_readClause_19, rX7_readClause_20, if_neg c1, if_pos c2, if_pos c3, if_neg c4, if_neg c5] using kq
      · skip
        refine rr_aload_n 1 rfl rfl dX7_readClause_58 ?_
        refine rr_iconst 3 rfl dX7_readClause_59 ?_
        refine rr_callV (As := [.int 3]) (rest := []) (kc2 := 0) (ks2 := 0) dX7_readClause_60 okX5_failed lX7_62 lo_13 sh_13 rfl rfl (Nat.le_of_ble_eq_true rfl) (Nat.le_of_ble_eq_true rfl) rfl (by omega) (by simp [jj_rk]) (by simp [jj_rk]) ?_
        refine sp_X5_failed  ?_
        show jj_R _ _ kc ks (jj_S, 782, (jj_rs h [(13, (rX5_failed_13 (h 13) 3))]), g) 63 [(0, .ref 15), (1, .ref 13), (2, .int w), (3, .int (vX5_isWord_1 (h 13) (h 14))), (4, .int (vX5_isWord_2 (h 13) (h 14)))] [.int (vX5_failed (h 13) 3)] Q
        refine rr_pop rfl dX7_readClause_63 ?_
        refine rr_iconst 0 rfl dX7_readClause_64 ?_
        refine rr_nreturn dX7_readClause_65 rfl (by first | rfl | assumption) ?_
        refine jj_Qh (jj_rs_add (B := h) (L := [(13, (rX5_failed_13 (h 13) 3))]) (L2 := [(13, (rX5_failed_13 (h 13) 3)), (15, (h 15))]) (o := 15) (r := (h 15)) rfl rfl) ?_
        refine jj_Qh (jj_rs_add (B := h) (L := [(13, (rX5_failed_13 (h 13) 3)), (15, (h 15))]) (L2 := [(13, (rX5_failed_13 (h 13) 3)), (15, (h 15)), (16, (h 16))]) (o := 16) (r := (h 16)) rfl rfl) ?_
        refine jj_Qh (jj_rs_add (B := h) (L := [(13, (rX5_failed_13 (h 13) 3)), (15, (h 15)), (16, (h 16))]) (L2 := [(13, (rX5_failed_13 (h 13) 3)), (15, (h 15)), (16, (h 16)), (17, (h 17))]) (o := 17) (r := (h 17)) rfl rfl) ?_
        refine jj_Qh (jj_rs_add (B := h) (L := [(13, (rX5_failed_13 (h 13) 3)), (15, (h 15)), (16, (h 16)), (17, (h 17))]) (L2 := [(13, (rX5_failed_13 (h 13) 3)), (15, (h 15)), (16, (h 16)), (17, (h 17)), (18, (h 18))]) (o := 18) (r := (h 18)) rfl rfl) ?_
        refine jj_Qh (jj_rs_add (B := h) (L := [(13, (rX5_failed_13 (h 13) 3)), (15, (h 15)), (16, (h 16)), (17, (h 17)), (18, (h 18))]) (L2 := [(13, (rX5_failed_13 (h 13) 3)), (15, (h 15)), (16, (h 16)), (17, (h 17)), (18, (h 18)), (19, (h 19))]) (o := 19) (r := (h 19)) rfl rfl) ?_
        refine jj_Qh (jj_rs_add (B := h) (L := [(13, (rX5_failed_13 (h 13) 3)), (15, (h 15)), (16, (h 16)), (17, (h 17)), (18, (h 18)), (19, (h 19))]) (L2 := [(13, (rX5_failed_13 (h 13) 3)), (15, (h 15)), (16, (h 16)), (17, (h 17)), (18, (h 18)), (19, (h 19)), (20, (h 20))]) (o := 20) (r := (h 20)) rfl rfl) ?_
        simpa only [vX7_readClause, rX7_readClause_13, rX7_readClause_15, rX7_readClause_16, rX7_readClause_17, rX7_readClause_18, rX7_readClause_19, rX7_readClause_20, if_neg c1, if_pos c2, if_neg c3] using kq
  · skip
    refine rr_iload 4 rfl dX7_readClause_19 ?_
    refine rr_if_ne dX7_readClause_21 (fun c6 => ?_) (fun c6 => ?_)
    · skip
      refine rr_iload_n 2 rfl rfl dX7_readClause_41 ?_
      refine rr_if_ne dX7_readClause_42 (fun c7 => ?_) (fun c7 => ?_)
      · skip
        refine rr_aload_n 1 rfl rfl dX7_readClause_58 ?_
        refine rr_iconst 3 rfl dX7_readClause_59 ?_
        refine rr_callV (As := [.int 3]) (rest := []) (kc2 := 0) (ks2 := 0) dX7_readClause_60 okX5_failed lX7_62 lo_13 sh_13 rfl rfl (Nat.le_of_ble_eq_true rfl) (Nat.le_of_ble_eq_true rfl) rfl (by omega) (by simp [jj_rk]) (by simp [jj_rk]) ?_
        refine sp_X5_failed  ?_
        show jj_R _ _ kc ks (jj_S, 782, (jj_rs h [(13, (rX5_failed_13 (h 13) 3))]), g) 63 [(0, .ref 15), (1, .ref 13), (2, .int w), (3, .int (vX5_isWord_1 (h 13) (h 14))), (4, .int (vX5_isWord_2 (h 13) (h 14)))] [.int (vX5_failed (h 13) 3)] Q
        refine rr_pop rfl dX7_readClause_63 ?_
        refine rr_iconst 0 rfl dX7_readClause_64 ?_
        refine rr_nreturn dX7_readClause_65 rfl (by first | rfl | assumption) ?_
        refine jj_Qh (jj_rs_add (B := h) (L := [(13, (rX5_failed_13 (h 13) 3))]) (L2 := [(13, (rX5_failed_13 (h 13) 3)), (15, (h 15))]) (o := 15) (r := (h 15)) rfl rfl) ?_
        refine jj_Qh (jj_rs_add (B := h) (L := [(13, (rX5_failed_13 (h 13) 3)), (15, (h 15))]) (L2 := [(13, (rX5_failed_13 (h 13) 3)), (15, (h 15)), (16, (h 16))]) (o := 16) (r := (h 16)) rfl rfl) ?_
        refine jj_Qh (jj_rs_add (B := h) (L := [(13, (rX5_failed_13 (h 13) 3)), (15, (h 15)), (16, (h 16))]) (L2 := [(13, (rX5_failed_13 (h 13) 3)), (15, (h 15)), (16, (h 16)), (17, (h 17))]) (o := 17) (r := (h 17)) rfl rfl) ?_
        refine jj_Qh (jj_rs_add (B := h) (L := [(13, (rX5_failed_13 (h 13) 3)), (15, (h 15)), (16, (h 16)), (17, (h 17))]) (L2 := [(13, (rX5_failed_13 (h 13) 3)), (15, (h 15)), (16, (h 16)), (17, (h 17)), (18, (h 18))]) (o := 18) (r := (h 18)) rfl rfl) ?_
        refine jj_Qh (jj_rs_add (B := h) (L := [(13, (rX5_failed_13 (h 13) 3)), (15, (h 15)), (16, (h 16)), (17, (h 17)), (18, (h 18))]) (L2 := [(13, (rX5_failed_13 (h 13) 3)), (15, (h 15)), (16, (h 16)), (17, (h 17)), (18, (h 18)), (19, (h 19))]) (o := 19) (r := (h 19)) rfl rfl) ?_
        refine jj_Qh (jj_rs_add (B := h) (L := [(13, (rX5_failed_13 (h 13) 3)), (15, (h 15)), (16, (h 16)), (17, (h 17)), (18, (h 18)), (19, (h 19))]) (L2 := [(13, (rX5_failed_13 (h 13) 3)), (15, (h 15)), (16, (h 16)), (17, (h 17)), (18, (h 18)), (19, (h 19)), (20, (h 20))]) (o := 20) (r := (h 20)) rfl rfl) ?_
        simpa only [vX7_readClause, rX7_readClause_13, rX7_readClause_15, rX7_readClause_16, rX7_readClause_17, rX7_readClause_18, rX7_readClause_19, rX7_readClause_20, if_pos c1, if_neg c6, if_neg c7] using kq
      · skip
        refine rr_iload_n 3 rfl rfl dX7_readClause_45 ?_
        refine rr_if_eq dX7_readClause_46 (fun _ => ?_) (fun c => absurd c1 c)
        refine rr_aload_n 1 rfl rfl dX7_readClause_66 ?_
        refine rr_callV (As := []) (rest := []) (kc2 := 0) (ks2 := 0) dX7_readClause_67 okX5_advance lX7_66 lo_13 sh_13 rfl rfl (Nat.le_of_ble_eq_true rfl) (Nat.le_of_ble_eq_true rfl) rfl (by omega) (by simp [jj_rk]) (by simp [jj_rk]) ?_
        refine sp_X5_advance (rT_ok (r14 := (h 14)) ho) ?_
        show jj_R _ _ kc ks (jj_S, 782, (jj_rs h [(13, (rX5_advance_13 (h 13) (h 14)))]), g) 70 [(0, .ref 15), (1, .ref 13), (2, .int w), (3, .int (vX5_isWord_1 (h 13) (h 14))), (4, .int (vX5_isWord_2 (h 13) (h 14)))] [] Q
        refine rr_iload_n 3 rfl rfl dX7_readClause_70 ?_
        refine rr_if_eq dX7_readClause_71 (fun _ => ?_) (fun c => absurd c1 c)
        refine rr_iload 4 rfl dX7_readClause_82 ?_
        refine rr_if_eq dX7_readClause_84 (fun c => absurd c c6) (fun _ => ?_)
        refine rr_aload_n 0 rfl rfl dX7_readClause_87 ?_
        refine rr_aload_n 1 rfl rfl dX7_readClause_88 ?_
        refine rr_callV (As := [.ref 13]) (rest := []) (kc2 := 0) (ks2 := 0) dX7_readClause_89 okX7_readFriend lX7_73 lo_15 sh_15 rfl rfl (Nat.le_of_ble_eq_true rfl) (Nat.le_of_ble_eq_true rfl) rfl (by omega) (by simp [jj_rk]) (by simp [jj_rk]) ?_
        refine sp_X7_readFriend (rT_adv (r14 := (h 14)) ho) hP hn ?_
        show jj_R _ _ kc ks (jj_S, 782, (jj_rs (jj_rs h [(13, (rX5_advance_13 (h 13) (h 14)))]) [(13, (rX7_readFriend_13 (rX5_advance_13 (h 13) (h 14)) (h 14) (h 20) n)), (20, (rX7_readFriend_20 (rX5_advance_13 (h 13) (h 14)) (h 14) (h 20) n))]), g) 92 [(0, .ref 15), (1, .ref 13), (2, .int w), (3, .int (vX5_isWord_1 (h 13) (h 14))), (4, .int (vX5_isWord_2 (h 13) (h 14)))] [.int (vX7_readFriend (rX5_advance_13 (h 13) (h 14)) (h 14) (h 20) n)] Q
        rw [jj_rs_rs (B := h) (L := [(13, (rX5_advance_13 (h 13) (h 14)))]) (M := [(13, (rX7_readFriend_13 (rX5_advance_13 (h 13) (h 14)) (h 14) (h 20) n)), (20, (rX7_readFriend_20 (rX5_advance_13 (h 13) (h 14)) (h 14) (h 20) n))]) (L2 := [(13, (rX7_readFriend_13 (rX5_advance_13 (h 13) (h 14)) (h 14) (h 20) n)), (20, (rX7_readFriend_20 (rX5_advance_13 (h 13) (h 14)) (h 14) (h 20) n))]) rfl]
        refine rr_goto dX7_readClause_92 ?_
        refine rr_istore [(0, .ref 15), (1, .ref 13), (2, .int w), (3, .int (vX5_isWord_1 (h 13) (h 14))), (4, .int (vX5_isWord_2 (h 13) (h 14))), (5, .int (vX7_readFriend (rX5_advance_13 (h 13) (h 14)) (h 14) (h 20) n))] dX7_readClause_100 (by decide) rfl ?_
        refine rr_iload 5 rfl dX7_readClause_102 ?_
        refine rr_if_eq dX7_readClause_104 (fun c8 => ?_) (fun c8 => ?_)
        · skip
          refine rr_iconst 0 rfl dX7_readClause_120 ?_
          refine rr_nreturn dX7_readClause_121 rfl (by first | rfl | assumption) ?_
          refine jj_Qh (jj_rs_add (B := h) (L := [(13, (rX7_readFriend_13 (rX5_advance_13 (h 13) (h 14)) (h 14) (h 20) n)), (20, (rX7_readFriend_20 (rX5_advance_13 (h 13) (h 14)) (h 14) (h 20) n))]) (L2 := [(13, (rX7_readFriend_13 (rX5_advance_13 (h 13) (h 14)) (h 14) (h 20) n)), (15, (h 15)), (20, (rX7_readFriend_20 (rX5_advance_13 (h 13) (h 14)) (h 14) (h 20) n))]) (o := 15) (r := (h 15)) rfl rfl) ?_
          refine jj_Qh (jj_rs_add (B := h) (L := [(13, (rX7_readFriend_13 (rX5_advance_13 (h 13) (h 14)) (h 14) (h 20) n)), (15, (h 15)), (20, (rX7_readFriend_20 (rX5_advance_13 (h 13) (h 14)) (h 14) (h 20) n))]) (L2 := [(13, (rX7_readFriend_13 (rX5_advance_13 (h 13) (h 14)) (h 14) (h 20) n)), (15, (h 15)), (16, (h 16)), (20, (rX7_readFriend_20 (rX5_advance_13 (h 13) (h 14)) (h 14) (h 20) n))]) (o := 16) (r := (h 16)) rfl rfl) ?_
          refine jj_Qh (jj_rs_add (B := h) (L := [(13, (rX7_readFriend_13 (rX5_advance_13 (h 13) (h 14)) (h 14) (h 20) n)), (15, (h 15)), (16, (h 16)), (20, (rX7_readFriend_20 (rX5_advance_13 (h 13) (h 14)) (h 14) (h 20) n))]) (L2 := [(13, (rX7_readFriend_13 (rX5_advance_13 (h 13) (h 14)) (h 14) (h 20) n)), (15, (h 15)), (16, (h 16)), (17, (h 17)), (20, (rX7_readFriend_20 (rX5_advance_13 (h 13) (h 14)) (h 14) (h 20) n))]) (o := 17) (r := (h 17)) rfl rfl) ?_
          refine jj_Qh (jj_rs_add (B := h) (L := [(13, (rX7_readFriend_13 (rX5_advance_13 (h 13) (h 14)) (h 14) (h 20) n)), (15, (h 15)), (16, (h 16)), (17, (h 17)), (20, (rX7_readFriend_20 (rX5_advance_13 (h 13) (h 14)) (h 14) (h 20) n))]) (L2 := [(13, (rX7_readFriend_13 (rX5_advance_13 (h 13) (h 14)) (h 14) (h 20) n)), (15, (h 15)), (16, (h 16)), (17, (h 17)), (18, (h 18)), (20, (rX7_readFriend_20 (rX5_advance_13 (h 13) (h 14)) (h 14) (h 20) n))]) (o := 18) (r := (h 18)) rfl rfl) ?_
          refine jj_Qh (jj_rs_add (B := h) (L := [(13, (rX7_readFriend_13 (rX5_advance_13 (h 13) (h 14)) (h 14) (h 20) n)), (15, (h 15)), (16, (h 16)), (17, (h 17)), (18, (h 18)), (20, (rX7_readFriend_20 (rX5_advance_13 (h 13) (h 14)) (h 14) (h 20) n))]) (L2 := [(13, (rX7_readFriend_13 (rX5_advance_13 (h 13) (h 14)) (h 14) (h 20) n)), (15, (h 15)), (16, (h 16)), (17, (h 17)), (18, (h 18)), (19, (h 19)), (20, (rX7_readFriend_20 (rX5_advance_13 (h 13) (h 14)) (h 14) (h 20) n))]) (o := 19) (r := (h 19)) rfl rfl) ?_
          simpa only [vX7_readClause, rX7_readClause_13, rX7_readClause_15, rX7_readClause_16, rX7_readClause_17, rX7_readClause_18, rX7_readClause_19, rX7_readClause_20, if_pos c1, if_neg c6, if_pos c7, if_pos c8] using kq
        · skip
          refine rr_aload_n 1 rfl rfl dX7_readClause_107 ?_
          refine rr_bipush 59 rfl dX7_readClause_108 ?_
          refine rr_callV (As := [.int 59]) (rest := []) (kc2 := 0) (ks2 := 0) dX7_readClause_110 okX5_passSign lX7_79 lo_13 sh_13 rfl rfl (Nat.le_of_ble_eq_true rfl) (Nat.le_of_ble_eq_true rfl) rfl (by omega) (by simp [jj_rk]) (by simp [jj_rk]) ?_
          refine sp_X5_passSign (rT_ok (r14 := (h 14)) (rT_frnd (r13 := (rX5_advance_13 (h 13) (h 14))) (r14 := (h 14)) (r20 := (h 20)) (n := n) (rT_adv (r14 := (h 14)) ho))) ?_
          show jj_R _ _ kc ks (jj_S, 782, (jj_rs (jj_rs h [(13, (rX7_readFriend_13 (rX5_advance_13 (h 13) (h 14)) (h 14) (h 20) n)), (20, (rX7_readFriend_20 (rX5_advance_13 (h 13) (h 14)) (h 14) (h 20) n))]) [(13, (rX5_passSign_13 (rX7_readFriend_13 (rX5_advance_13 (h 13) (h 14)) (h 14) (h 20) n) (h 14) 59))]), g) 113 [(0, .ref 15), (1, .ref 13), (2, .int w), (3, .int (vX5_isWord_1 (h 13) (h 14))), (4, .int (vX5_isWord_2 (h 13) (h 14))), (5, .int (vX7_readFriend (rX5_advance_13 (h 13) (h 14)) (h 14) (h 20) n))] [.int (vX5_passSign (rX7_readFriend_13 (rX5_advance_13 (h 13) (h 14)) (h 14) (h 20) n) (h 14) 59)] Q
          rw [jj_rs_rs (B := h) (L := [(13, (rX7_readFriend_13 (rX5_advance_13 (h 13) (h 14)) (h 14) (h 20) n)), (20, (rX7_readFriend_20 (rX5_advance_13 (h 13) (h 14)) (h 14) (h 20) n))]) (M := [(13, (rX5_passSign_13 (rX7_readFriend_13 (rX5_advance_13 (h 13) (h 14)) (h 14) (h 20) n) (h 14) 59))]) (L2 := [(13, (rX5_passSign_13 (rX7_readFriend_13 (rX5_advance_13 (h 13) (h 14)) (h 14) (h 20) n) (h 14) 59)), (20, (rX7_readFriend_20 (rX5_advance_13 (h 13) (h 14)) (h 14) (h 20) n))]) rfl]
          refine rr_if_eq dX7_readClause_113 (fun c9 => ?_) (fun c9 => ?_)
          · skip
            refine rr_iconst 0 rfl dX7_readClause_120 ?_
            refine rr_nreturn dX7_readClause_121 rfl (by first | rfl | assumption) ?_
            refine jj_Qh (jj_rs_add (B := h) (L := [(13, (rX5_passSign_13 (rX7_readFriend_13 (rX5_advance_13 (h 13) (h 14)) (h 14) (h 20) n) (h 14) 59)), (20, (rX7_readFriend_20 (rX5_advance_13 (h 13) (h 14)) (h 14) (h 20) n))]) (L2 := [(13, (rX5_passSign_13 (rX7_readFriend_13 (rX5_advance_13 (h 13) (h 14)) (h 14) (h 20) n) (h 14) 59)), (15, (h 15)), (20, (rX7_readFriend_20 (rX5_advance_13 (h 13) (h 14)) (h 14) (h 20) n))]) (o := 15) (r := (h 15)) rfl rfl) ?_
            refine jj_Qh (jj_rs_add (B := h) (L := [(13, (rX5_passSign_13 (rX7_readFriend_13 (rX5_advance_13 (h 13) (h 14)) (h 14) (h 20) n) (h 14) 59)), (15, (h 15)), (20, (rX7_readFriend_20 (rX5_advance_13 (h 13) (h 14)) (h 14) (h 20) n))]) (L2 := [(13, (rX5_passSign_13 (rX7_readFriend_13 (rX5_advance_13 (h 13) (h 14)) (h 14) (h 20) n) (h 14) 59)), (15, (h 15)), (16, (h 16)), (20, (rX7_readFriend_20 (rX5_advance_13 (h 13) (h 14)) (h 14) (h 20) n))]) (o := 16) (r := (h 16)) rfl rfl) ?_
            refine jj_Qh (jj_rs_add (B := h) (L := [(13, (rX5_passSign_13 (rX7_readFriend_13 (rX5_advance_13 (h 13) (h 14)) (h 14) (h 20) n) (h 14) 59)), (15, (h 15)), (16, (h 16)), (20, (rX7_readFriend_20 (rX5_advance_13 (h 13) (h 14)) (h 14) (h 20) n))]) (L2 := [(13, (rX5_passSign_13 (rX7_readFriend_13 (rX5_advance_13 (h 13) (h 14)) (h 14) (h 20) n) (h 14) 59)), (15, (h 15)), (16, (h 16)), (17, (h 17)), (20, (rX7_readFriend_20 (rX5_advance_13 (h 13) (h 14)) (h 14) (h 20) n))]) (o := 17) (r := (h 17)) rfl rfl) ?_
            refine jj_Qh (jj_rs_add (B := h) (L := [(13, (rX5_passSign_13 (rX7_readFriend_13 (rX5_advance_13 (h 13) (h 14)) (h 14) (h 20) n) (h 14) 59)), (15, (h 15)), (16, (h 16)), (17, (h 17)), (20, (rX7_readFriend_20 (rX5_advance_13 (h 13) (h 14)) (h 14) (h 20) n))]) (L2 := [(13, (rX5_passSign_13 (rX7_readFriend_13 (rX5_advance_13 (h 13) (h 14)) (h 14) (h 20) n) (h 14) 59)), (15, (h 15)), (16, (h 16)), (17, (h 17)), (18, (h 18)), (20, (rX7_readFriend_20 (rX5_advance_13 (h 13) (h 14)) (h 14) (h 20) n))]) (o := 18) (r := (h 18)) rfl rfl) ?_
            refine jj_Qh (jj_rs_add (B := h) (L := [(13, (rX5_passSign_13 (rX7_readFriend_13 (rX5_advance_13 (h 13) (h 14)) (h 14) (h 20) n) (h 14) 59)), (15, (h 15)), (16, (h 16)), (17, (h 17)), (18, (h 18)), (20, (rX7_readFriend_20 (rX5_advance_13 (h 13) (h 14)) (h 14) (h 20) n))]) (L2 := [(13, (rX5_passSign_13 (rX7_readFriend_13 (rX5_advance_13 (h 13) (h 14)) (h 14) (h 20) n) (h 14) 59)), (15, (h 15)), (16, (h 16)), (17, (h 17)), (18, (h 18)), (19, (h 19)), (20, (rX7_readFriend_20 (rX5_advance_13 (h 13) (h 14)) (h 14) (h 20) n))]) (o := 19) (r := (h 19)) rfl rfl) ?_
            simpa only [vX7_readClause, rX7_readClause_13, rX7_readClause_15, rX7_readClause_16, rX7_readClause_17, rX7_readClause_18, rX7_readClause_19, rX7_readClause_20, if_pos c1, if_neg c6, if_pos c7, if_neg c8, if_pos c9] using kq
          · skip
            refine rr_iconst 1 rfl dX7_readClause_116 ?_
            refine rr_goto dX7_readClause_117 ?_
            refine rr_nreturn dX7_readClause_121 rfl (by first | rfl | assumption) ?_
            refine jj_Qh (jj_rs_add (B := h) (L := [(13, (rX5_passSign_13 (rX7_readFriend_13 (rX5_advance_13 (h 13) (h 14)) (h 14) (h 20) n) (h 14) 59)), (20, (rX7_readFriend_20 (rX5_advance_13 (h 13) (h 14)) (h 14) (h 20) n))]) (L2 := [(13, (rX5_passSign_13 (rX7_readFriend_13 (rX5_advance_13 (h 13) (h 14)) (h 14) (h 20) n) (h 14) 59)), (15, (h 15)), (20, (rX7_readFriend_20 (rX5_advance_13 (h 13) (h 14)) (h 14) (h 20) n))]) (o := 15) (r := (h 15)) rfl rfl) ?_
            refine jj_Qh (jj_rs_add (B := h) (L := [(13, (rX5_passSign_13 (rX7_readFriend_13 (rX5_advance_13 (h 13) (h 14)) (h 14) (h 20) n) (h 14) 59)), (15, (h 15)), (20, (rX7_readFriend_20 (rX5_advance_13 (h 13) (h 14)) (h 14) (h 20) n))]) (L2 := [(13, (rX5_passSign_13 (rX7_readFriend_13 (rX5_advance_13 (h 13) (h 14)) (h 14) (h 20) n) (h 14) 59)), (15, (h 15)), (16, (h 16)), (20, (rX7_readFriend_20 (rX5_advance_13 (h 13) (h 14)) (h 14) (h 20) n))]) (o := 16) (r := (h 16)) rfl rfl) ?_
            refine jj_Qh (jj_rs_add (B := h) (L := [(13, (rX5_passSign_13 (rX7_readFriend_13 (rX5_advance_13 (h 13) (h 14)) (h 14) (h 20) n) (h 14) 59)), (15, (h 15)), (16, (h 16)), (20, (rX7_readFriend_20 (rX5_advance_13 (h 13) (h 14)) (h 14) (h 20) n))]) (L2 := [(13, (rX5_passSign_13 (rX7_readFriend_13 (rX5_advance_13 (h 13) (h 14)) (h 14) (h 20) n) (h 14) 59)), (15, (h 15)), (16, (h 16)), (17, (h 17)), (20, (rX7_readFriend_20 (rX5_advance_13 (h 13) (h 14)) (h 14) (h 20) n))]) (o := 17) (r := (h 17)) rfl rfl) ?_
            refine jj_Qh (jj_rs_add (B := h) (L := [(13, (rX5_passSign_13 (rX7_readFriend_13 (rX5_advance_13 (h 13) (h 14)) (h 14) (h 20) n) (h 14) 59)), (15, (h 15)), (16, (h 16)), (17, (h 17)), (20, (rX7_readFriend_20 (rX5_advance_13 (h 13) (h 14)) (h 14) (h 20) n))]) (L2 := [(13, (rX5_passSign_13 (rX7_readFriend_13 (rX5_advance_13 (h 13) (h 14)) (h 14) (h 20) n) (h 14) 59)), (15, (h 15)), (16, (h 16)), (17, (h 17)), (18, (h 18)), (20, (rX7_readFriend_20 (rX5_advance_13 (h 13) (h 14)) (h 14) (h 20) n))]) (o := 18) (r := (h 18)) rfl rfl) ?_
            refine jj_Qh (jj_rs_add (B := h) (L := [(13, (rX5_passSign_13 (rX7_readFriend_13 (rX5_advance_13 (h 13) (h 14)) (h 14) (h 20) n) (h 14) 59)), (15, (h 15)), (16, (h 16)), (17, (h 17)), (18, (h 18)), (20, (rX7_readFriend_20 (rX5_advance_13 (h 13) (h 14)) (h 14) (h 20) n))]) (L2 := [(13, (rX5_passSign_13 (rX7_readFriend_13 (rX5_advance_13 (h 13) (h 14)) (h 14) (h 20) n) (h 14) 59)), (15, (h 15)), (16, (h 16)), (17, (h 17)), (18, (h 18)), (19, (h 19)), (20, (rX7_readFriend_20 (rX5_advance_13 (h 13) (h 14)) (h 14) (h 20) n))]) (o := 19) (r := (h 19)) rfl rfl) ?_
            simpa only [vX7_readClause, rX7_readClause_13, rX7_readClause_15, rX7_readClause_16, rX7_readClause_17, rX7_readClause_18, rX7_readClause_19, rX7_readClause_20, if_pos c1, if_neg c6, if_pos c7, if_neg c8, if_neg c9] using kq
    · skip
      refine rr_aload_n 1 rfl rfl dX7_readClause_24 ?_
      refine rr_ldcS 3 rfl dX7_readClause_25 ?_
      refine rr_callV (As := [.ref (1000000 + 3)]) (rest := []) (kc2 := 0) (ks2 := 0) dX7_readClause_27 okX5_isWord lX7_55 lo_13 sh_13 rfl rfl (Nat.le_of_ble_eq_true rfl) (Nat.le_of_ble_eq_true rfl) rfl (by omega) (by simp [jj_rk]) (by simp [jj_rk]) ?_
      refine sp_X5_isWord_3 (rT_at (r14 := (h 14)) ho) ?_
      show jj_R _ _ kc ks (jj_S, 782, h, g) 30 [(0, .ref 15), (1, .ref 13), (2, .int w), (3, .int (vX5_isWord_1 (h 13) (h 14))), (4, .int (vX5_isWord_2 (h 13) (h 14)))] [.int (vX5_isWord_3 (h 13) (h 14))] Q
      refine rr_if_ne dX7_readClause_30 (fun c10 => ?_) (fun c10 => ?_)
      · skip
        refine rr_iload_n 2 rfl rfl dX7_readClause_41 ?_
        refine rr_if_ne dX7_readClause_42 (fun c11 => ?_) (fun c11 => ?_)
        · skip
          refine rr_aload_n 1 rfl rfl dX7_readClause_58 ?_
          refine rr_iconst 3 rfl dX7_readClause_59 ?_
          refine rr_callV (As := [.int 3]) (rest := []) (kc2 := 0) (ks2 := 0) dX7_readClause_60 okX5_failed lX7_62 lo_13 sh_13 rfl rfl (Nat.le_of_ble_eq_true rfl) (Nat.le_of_ble_eq_true rfl) rfl (by omega) (by simp [jj_rk]) (by simp [jj_rk]) ?_
          refine sp_X5_failed  ?_
          show jj_R _ _ kc ks (jj_S, 782, (jj_rs h [(13, (rX5_failed_13 (h 13) 3))]), g) 63 [(0, .ref 15), (1, .ref 13), (2, .int w), (3, .int (vX5_isWord_1 (h 13) (h 14))), (4, .int (vX5_isWord_2 (h 13) (h 14)))] [.int (vX5_failed (h 13) 3)] Q
          refine rr_pop rfl dX7_readClause_63 ?_
          refine rr_iconst 0 rfl dX7_readClause_64 ?_
          refine rr_nreturn dX7_readClause_65 rfl (by first | rfl | assumption) ?_
          refine jj_Qh (jj_rs_add (B := h) (L := [(13, (rX5_failed_13 (h 13) 3))]) (L2 := [(13, (rX5_failed_13 (h 13) 3)), (15, (h 15))]) (o := 15) (r := (h 15)) rfl rfl) ?_
          refine jj_Qh (jj_rs_add (B := h) (L := [(13, (rX5_failed_13 (h 13) 3)), (15, (h 15))]) (L2 := [(13, (rX5_failed_13 (h 13) 3)), (15, (h 15)), (16, (h 16))]) (o := 16) (r := (h 16)) rfl rfl) ?_
          refine jj_Qh (jj_rs_add (B := h) (L := [(13, (rX5_failed_13 (h 13) 3)), (15, (h 15)), (16, (h 16))]) (L2 := [(13, (rX5_failed_13 (h 13) 3)), (15, (h 15)), (16, (h 16)), (17, (h 17))]) (o := 17) (r := (h 17)) rfl rfl) ?_
          refine jj_Qh (jj_rs_add (B := h) (L := [(13, (rX5_failed_13 (h 13) 3)), (15, (h 15)), (16, (h 16)), (17, (h 17))]) (L2 := [(13, (rX5_failed_13 (h 13) 3)), (15, (h 15)), (16, (h 16)), (17, (h 17)), (18, (h 18))]) (o := 18) (r := (h 18)) rfl rfl) ?_
          refine jj_Qh (jj_rs_add (B := h) (L := [(13, (rX5_failed_13 (h 13) 3)), (15, (h 15)), (16, (h 16)), (17, (h 17)), (18, (h 18))]) (L2 := [(13, (rX5_failed_13 (h 13) 3)), (15, (h 15)), (16, (h 16)), (17, (h 17)), (18, (h 18)), (19, (h 19))]) (o := 19) (r := (h 19)) rfl rfl) ?_
          refine jj_Qh (jj_rs_add (B := h) (L := [(13, (rX5_failed_13 (h 13) 3)), (15, (h 15)), (16, (h 16)), (17, (h 17)), (18, (h 18)), (19, (h 19))]) (L2 := [(13, (rX5_failed_13 (h 13) 3)), (15, (h 15)), (16, (h 16)), (17, (h 17)), (18, (h 18)), (19, (h 19)), (20, (h 20))]) (o := 20) (r := (h 20)) rfl rfl) ?_
          simpa only [vX7_readClause, rX7_readClause_13, rX7_readClause_15, rX7_readClause_16, rX7_readClause_17, rX7_readClause_18, rX7_readClause_19, rX7_readClause_20, if_pos c1, if_pos c6, if_neg c10, if_neg c11] using kq
        · skip
          refine rr_iload_n 3 rfl rfl dX7_readClause_45 ?_
          refine rr_if_eq dX7_readClause_46 (fun _ => ?_) (fun c => absurd c1 c)
          refine rr_aload_n 1 rfl rfl dX7_readClause_66 ?_
          refine rr_callV (As := []) (rest := []) (kc2 := 0) (ks2 := 0) dX7_readClause_67 okX5_advance lX7_66 lo_13 sh_13 rfl rfl (Nat.le_of_ble_eq_true rfl) (Nat.le_of_ble_eq_true rfl) rfl (by omega) (by simp [jj_rk]) (by simp [jj_rk]) ?_
          refine sp_X5_advance (rT_ok (r14 := (h 14)) ho) ?_
          show jj_R _ _ kc ks (jj_S, 782, (jj_rs h [(13, (rX5_advance_13 (h 13) (h 14)))]), g) 70 [(0, .ref 15), (1, .ref 13), (2, .int w), (3, .int (vX5_isWord_1 (h 13) (h 14))), (4, .int (vX5_isWord_2 (h 13) (h 14)))] [] Q
          refine rr_iload_n 3 rfl rfl dX7_readClause_70 ?_
          refine rr_if_eq dX7_readClause_71 (fun _ => ?_) (fun c => absurd c1 c)
          refine rr_iload 4 rfl dX7_readClause_82 ?_
          refine rr_if_eq dX7_readClause_84 (fun _ => ?_) (fun c => absurd c6 c)
          refine rr_aload_n 0 rfl rfl dX7_readClause_95 ?_
          refine rr_aload_n 1 rfl rfl dX7_readClause_96 ?_
          refine rr_callV (As := [.ref 13]) (rest := []) (kc2 := 0) (ks2 := 0) dX7_readClause_97 okX7_readString lX7_76 lo_15 sh_15 rfl rfl (Nat.le_of_ble_eq_true rfl) (Nat.le_of_ble_eq_true rfl) rfl (by omega) (by simp [jj_rk]) (by simp [jj_rk]) ?_
          refine sp_X7_readString (rT_adv (r14 := (h 14)) ho) ?_
          show jj_R _ _ kc ks (jj_S, 782, (jj_rs (jj_rs h [(13, (rX5_advance_13 (h 13) (h 14)))]) [(13, (rX7_readString_13 (rX5_advance_13 (h 13) (h 14)) (h 14) (h 15))), (15, (rX7_readString_15 (rX5_advance_13 (h 13) (h 14)) (h 14) (h 15)))]), g) 100 [(0, .ref 15), (1, .ref 13), (2, .int w), (3, .int (vX5_isWord_1 (h 13) (h 14))), (4, .int (vX5_isWord_2 (h 13) (h 14)))] [.int (vX7_readString (rX5_advance_13 (h 13) (h 14)) (h 14) (h 15))] Q
          rw [jj_rs_rs (B := h) (L := [(13, (rX5_advance_13 (h 13) (h 14)))]) (M := [(13, (rX7_readString_13 (rX5_advance_13 (h 13) (h 14)) (h 14) (h 15))), (15, (rX7_readString_15 (rX5_advance_13 (h 13) (h 14)) (h 14) (h 15)))]) (L2 := [(13, (rX7_readString_13 (rX5_advance_13 (h 13) (h 14)) (h 14) (h 15))), (15, (rX7_readString_15 (rX5_advance_13 (h 13) (h 14)) (h 14) (h 15)))]) rfl]
          refine rr_istore [(0, .ref 15), (1, .ref 13), (2, .int w), (3, .int (vX5_isWord_1 (h 13) (h 14))), (4, .int (vX5_isWord_2 (h 13) (h 14))), (5, .int (vX7_readString (rX5_advance_13 (h 13) (h 14)) (h 14) (h 15)))] dX7_readClause_100 (by decide) rfl ?_
          refine rr_iload 5 rfl dX7_readClause_102 ?_
          refine rr_if_eq dX7_readClause_104 (fun c12 => ?_) (fun c12 => ?_)
          · skip
            refine rr_iconst 0 rfl dX7_readClause_120 ?_
            refine rr_nreturn dX7_readClause_121 rfl (by first | rfl | assumption) ?_
            refine jj_Qh (jj_rs_add (B := h) (L := [(13, (rX7_readString_13 (rX5_advance_13 (h 13) (h 14)) (h 14) (h 15))), (15, (rX7_readString_15 (rX5_advance_13 (h 13) (h 14)) (h 14) (h 15)))]) (L2 := [(13, (rX7_readString_13 (rX5_advance_13 (h 13) (h 14)) (h 14) (h 15))), (15, (rX7_readString_15 (rX5_advance_13 (h 13) (h 14)) (h 14) (h 15))), (16, (h 16))]) (o := 16) (r := (h 16)) rfl rfl) ?_
            refine jj_Qh (jj_rs_add (B := h) (L := [(13, (rX7_readString_13 (rX5_advance_13 (h 13) (h 14)) (h 14) (h 15))), (15, (rX7_readString_15 (rX5_advance_13 (h 13) (h 14)) (h 14) (h 15))), (16, (h 16))]) (L2 := [(13, (rX7_readString_13 (rX5_advance_13 (h 13) (h 14)) (h 14) (h 15))), (15, (rX7_readString_15 (rX5_advance_13 (h 13) (h 14)) (h 14) (h 15))), (16, (h 16)), (17, (h 17))]) (o := 17) (r := (h 17)) rfl rfl) ?_
            refine jj_Qh (jj_rs_add (B := h) (L := [(13, (rX7_readString_13 (rX5_advance_13 (h 13) (h 14)) (h 14) (h 15))), (15, (rX7_readString_15 (rX5_advance_13 (h 13) (h 14)) (h 14) (h 15))), (16, (h 16)), (17, (h 17))]) (L2 := [(13, (rX7_readString_13 (rX5_advance_13 (h 13) (h 14)) (h 14) (h 15))), (15, (rX7_readString_15 (rX5_advance_13 (h 13) (h 14)) (h 14) (h 15))), (16, (h 16)), (17, (h 17)), (18, (h 18))]) (o := 18) (r := (h 18)) rfl rfl) ?_
            refine jj_Qh (jj_rs_add (B := h) (L := [(13, (rX7_readString_13 (rX5_advance_13 (h 13) (h 14)) (h 14) (h 15))), (15, (rX7_readString_15 (rX5_advance_13 (h 13) (h 14)) (h 14) (h 15))), (16, (h 16)), (17, (h 17)), (18, (h 18))]) (L2 := [(13, (rX7_readString_13 (rX5_advance_13 (h 13) (h 14)) (h 14) (h 15))), (15, (rX7_readString_15 (rX5_advance_13 (h 13) (h 14)) (h 14) (h 15))), (16, (h 16)), (17, (h 17)), (18, (h 18)), (19, (h 19))]) (o := 19) (r := (h 19)) rfl rfl) ?_
            refine jj_Qh (jj_rs_add (B := h) (L := [(13, (rX7_readString_13 (rX5_advance_13 (h 13) (h 14)) (h 14) (h 15))), (15, (rX7_readString_15 (rX5_advance_13 (h 13) (h 14)) (h 14) (h 15))), (16, (h 16)), (17, (h 17)), (18, (h 18)), (19, (h 19))]) (L2 := [(13, (rX7_readString_13 (rX5_advance_13 (h 13) (h 14)) (h 14) (h 15))), (15, (rX7_readString_15 (rX5_advance_13 (h 13) (h 14)) (h 14) (h 15))), (16, (h 16)), (17, (h 17)), (18, (h 18)), (19, (h 19)), (20, (h 20))]) (o := 20) (r := (h 20)) rfl rfl) ?_
            simpa only [vX7_readClause, rX7_readClause_13, rX7_readClause_15, rX7_readClause_16, rX7_readClause_17, rX7_readClause_18, rX7_readClause_19, rX7_readClause_20, if_pos c1, if_pos c6, if_neg c10, if_pos c11, if_pos c12] using kq
          · skip
            refine rr_aload_n 1 rfl rfl dX7_readClause_107 ?_
            refine rr_bipush 59 rfl dX7_readClause_108 ?_
            refine rr_callV (As := [.int 59]) (rest := []) (kc2 := 0) (ks2 := 0) dX7_readClause_110 okX5_passSign lX7_79 lo_13 sh_13 rfl rfl (Nat.le_of_ble_eq_true rfl) (Nat.le_of_ble_eq_true rfl) rfl (by omega) (by simp [jj_rk]) (by simp [jj_rk]) ?_
            refine sp_X5_passSign (rT_ok (r14 := (h 14)) (rT_str (r13 := (rX5_advance_13 (h 13) (h 14))) (r14 := (h 14)) (r15 := (h 15)) (rT_adv (r14 := (h 14)) ho))) ?_
            show jj_R _ _ kc ks (jj_S, 782, (jj_rs (jj_rs h [(13, (rX7_readString_13 (rX5_advance_13 (h 13) (h 14)) (h 14) (h 15))), (15, (rX7_readString_15 (rX5_advance_13 (h 13) (h 14)) (h 14) (h 15)))]) [(13, (rX5_passSign_13 (rX7_readString_13 (rX5_advance_13 (h 13) (h 14)) (h 14) (h 15)) (h 14) 59))]), g) 113 [(0, .ref 15), (1, .ref 13), (2, .int w), (3, .int (vX5_isWord_1 (h 13) (h 14))), (4, .int (vX5_isWord_2 (h 13) (h 14))), (5, .int (vX7_readString (rX5_advance_13 (h 13) (h 14)) (h 14) (h 15)))] [.int (vX5_passSign (rX7_readString_13 (rX5_advance_13 (h 13) (h 14)) (h 14) (h 15)) (h 14) 59)] Q
            rw [jj_rs_rs (B := h) (L := [(13, (rX7_readString_13 (rX5_advance_13 (h 13) (h 14)) (h 14) (h 15))), (15, (rX7_readString_15 (rX5_advance_13 (h 13) (h 14)) (h 14) (h 15)))]) (M := [(13, (rX5_passSign_13 (rX7_readString_13 (rX5_advance_13 (h 13) (h 14)) (h 14) (h 15)) (h 14) 59))]) (L2 := [(13, (rX5_passSign_13 (rX7_readString_13 (rX5_advance_13 (h 13) (h 14)) (h 14) (h 15)) (h 14) 59)), (15, (rX7_readString_15 (rX5_advance_13 (h 13) (h 14)) (h 14) (h 15)))]) rfl]
            refine rr_if_eq dX7_readClause_113 (fun c13 => ?_) (fun c13 => ?_)
            · skip
              refine rr_iconst 0 rfl dX7_readClause_120 ?_
              refine rr_nreturn dX7_readClause_121 rfl (by first | rfl | assumption) ?_
              refine jj_Qh (jj_rs_add (B := h) (L := [(13, (rX5_passSign_13 (rX7_readString_13 (rX5_advance_13 (h 13) (h 14)) (h 14) (h 15)) (h 14) 59)), (15, (rX7_readString_15 (rX5_advance_13 (h 13) (h 14)) (h 14) (h 15)))]) (L2 := [(13, (rX5_passSign_13 (rX7_readString_13 (rX5_advance_13 (h 13) (h 14)) (h 14) (h 15)) (h 14) 59)), (15, (rX7_readString_15 (rX5_advance_13 (h 13) (h 14)) (h 14) (h 15))), (16, (h 16))]) (o := 16) (r := (h 16)) rfl rfl) ?_
              refine jj_Qh (jj_rs_add (B := h) (L := [(13, (rX5_passSign_13 (rX7_readString_13 (rX5_advance_13 (h 13) (h 14)) (h 14) (h 15)) (h 14) 59)), (15, (rX7_readString_15 (rX5_advance_13 (h 13) (h 14)) (h 14) (h 15))), (16, (h 16))]) (L2 := [(13, (rX5_passSign_13 (rX7_readString_13 (rX5_advance_13 (h 13) (h 14)) (h 14) (h 15)) (h 14) 59)), (15, (rX7_readString_15 (rX5_advance_13 (h 13) (h 14)) (h 14) (h 15))), (16, (h 16)), (17, (h 17))]) (o := 17) (r := (h 17)) rfl rfl) ?_
              refine jj_Qh (jj_rs_add (B := h) (L := [(13, (rX5_passSign_13 (rX7_readString_13 (rX5_advance_13 (h 13) (h 14)) (h 14) (h 15)) (h 14) 59)), (15, (rX7_readString_15 (rX5_advance_13 (h 13) (h 14)) (h 14) (h 15))), (16, (h 16)), (17, (h 17))]) (L2 := [(13, (rX5_passSign_13 (rX7_readString_13 (rX5_advance_13 (h 13) (h 14)) (h 14) (h 15)) (h 14) 59)), (15, (rX7_readString_15 (rX5_advance_13 (h 13) (h 14)) (h 14) (h 15))), (16, (h 16)), (17, (h 17)), (18, (h 18))]) (o := 18) (r := (h 18)) rfl rfl) ?_
              refine jj_Qh (jj_rs_add (B := h) (L := [(13, (rX5_passSign_13 (rX7_readString_13 (rX5_advance_13 (h 13) (h 14)) (h 14) (h 15)) (h 14) 59)), (15, (rX7_readString_15 (rX5_advance_13 (h 13) (h 14)) (h 14) (h 15))), (16, (h 16)), (17, (h 17)), (18, (h 18))]) (L2 := [(13, (rX5_passSign_13 (rX7_readString_13 (rX5_advance_13 (h 13) (h 14)) (h 14) (h 15)) (h 14) 59)), (15, (rX7_readString_15 (rX5_advance_13 (h 13) (h 14)) (h 14) (h 15))), (16, (h 16)), (17, (h 17)), (18, (h 18)), (19, (h 19))]) (o := 19) (r := (h 19)) rfl rfl) ?_
              refine jj_Qh (jj_rs_add (B := h) (L := [(13, (rX5_passSign_13 (rX7_readString_13 (rX5_advance_13 (h 13) (h 14)) (h 14) (h 15)) (h 14) 59)), (15, (rX7_readString_15 (rX5_advance_13 (h 13) (h 14)) (h 14) (h 15))), (16, (h 16)), (17, (h 17)), (18, (h 18)), (19, (h 19))]) (L2 := [(13, (rX5_passSign_13 (rX7_readString_13 (rX5_advance_13 (h 13) (h 14)) (h 14) (h 15)) (h 14) 59)), (15, (rX7_readString_15 (rX5_advance_13 (h 13) (h 14)) (h 14) (h 15))), (16, (h 16)), (17, (h 17)), (18, (h 18)), (19, (h 19)), (20, (h 20))]) (o := 20) (r := (h 20)) rfl rfl) ?_
              simpa only [vX7_readClause, rX7_readClause_13, rX7_readClause_15, rX7_readClause_16, rX7_readClause_17, rX7_readClause_18, rX7_readClause_19, rX7_readClause_20, if_pos c1, if_pos c6, if_neg c10, if_pos c11, if_neg c12, if_pos c13] using kq
            · skip
              refine rr_iconst 1 rfl dX7_readClause_116 ?_
              refine rr_goto dX7_readClause_117 ?_
              refine rr_nreturn dX7_readClause_121 rfl (by first | rfl | assumption) ?_
              refine jj_Qh (jj_rs_add (B := h) (L := [(13, (rX5_passSign_13 (rX7_readString_13 (rX5_advance_13 (h 13) (h 14)) (h 14) (h 15)) (h 14) 59)), (15, (rX7_readString_15 (rX5_advance_13 (h 13) (h 14)) (h 14) (h 15)))]) (L2 := [(13, (rX5_passSign_13 (rX7_readString_13 (rX5_advance_13 (h 13) (h 14)) (h 14) (h 15)) (h 14) 59)), (15, (rX7_readString_15 (rX5_advance_13 (h 13) (h 14)) (h 14) (h 15))), (16, (h 16))]) (o := 16) (r := (h 16)) rfl rfl) ?_
              refine jj_Qh (jj_rs_add (B := h) (L := [(13, (rX5_passSign_13 (rX7_readString_13 (rX5_advance_13 (h 13) (h 14)) (h 14) (h 15)) (h 14) 59)), (15, (rX7_readString_15 (rX5_advance_13 (h 13) (h 14)) (h 14) (h 15))), (16, (h 16))]) (L2 := [(13, (rX5_passSign_13 (rX7_readString_13 (rX5_advance_13 (h 13) (h 14)) (h 14) (h 15)) (h 14) 59)), (15, (rX7_readString_15 (rX5_advance_13 (h 13) (h 14)) (h 14) (h 15))), (16, (h 16)), (17, (h 17))]) (o := 17) (r := (h 17)) rfl rfl) ?_
              refine jj_Qh (jj_rs_add (B := h) (L := [(13, (rX5_passSign_13 (rX7_readString_13 (rX5_advance_13 (h 13) (h 14)) (h 14) (h 15)) (h 14) 59)), (15, (rX7_readString_15 (rX5_advance_13 (h 13) (h 14)) (h 14) (h 15))), (16, (h 16)), (17, (h 17))]) (L2 := [(13, (rX5_passSign_13 (rX7_readString_13 (rX5_advance_13 (h 13) (h 14)) (h 14) (h 15)) (h 14) 59)), (15, (rX7_readString_15 (rX5_advance_13 (h 13) (h 14)) (h 14) (h 15))), (16, (h 16)), (17, (h 17)), (18, (h 18))]) (o := 18) (r := (h 18)) rfl rfl) ?_
              refine jj_Qh (jj_rs_add (B := h) (L := [(13, (rX5_passSign_13 (rX7_readString_13 (rX5_advance_13 (h 13) (h 14)) (h 14) (h 15)) (h 14) 59)), (15, (rX7_readString_15 (rX5_advance_13 (h 13) (h 14)) (h 14) (h 15))), (16, (h 16)), (17, (h 17)), (18, (h 18))]) (L2 := [(13, (rX5_passSign_13 (rX7_readString_13 (rX5_advance_13 (h 13) (h 14)) (h 14) (h 15)) (h 14) 59)), (15, (rX7_readString_15 (rX5_advance_13 (h 13) (h 14)) (h 14) (h 15))), (16, (h 16)), (17, (h 17)), (18, (h 18)), (19, (h 19))]) (o := 19) (r := (h 19)) rfl rfl) ?_
              refine jj_Qh (jj_rs_add (B := h) (L := [(13, (rX5_passSign_13 (rX7_readString_13 (rX5_advance_13 (h 13) (h 14)) (h 14) (h 15)) (h 14) 59)), (15, (rX7_readString_15 (rX5_advance_13 (h 13) (h 14)) (h 14) (h 15))), (16, (h 16)), (17, (h 17)), (18, (h 18)), (19, (h 19))]) (L2 := [(13, (rX5_passSign_13 (rX7_readString_13 (rX5_advance_13 (h 13) (h 14)) (h 14) (h 15)) (h 14) 59)), (15, (rX7_readString_15 (rX5_advance_13 (h 13) (h 14)) (h 14) (h 15))), (16, (h 16)), (17, (h 17)), (18, (h 18)), (19, (h 19)), (20, (h 20))]) (o := 20) (r := (h 20)) rfl rfl) ?_
              simpa only [vX7_readClause, rX7_readClause_13, rX7_readClause_15, rX7_readClause_16, rX7_readClause_17, rX7_readClause_18, rX7_readClause_19, rX7_readClause_20, if_pos c1, if_pos c6, if_neg c10, if_pos c11, if_neg c12, if_neg c13] using kq
      · skip
        refine rr_aload_n 1 rfl rfl dX7_readClause_33 ?_
        refine rr_iconst 1 rfl dX7_readClause_34 ?_
        refine rr_callV (As := [.int 1]) (rest := []) (kc2 := 0) (ks2 := 0) dX7_readClause_35 okX5_failed lX7_62 lo_13 sh_13 rfl rfl (Nat.le_of_ble_eq_true rfl) (Nat.le_of_ble_eq_true rfl) rfl (by omega) (by simp [jj_rk]) (by simp [jj_rk]) ?_
        refine sp_X5_failed  ?_
        show jj_R _ _ kc ks (jj_S, 782, (jj_rs h [(13, (rX5_failed_13 (h 13) 1))]), g) 38 [(0, .ref 15), (1, .ref 13), (2, .int w), (3, .int (vX5_isWord_1 (h 13) (h 14))), (4, .int (vX5_isWord_2 (h 13) (h 14)))] [.int (vX5_failed (h 13) 1)] Q
        refine rr_pop rfl dX7_readClause_38 ?_
        refine rr_iconst 0 rfl dX7_readClause_39 ?_
        refine rr_nreturn dX7_readClause_40 rfl (by first | rfl | assumption) ?_
        refine jj_Qh (jj_rs_add (B := h) (L := [(13, (rX5_failed_13 (h 13) 1))]) (L2 := [(13, (rX5_failed_13 (h 13) 1)), (15, (h 15))]) (o := 15) (r := (h 15)) rfl rfl) ?_
        refine jj_Qh (jj_rs_add (B := h) (L := [(13, (rX5_failed_13 (h 13) 1)), (15, (h 15))]) (L2 := [(13, (rX5_failed_13 (h 13) 1)), (15, (h 15)), (16, (h 16))]) (o := 16) (r := (h 16)) rfl rfl) ?_
        refine jj_Qh (jj_rs_add (B := h) (L := [(13, (rX5_failed_13 (h 13) 1)), (15, (h 15)), (16, (h 16))]) (L2 := [(13, (rX5_failed_13 (h 13) 1)), (15, (h 15)), (16, (h 16)), (17, (h 17))]) (o := 17) (r := (h 17)) rfl rfl) ?_
        refine jj_Qh (jj_rs_add (B := h) (L := [(13, (rX5_failed_13 (h 13) 1)), (15, (h 15)), (16, (h 16)), (17, (h 17))]) (L2 := [(13, (rX5_failed_13 (h 13) 1)), (15, (h 15)), (16, (h 16)), (17, (h 17)), (18, (h 18))]) (o := 18) (r := (h 18)) rfl rfl) ?_
        refine jj_Qh (jj_rs_add (B := h) (L := [(13, (rX5_failed_13 (h 13) 1)), (15, (h 15)), (16, (h 16)), (17, (h 17)), (18, (h 18))]) (L2 := [(13, (rX5_failed_13 (h 13) 1)), (15, (h 15)), (16, (h 16)), (17, (h 17)), (18, (h 18)), (19, (h 19))]) (o := 19) (r := (h 19)) rfl rfl) ?_
        refine jj_Qh (jj_rs_add (B := h) (L := [(13, (rX5_failed_13 (h 13) 1)), (15, (h 15)), (16, (h 16)), (17, (h 17)), (18, (h 18)), (19, (h 19))]) (L2 := [(13, (rX5_failed_13 (h 13) 1)), (15, (h 15)), (16, (h 16)), (17, (h 17)), (18, (h 18)), (19, (h 19)), (20, (h 20))]) (o := 20) (r := (h 20)) rfl rfl) ?_
        simpa only [vX7_readClause, rX7_readClause_13, rX7_readClause_15, rX7_readClause_16, rX7_readClause_17, rX7_readClause_18, rX7_readClause_19, rX7_readClause_20, if_pos c1, if_pos c6, if_pos c10] using kq
