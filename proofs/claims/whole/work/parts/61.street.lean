theorem fr_in {r r14 : Nat → Int32} {n : Nat} (h : rdT r r14) (hn : n ≤ 8) (q : ¬ vX5_number r r14 (nI n - 1) = -1) : vp_in (vX5_number r r14 (nI n - 1)) 8 := by
  obtain ⟨c, e, a, hB, he, ht⟩ := h
  have k4 := kd_lt (c := c) (e := e) (a := a)
  have hv2 := wnl_le (c := c) (e := e) (a := a)
  unfold vX5_number at q ⊢
  by_cases c1 : r 4 = 1
  · rw [if_pos c1] at q ⊢
    have k1 : kd c e a = 1 := by
      rw [ht.2.2.2.2.1] at c1
      exact (nI_eq (b := 1) (by omega) (by decide)).mp c1
    by_cases c2 : r 5 ≤ nI n - 1
    · rw [if_pos c2] at q ⊢
      rw [ht.2.2.2.2.2.1 k1] at c2 ⊢
      cases n with
      | zero =>
        exfalso
        rw [show nI 0 - 1 = (-1 : Int32) from by decide, Int32.le_iff_toInt_le, nI_toInt (by omega), show (-1 : Int32).toInt = -1 from rfl] at c2
        omega
      | succ m =>
        rw [nI_lim, nI_leI (by omega) (by omega)] at c2
        exact vp_in_nI (by omega) (by decide)
    · rw [if_neg c2] at q
      exact absurd rfl q
  · rw [if_neg c1] at q
    exact absurd rfl q
def vX7_readFriend (r13 : Nat → Int32) (r14 : Nat → Int32) (r20 : Nat → Int32) (n : Nat) : Int32 := (if (vX5_number r13 r14 ((nI n) - 1)) = (-1) then 0 else (if (vX5_isNumber (rX5_number_13 r13 r14 ((nI n) - 1)) (vX5_number r13 r14 ((nI n) - 1))) = 0 then (if (vX5_number (rX5_number_13 r13 r14 ((nI n) - 1)) r14 ((nI n) - 1)) = (-1) then 0 else 1) else 0))
def rX7_readFriend_13 (r13 : Nat → Int32) (r14 : Nat → Int32) (r20 : Nat → Int32) (n : Nat) : Nat → Int32 := (if (vX5_number r13 r14 ((nI n) - 1)) = (-1) then (rX5_number_13 r13 r14 ((nI n) - 1)) else (if (vX5_isNumber (rX5_number_13 r13 r14 ((nI n) - 1)) (vX5_number r13 r14 ((nI n) - 1))) = 0 then (rX5_number_13 (rX5_number_13 r13 r14 ((nI n) - 1)) r14 ((nI n) - 1)) else (rX5_failed_13 (rX5_number_13 r13 r14 ((nI n) - 1)) 2)))
def rX7_readFriend_20 (r13 : Nat → Int32) (r14 : Nat → Int32) (r20 : Nat → Int32) (n : Nat) : Nat → Int32 := (if (vX5_number r13 r14 ((nI n) - 1)) = (-1) then r20 else (if (vX5_isNumber (rX5_number_13 r13 r14 ((nI n) - 1)) (vX5_number r13 r14 ((nI n) - 1))) = 0 then (if (vX5_number (rX5_number_13 r13 r14 ((nI n) - 1)) r14 ((nI n) - 1)) = (-1) then r20 else (upd (upd r20 (((vX5_number r13 r14 ((nI n) - 1)) : Int32).toNatClampNeg) ((r20 ((vX5_number r13 r14 ((nI n) - 1)) : Int32).toNatClampNeg) ||| (1 <<< ((vX5_number (rX5_number_13 r13 r14 ((nI n) - 1)) r14 ((nI n) - 1)) &&& 31)))) (((vX5_number (rX5_number_13 r13 r14 ((nI n) - 1)) r14 ((nI n) - 1)) : Int32).toNatClampNeg) (((upd r20 (((vX5_number r13 r14 ((nI n) - 1)) : Int32).toNatClampNeg) ((r20 ((vX5_number r13 r14 ((nI n) - 1)) : Int32).toNatClampNeg) ||| (1 <<< ((vX5_number (rX5_number_13 r13 r14 ((nI n) - 1)) r14 ((nI n) - 1)) &&& 31)))) ((vX5_number (rX5_number_13 r13 r14 ((nI n) - 1)) r14 ((nI n) - 1)) : Int32).toNatClampNeg) ||| (1 <<< ((vX5_number r13 r14 ((nI n) - 1)) &&& 31))))) else r20))
set_option maxHeartbeats 1000000 in
theorem sp_X7_readFriend {d kc ks : Nat} {h : Nat → Nat → Int32} {g : Nat → Nat → Int64} {Q : jj_Rs → jj_St → Prop} {n : Nat} (ho : rdT (h 13) (h 14)) (hP : h 15 0 = nI n) (hn : n ≤ 8) (kq : Q (.inl (some (.int (vX7_readFriend (h 13) (h 14) (h 20) n)))) (jj_S, 782, (jj_rs h [(13, (rX7_readFriend_13 (h 13) (h 14) (h 20) n)), (20, (rX7_readFriend_20 (h 13) (h 14) (h 20) n))]), g)) : jj_R mX7_readFriend (d + 2) kc ks (jj_S, 782, h, g) 0 [(0, .ref 15), (1, .ref 13)] [] Q := by
  refine rr_aload_n 1 rfl rfl dX7_readFriend_0 ?_
  refine rr_aload_n 0 rfl rfl dX7_readFriend_1 ?_
  refine rr_getI dX7_readFriend_2 fX7_31 lo_15 sh_15 rfl ?_
  rw [show (h 15) 0 = (nI n) from hP]
  refine rr_iconst 1 rfl dX7_readFriend_5 ?_
  refine rr_isub dX7_readFriend_6 ?_
  refine rr_callV (As := [.int ((nI n) - 1)]) (rest := []) (kc2 := 0) (ks2 := 0) dX7_readFriend_7 okX5_number lX7_83 lo_13 sh_13 rfl rfl (Nat.le_of_ble_eq_true rfl) (Nat.le_of_ble_eq_true rfl) rfl (by omega) (by simp [jj_rk]) (by simp [jj_rk]) ?_
  refine sp_X5_number (rT_ok (r14 := (h 14)) ho) ?_
  show jj_R _ _ kc ks (jj_S, 782, (jj_rs h [(13, (rX5_number_13 (h 13) (h 14) ((nI n) - 1)))]), g) 10 [(0, .ref 15), (1, .ref 13)] [.int (vX5_number (h 13) (h 14) ((nI n) - 1))] Q
  refine rr_istore_n [(0, .ref 15), (1, .ref 13), (2, .int (vX5_number (h 13) (h 14) ((nI n) - 1)))] dX7_readFriend_10 rfl (by decide) rfl ?_
  refine rr_iload_n 2 rfl rfl dX7_readFriend_11 ?_
  refine rr_iconst (-1) rfl dX7_readFriend_12 ?_
  refine rr_icmp_ne dX7_readFriend_13 (fun c1 => ?_) (fun c1 => ?_)
  · skip
    refine rr_aload_n 1 rfl rfl dX7_readFriend_18 ?_
    refine rr_iload_n 2 rfl rfl dX7_readFriend_19 ?_
    refine rr_callV (As := [.int (vX5_number (h 13) (h 14) ((nI n) - 1))]) (rest := []) (kc2 := 0) (ks2 := 0) dX7_readFriend_20 okX5_isNumber lX7_86 lo_13 sh_13 rfl rfl (Nat.le_of_ble_eq_true rfl) (Nat.le_of_ble_eq_true rfl) rfl (by omega) (by simp [jj_rk]) (by simp [jj_rk]) ?_
    refine sp_X5_isNumber  ?_
    show jj_R _ _ kc ks (jj_S, 782, (jj_rs h [(13, (rX5_number_13 (h 13) (h 14) ((nI n) - 1)))]), g) 23 [(0, .ref 15), (1, .ref 13), (2, .int (vX5_number (h 13) (h 14) ((nI n) - 1)))] [.int (vX5_isNumber (rX5_number_13 (h 13) (h 14) ((nI n) - 1)) (vX5_number (h 13) (h 14) ((nI n) - 1)))] Q
    refine rr_if_eq dX7_readFriend_23 (fun c2 => ?_) (fun c2 => ?_)
    · skip
      refine rr_aload_n 1 rfl rfl dX7_readFriend_34 ?_
      refine rr_aload_n 0 rfl rfl dX7_readFriend_35 ?_
      refine rr_getI dX7_readFriend_36 fX7_31 lo_15 sh_15 rfl ?_
      rw [show (jj_rs h [(13, (rX5_number_13 (h 13) (h 14) ((nI n) - 1)))]) 15 = h 15 from rfl]
      rw [show (h 15) 0 = (nI n) from hP]
      refine rr_iconst 1 rfl dX7_readFriend_39 ?_
      refine rr_isub dX7_readFriend_40 ?_
      refine rr_callV (As := [.int ((nI n) - 1)]) (rest := []) (kc2 := 0) (ks2 := 0) dX7_readFriend_41 okX5_number lX7_83 lo_13 sh_13 rfl rfl (Nat.le_of_ble_eq_true rfl) (Nat.le_of_ble_eq_true rfl) rfl (by omega) (by simp [jj_rk]) (by simp [jj_rk]) ?_
      refine sp_X5_number (rT_ok (r14 := (h 14)) (rT_num (r14 := (h 14)) ho)) ?_
      show jj_R _ _ kc ks (jj_S, 782, (jj_rs (jj_rs h [(13, (rX5_number_13 (h 13) (h 14) ((nI n) - 1)))]) [(13, (rX5_number_13 (rX5_number_13 (h 13) (h 14) ((nI n) - 1)) (h 14) ((nI n) - 1)))]), g) 44 [(0, .ref 15), (1, .ref 13), (2, .int (vX5_number (h 13) (h 14) ((nI n) - 1)))] [.int (vX5_number (rX5_number_13 (h 13) (h 14) ((nI n) - 1)) (h 14) ((nI n) - 1))] Q
      rw [jj_rs_rs (B := h) (L := [(13, (rX5_number_13 (h 13) (h 14) ((nI n) - 1)))]) (M := [(13, (rX5_number_13 (rX5_number_13 (h 13) (h 14) ((nI n) - 1)) (h 14) ((nI n) - 1)))]) (L2 := [(13, (rX5_number_13 (rX5_number_13 (h 13) (h 14) ((nI n) - 1)) (h 14) ((nI n) - 1)))]) rfl]
      refine rr_istore_n [(0, .ref 15), (1, .ref 13), (2, .int (vX5_number (h 13) (h 14) ((nI n) - 1))), (3, .int (vX5_number (rX5_number_13 (h 13) (h 14) ((nI n) - 1)) (h 14) ((nI n) - 1)))] dX7_readFriend_44 rfl (by decide) rfl ?_
      refine rr_iload_n 3 rfl rfl dX7_readFriend_45 ?_
      refine rr_iconst (-1) rfl dX7_readFriend_46 ?_
      refine rr_icmp_ne dX7_readFriend_47 (fun c3 => ?_) (fun c3 => ?_)
      · skip
        refine rr_aload_n 0 rfl rfl dX7_readFriend_52 ?_
        refine rr_getR dX7_readFriend_53 fX7_28 lo_15 sh_15 rfl ?_
        refine rr_iload_n 2 rfl rfl dX7_readFriend_56 ?_
        refine rr_dup2 rfl rfl dX7_readFriend_57 ?_
        refine rr_iaload dX7_readFriend_58 lo_20 sh_20 (fr_in ho hn (by assumption)) ?_
        rw [show (jj_rs h [(13, (rX5_number_13 (rX5_number_13 (h 13) (h 14) ((nI n) - 1)) (h 14) ((nI n) - 1)))]) 20 = h 20 from rfl]
        refine rr_iconst 1 rfl dX7_readFriend_59 ?_
        refine rr_iload_n 3 rfl rfl dX7_readFriend_60 ?_
        refine rr_ishl dX7_readFriend_61 ?_
        refine rr_ior dX7_readFriend_62 ?_
        refine rr_iastore dX7_readFriend_63 lo_20 sh_20 (fr_in ho hn (by assumption)) ?_
        rw [jj_rs_set (B := h) (L := [(13, (rX5_number_13 (rX5_number_13 (h 13) (h 14) ((nI n) - 1)) (h 14) ((nI n) - 1)))]) (L2 := [(13, (rX5_number_13 (rX5_number_13 (h 13) (h 14) ((nI n) - 1)) (h 14) ((nI n) - 1))), (20, (upd (h 20) (((vX5_number (h 13) (h 14) ((nI n) - 1)) : Int32).toNatClampNeg) (((h 20) ((vX5_number (h 13) (h 14) ((nI n) - 1)) : Int32).toNatClampNeg) ||| (1 <<< ((vX5_number (rX5_number_13 (h 13) (h 14) ((nI n) - 1)) (h 14) ((nI n) - 1)) &&& 31)))))]) (r := (h 20)) rfl rfl]
        refine rr_aload_n 0 rfl rfl dX7_readFriend_64 ?_
        refine rr_getR dX7_readFriend_65 fX7_28 lo_15 sh_15 rfl ?_
        refine rr_iload_n 3 rfl rfl dX7_readFriend_68 ?_
        refine rr_dup2 rfl rfl dX7_readFriend_69 ?_
        refine rr_iaload dX7_readFriend_70 lo_20 sh_20 (fr_in (rT_num ho) hn (by assumption)) ?_
        rw [show (jj_rs h [(13, (rX5_number_13 (rX5_number_13 (h 13) (h 14) ((nI n) - 1)) (h 14) ((nI n) - 1))), (20, (upd (h 20) (((vX5_number (h 13) (h 14) ((nI n) - 1)) : Int32).toNatClampNeg) (((h 20) ((vX5_number (h 13) (h 14) ((nI n) - 1)) : Int32).toNatClampNeg) ||| (1 <<< ((vX5_number (rX5_number_13 (h 13) (h 14) ((nI n) - 1)) (h 14) ((nI n) - 1)) &&& 31)))))]) 20 = (upd (h 20) (((vX5_number (h 13) (h 14) ((nI n) - 1)) : Int32).toNatClampNeg) (((h 20) ((vX5_number (h 13) (h 14) ((nI n) - 1)) : Int32).toNatClampNeg) ||| (1 <<< ((vX5_number (rX5_number_13 (h 13) (h 14) ((nI n) - 1)) (h 14) ((nI n) - 1)) &&& 31)))) from rfl]
        refine rr_iconst 1 rfl dX7_readFriend_71 ?_
        refine rr_iload_n 2 rfl rfl dX7_readFriend_72 ?_
        refine rr_ishl dX7_readFriend_73 ?_
        refine rr_ior dX7_readFriend_74 ?_
        refine rr_iastore dX7_readFriend_75 lo_20 sh_20 (fr_in (rT_num ho) hn (by assumption)) ?_
        rw [jj_rs_set (B := h) (L := [(13, (rX5_number_13 (rX5_number_13 (h 13) (h 14) ((nI n) - 1)) (h 14) ((nI n) - 1))), (20, (upd (h 20) (((vX5_number (h 13) (h 14) ((nI n) - 1)) : Int32).toNatClampNeg) (((h 20) ((vX5_number (h 13) (h 14) ((nI n) - 1)) : Int32).toNatClampNeg) ||| (1 <<< ((vX5_number (rX5_number_13 (h 13) (h 14) ((nI n) - 1)) (h 14) ((nI n) - 1)) &&& 31)))))]) (L2 := [(13, (rX5_number_13 (rX5_number_13 (h 13) (h 14) ((nI n) - 1)) (h 14) ((nI n) - 1))), (20, (upd (upd (h 20) (((vX5_number (h 13) (h 14) ((nI n) - 1)) : Int32).toNatClampNeg) (((h 20) ((vX5_number (h 13) (h 14) ((nI n) - 1)) : Int32).toNatClampNeg) ||| (1 <<< ((vX5_number (rX5_number_13 (h 13) (h 14) ((nI n) - 1)) (h 14) ((nI n) - 1)) &&& 31)))) (((vX5_number (rX5_number_13 (h 13) (h 14) ((nI n) - 1)) (h 14) ((nI n) - 1)) : Int32).toNatClampNeg) (((upd (h 20) (((vX5_number (h 13) (h 14) ((nI n) - 1)) : Int32).toNatClampNeg) (((h 20) ((vX5_number (h 13) (h 14) ((nI n) - 1)) : Int32).toNatClampNeg) ||| (1 <<< ((vX5_number (rX5_number_13 (h 13) (h 14) ((nI n) - 1)) (h 14) ((nI n) - 1)) &&& 31)))) ((vX5_number (rX5_number_13 (h 13) (h 14) ((nI n) - 1)) (h 14) ((nI n) - 1)) : Int32).toNatClampNeg) ||| (1 <<< ((vX5_number (h 13) (h 14) ((nI n) - 1)) &&& 31)))))]) (r := (upd (h 20) (((vX5_number (h 13) (h 14) ((nI n) - 1)) : Int32).toNatClampNeg) (((h 20) ((vX5_number (h 13) (h 14) ((nI n) - 1)) : Int32).toNatClampNeg) ||| (1 <<< ((vX5_number (rX5_number_13 (h 13) (h 14) ((nI n) - 1)) (h 14) ((nI n) - 1)) &&& 31))))) rfl rfl]
        refine rr_iconst 1 rfl dX7_readFriend_76 ?_
        refine rr_nreturn dX7_readFriend_77 rfl (by first | rfl | assumption) ?_
        simpa only [vX7_readFriend, rX7_readFriend_13, rX7_readFriend_20, if_neg c1, if_pos c2, if_neg c3] using kq
      · skip
        refine rr_iconst 0 rfl dX7_readFriend_50 ?_
        refine rr_nreturn dX7_readFriend_51 rfl (by first | rfl | assumption) ?_
        refine jj_Qh (jj_rs_add (B := h) (L := [(13, (rX5_number_13 (rX5_number_13 (h 13) (h 14) ((nI n) - 1)) (h 14) ((nI n) - 1)))]) (L2 := [(13, (rX5_number_13 (rX5_number_13 (h 13) (h 14) ((nI n) - 1)) (h 14) ((nI n) - 1))), (20, (h 20))]) (o := 20) (r := (h 20)) rfl rfl) ?_
        simpa only [vX7_readFriend, rX7_readFriend_13, rX7_readFriend_20, if_neg c1, if_pos c2, if_pos c3] using kq
    · skip
      refine rr_aload_n 1 rfl rfl dX7_readFriend_26 ?_
      refine rr_iconst 2 rfl dX7_readFriend_27 ?_
      refine rr_callV (As := [.int 2]) (rest := []) (kc2 := 0) (ks2 := 0) dX7_readFriend_28 okX5_failed lX7_62 lo_13 sh_13 rfl rfl (Nat.le_of_ble_eq_true rfl) (Nat.le_of_ble_eq_true rfl) rfl (by omega) (by simp [jj_rk]) (by simp [jj_rk]) ?_
      refine sp_X5_failed  ?_
      show jj_R _ _ kc ks (jj_S, 782, (jj_rs (jj_rs h [(13, (rX5_number_13 (h 13) (h 14) ((nI n) - 1)))]) [(13, (rX5_failed_13 (rX5_number_13 (h 13) (h 14) ((nI n) - 1)) 2))]), g) 31 [(0, .ref 15), (1, .ref 13), (2, .int (vX5_number (h 13) (h 14) ((nI n) - 1)))] [.int (vX5_failed (rX5_number_13 (h 13) (h 14) ((nI n) - 1)) 2)] Q
      rw [jj_rs_rs (B := h) (L := [(13, (rX5_number_13 (h 13) (h 14) ((nI n) - 1)))]) (M := [(13, (rX5_failed_13 (rX5_number_13 (h 13) (h 14) ((nI n) - 1)) 2))]) (L2 := [(13, (rX5_failed_13 (rX5_number_13 (h 13) (h 14) ((nI n) - 1)) 2))]) rfl]
      refine rr_pop rfl dX7_readFriend_31 ?_
      refine rr_iconst 0 rfl dX7_readFriend_32 ?_
      refine rr_nreturn dX7_readFriend_33 rfl (by first | rfl | assumption) ?_
      refine jj_Qh (jj_rs_add (B := h) (L := [(13, (rX5_failed_13 (rX5_number_13 (h 13) (h 14) ((nI n) - 1)) 2))]) (L2 := [(13, (rX5_failed_13 (rX5_number_13 (h 13) (h 14) ((nI n) - 1)) 2)), (20, (h 20))]) (o := 20) (r := (h 20)) rfl rfl) ?_
      simpa only [vX7_readFriend, rX7_readFriend_13, rX7_readFriend_20, if_neg c1, if_neg c2] using kq
  · skip
    refine rr_iconst 0 rfl dX7_readFriend_16 ?_
    refine rr_nreturn dX7_readFriend_17 rfl (by first | rfl | assumption) ?_
    refine jj_Qh (jj_rs_add (B := h) (L := [(13, (rX5_number_13 (h 13) (h 14) ((nI n) - 1)))]) (L2 := [(13, (rX5_number_13 (h 13) (h 14) ((nI n) - 1))), (20, (h 20))]) (o := 20) (r := (h 20)) rfl rfl) ?_
    simpa only [vX7_readFriend, rX7_readFriend_13, rX7_readFriend_20, if_pos c1] using kq
