/-! ===== the Reader stands at some token ===== -/
def rdT (r r14 : Nat → Int32) : Prop := ∃ (c : Nat → Nat) (e a : Nat), bytesok r14 c ∧ e ≤ 600 ∧ tk c e a r
theorem rT_ok {r r14 : Nat → Int32} (h : rdT r r14) : rdok r := by
  obtain ⟨c, e, a, hB, he, ht⟩ := h
  exact tk_ok he ht
theorem rT_at {r r14 : Nat → Int32} (h : rdT r r14) : rdat r := by
  obtain ⟨c, e, a, hB, he, ht⟩ := h
  exact tk_at he ht
theorem rT_adv {r r14 : Nat → Int32} (h : rdT r r14) : rdT (rX5_advance_13 r r14) r14 := by
  obtain ⟨c, e, a, hB, he, ht⟩ := h
  exact ⟨c, e, _, hB, he, (tk_adv hB he ht).1⟩
theorem tk_u {r : Nat → Int32} {c : Nat → Nat} {e a i : Nat} {v : Int32} (hi : i = 7 ∨ i = 8 ∨ i = 1) (h : tk c e a r) : tk c e a (upd r i v) := by
  obtain ⟨h1, h2, h3, h4, h5, h6, h7⟩ := h
  rcases hi with rfl | rfl | rfl <;> exact ⟨h1, (jj_une (by decide)).trans h2, (jj_une (by decide)).trans h3, (jj_une (by decide)).trans h4, (jj_une (by decide)).trans h5, fun q => (jj_une (by decide)).trans (h6 q), fun q => (jj_une (by decide)).trans (h7 q)⟩
theorem rT_fl {r r14 : Nat → Int32} {w : Int32} (h : rdT r r14) : rdT (rX5_failed_13 r w) r14 := by
  obtain ⟨c, e, a, hB, he, ht⟩ := h
  refine ⟨c, e, a, hB, he, ?_⟩
  unfold rX5_failed_13
  split
  · exact tk_u (Or.inr (Or.inl rfl)) (tk_u (Or.inl rfl) ht)
  · exact ht
theorem rT_num {r r14 : Nat → Int32} {w : Int32} (h : rdT r r14) : rdT (rX5_number_13 r r14 w) r14 := by
  unfold rX5_number_13
  split
  · split
    · exact rT_adv h
    · exact rT_fl h
  · exact rT_fl h
theorem rT_sign {r r14 : Nat → Int32} {w : Int32} (h : rdT r r14) : rdT (rX5_passSign_13 r r14 w) r14 := by
  unfold rX5_passSign_13
  split
  · exact rT_fl h
  · exact rT_adv h
def vX7_readString (r13 : Nat → Int32) (r14 : Nat → Int32) (r15 : Nat → Int32) : Int32 := (if (vX5_number r13 r14 99) = (-1) then 0 else 1)
def rX7_readString_13 (r13 : Nat → Int32) (r14 : Nat → Int32) (r15 : Nat → Int32) : Nat → Int32 := (rX5_number_13 r13 r14 99)
def rX7_readString_15 (r13 : Nat → Int32) (r14 : Nat → Int32) (r15 : Nat → Int32) : Nat → Int32 := (upd r15 (1) (vX5_number r13 r14 99))
set_option maxHeartbeats 1000000 in
theorem sp_X7_readString {d kc ks : Nat} {h : Nat → Nat → Int32} {g : Nat → Nat → Int64} {Q : jj_Rs → jj_St → Prop}  (ho : rdT (h 13) (h 14)) (kq : Q (.inl (some (.int (vX7_readString (h 13) (h 14) (h 15))))) (jj_S, 782, (jj_rs h [(13, (rX7_readString_13 (h 13) (h 14) (h 15))), (15, (rX7_readString_15 (h 13) (h 14) (h 15)))]), g)) : jj_R mX7_readString (d + 3) kc ks (jj_S, 782, h, g) 0 [(0, .ref 15), (1, .ref 13)] [] Q := by
  refine rr_aload_n 1 rfl rfl dX7_readString_0 ?_
  refine rr_bipush 99 rfl dX7_readString_1 ?_
  refine rr_callV (As := [.int 99]) (rest := []) (kc2 := 0) (ks2 := 0) dX7_readString_3 okX5_number lX7_83 lo_13 sh_13 rfl rfl (Nat.le_of_ble_eq_true rfl) (Nat.le_of_ble_eq_true rfl) rfl (by omega) (by simp [jj_rk]) (by simp [jj_rk]) ?_
  refine sp_X5_number (rT_ok (r14 := (h 14)) ho) ?_
  show jj_R _ _ kc ks (jj_S, 782, (jj_rs h [(13, (rX5_number_13 (h 13) (h 14) 99))]), g) 6 [(0, .ref 15), (1, .ref 13)] [.int (vX5_number (h 13) (h 14) 99)] Q
  refine rr_istore_n [(0, .ref 15), (1, .ref 13), (2, .int (vX5_number (h 13) (h 14) 99))] dX7_readString_6 rfl (by decide) rfl ?_
  refine rr_aload_n 0 rfl rfl dX7_readString_7 ?_
  refine rr_iload_n 2 rfl rfl dX7_readString_8 ?_
  refine rr_putI dX7_readString_9 fX7_9 ni7_1 lo_15 sh_15 rfl ?_
  rw [jj_rs_set (B := h) (L := [(13, (rX5_number_13 (h 13) (h 14) 99))]) (L2 := [(13, (rX5_number_13 (h 13) (h 14) 99)), (15, (upd (h 15) (1) (vX5_number (h 13) (h 14) 99)))]) (r := (h 15)) rfl rfl]
  refine rr_iload_n 2 rfl rfl dX7_readString_12 ?_
  refine rr_iconst (-1) rfl dX7_readString_13 ?_
  refine rr_icmp_eq dX7_readString_14 (fun c1 => ?_) (fun c1 => ?_)
  · skip
    refine rr_iconst 0 rfl dX7_readString_21 ?_
    refine rr_nreturn dX7_readString_22 rfl (by first | rfl | assumption) ?_
    simpa only [vX7_readString, rX7_readString_13, rX7_readString_15, if_pos c1] using kq
  · skip
    refine rr_iconst 1 rfl dX7_readString_17 ?_
    refine rr_goto dX7_readString_18 ?_
    refine rr_nreturn dX7_readString_22 rfl (by first | rfl | assumption) ?_
    simpa only [vX7_readString, rX7_readString_13, rX7_readString_15, if_neg c1] using kq
def vX7_readPerson (r13 : Nat → Int32) (r14 : Nat → Int32) (r15 : Nat → Int32) (r16 : Nat → Int32) (r17 : Nat → Int32) (r18 : Nat → Int32) (r19 : Nat → Int32) (r20 : Nat → Int32) (n : Nat) : Int32 := (if (vX5_number r13 r14 9) = (-1) then 0 else (if (vX5_number (rX5_number_13 r13 r14 9) r14 9) = (-1) then 0 else (if (vX5_number (rX5_number_13 (rX5_number_13 r13 r14 9) r14 9) r14 20) = (-1) then 0 else (if (vX5_number (rX5_number_13 (rX5_number_13 (rX5_number_13 r13 r14 9) r14 9) r14 20) r14 20) = (-1) then 0 else 1))))
def rX7_readPerson_13 (r13 : Nat → Int32) (r14 : Nat → Int32) (r15 : Nat → Int32) (r16 : Nat → Int32) (r17 : Nat → Int32) (r18 : Nat → Int32) (r19 : Nat → Int32) (r20 : Nat → Int32) (n : Nat) : Nat → Int32 := (if (vX5_number r13 r14 9) = (-1) then (rX5_number_13 r13 r14 9) else (if (vX5_number (rX5_number_13 r13 r14 9) r14 9) = (-1) then (rX5_number_13 (rX5_number_13 r13 r14 9) r14 9) else (if (vX5_number (rX5_number_13 (rX5_number_13 r13 r14 9) r14 9) r14 20) = (-1) then (rX5_number_13 (rX5_number_13 (rX5_number_13 r13 r14 9) r14 9) r14 20) else (rX5_number_13 (rX5_number_13 (rX5_number_13 (rX5_number_13 r13 r14 9) r14 9) r14 20) r14 20))))
def rX7_readPerson_15 (r13 : Nat → Int32) (r14 : Nat → Int32) (r15 : Nat → Int32) (r16 : Nat → Int32) (r17 : Nat → Int32) (r18 : Nat → Int32) (r19 : Nat → Int32) (r20 : Nat → Int32) (n : Nat) : Nat → Int32 := (upd r15 (0) ((nI n) + 1))
def rX7_readPerson_16 (r13 : Nat → Int32) (r14 : Nat → Int32) (r15 : Nat → Int32) (r16 : Nat → Int32) (r17 : Nat → Int32) (r18 : Nat → Int32) (r19 : Nat → Int32) (r20 : Nat → Int32) (n : Nat) : Nat → Int32 := (upd r16 (((nI n) : Int32).toNatClampNeg) (vX5_number r13 r14 9))
def rX7_readPerson_17 (r13 : Nat → Int32) (r14 : Nat → Int32) (r15 : Nat → Int32) (r16 : Nat → Int32) (r17 : Nat → Int32) (r18 : Nat → Int32) (r19 : Nat → Int32) (r20 : Nat → Int32) (n : Nat) : Nat → Int32 := (if (vX5_number r13 r14 9) = (-1) then (upd r17 (((nI n) : Int32).toNatClampNeg) (-1)) else (upd r17 (((nI n) : Int32).toNatClampNeg) (vX5_number (rX5_number_13 r13 r14 9) r14 9)))
def rX7_readPerson_18 (r13 : Nat → Int32) (r14 : Nat → Int32) (r15 : Nat → Int32) (r16 : Nat → Int32) (r17 : Nat → Int32) (r18 : Nat → Int32) (r19 : Nat → Int32) (r20 : Nat → Int32) (n : Nat) : Nat → Int32 := (if (vX5_number r13 r14 9) = (-1) then (upd r18 (((nI n) : Int32).toNatClampNeg) (-1)) else (if (vX5_number (rX5_number_13 r13 r14 9) r14 9) = (-1) then (upd r18 (((nI n) : Int32).toNatClampNeg) (-1)) else (upd r18 (((nI n) : Int32).toNatClampNeg) (vX5_number (rX5_number_13 (rX5_number_13 r13 r14 9) r14 9) r14 20))))
def rX7_readPerson_19 (r13 : Nat → Int32) (r14 : Nat → Int32) (r15 : Nat → Int32) (r16 : Nat → Int32) (r17 : Nat → Int32) (r18 : Nat → Int32) (r19 : Nat → Int32) (r20 : Nat → Int32) (n : Nat) : Nat → Int32 := (if (vX5_number r13 r14 9) = (-1) then (upd r19 (((nI n) : Int32).toNatClampNeg) (-1)) else (if (vX5_number (rX5_number_13 r13 r14 9) r14 9) = (-1) then (upd r19 (((nI n) : Int32).toNatClampNeg) (-1)) else (if (vX5_number (rX5_number_13 (rX5_number_13 r13 r14 9) r14 9) r14 20) = (-1) then (upd r19 (((nI n) : Int32).toNatClampNeg) (-1)) else (upd r19 (((nI n) : Int32).toNatClampNeg) (vX5_number (rX5_number_13 (rX5_number_13 (rX5_number_13 r13 r14 9) r14 9) r14 20) r14 20)))))
def rX7_readPerson_20 (r13 : Nat → Int32) (r14 : Nat → Int32) (r15 : Nat → Int32) (r16 : Nat → Int32) (r17 : Nat → Int32) (r18 : Nat → Int32) (r19 : Nat → Int32) (r20 : Nat → Int32) (n : Nat) : Nat → Int32 := (upd r20 (((nI n) : Int32).toNatClampNeg) 0)
set_option maxHeartbeats 1000000 in
theorem sp_X7_readPerson {d kc ks : Nat} {h : Nat → Nat → Int32} {g : Nat → Nat → Int64} {Q : jj_Rs → jj_St → Prop} {n : Nat} (ho : rdT (h 13) (h 14)) (hP : h 15 0 = nI n) (hn : n < 8) (kq : Q (.inl (some (.int (vX7_readPerson (h 13) (h 14) (h 15) (h 16) (h 17) (h 18) (h 19) (h 20) n)))) (jj_S, 782, (jj_rs h [(13, (rX7_readPerson_13 (h 13) (h 14) (h 15) (h 16) (h 17) (h 18) (h 19) (h 20) n)), (15, (rX7_readPerson_15 (h 13) (h 14) (h 15) (h 16) (h 17) (h 18) (h 19) (h 20) n)), (16, (rX7_readPerson_16 (h 13) (h 14) (h 15) (h 16) (h 17) (h 18) (h 19) (h 20) n)), (17, (rX7_readPerson_17 (h 13) (h 14) (h 15) (h 16) (h 17) (h 18) (h 19) (h 20) n)), (18, (rX7_readPerson_18 (h 13) (h 14) (h 15) (h 16) (h 17) (h 18) (h 19) (h 20) n)), (19, (rX7_readPerson_19 (h 13) (h 14) (h 15) (h 16) (h 17) (h 18) (h 19) (h 20) n)), (20, (rX7_readPerson_20 (h 13) (h 14) (h 15) (h 16) (h 17) (h 18) (h 19) (h 20) n))]), g)) : jj_R mX7_readPerson (d + 3) kc ks (jj_S, 782, h, g) 0 [(0, .ref 15), (1, .ref 13)] [] Q := by
  refine rr_aload_n 0 rfl rfl dX7_readPerson_0 ?_
  refine rr_getI dX7_readPerson_1 fX7_31 lo_15 sh_15 rfl ?_
  rw [show (h 15) 0 = (nI n) from hP]
  refine rr_istore_n [(0, .ref 15), (1, .ref 13), (2, .int (nI n))] dX7_readPerson_4 rfl (by decide) rfl ?_
  refine rr_iload_n 2 rfl rfl dX7_readPerson_5 ?_
  refine rr_bipush 8 rfl dX7_readPerson_6 ?_
  refine rr_icmp_lt dX7_readPerson_8 (fun _ => ?_) (fun c => absurd (nI_lt (a := n) (b := 8) hn (by decide)) c)
  refine rr_aload_n 0 rfl rfl dX7_readPerson_13 ?_
  refine rr_getR dX7_readPerson_14 fX7_15 lo_15 sh_15 rfl ?_
  refine rr_iload_n 2 rfl rfl dX7_readPerson_17 ?_
  refine rr_aload_n 1 rfl rfl dX7_readPerson_18 ?_
  refine rr_bipush 9 rfl dX7_readPerson_19 ?_
  refine rr_callV (As := [.int 9]) (rest := [.int (nI n), .ref 16]) (kc2 := 0) (ks2 := 0) dX7_readPerson_21 okX5_number lX7_83 lo_13 sh_13 rfl rfl (Nat.le_of_ble_eq_true rfl) (Nat.le_of_ble_eq_true rfl) rfl (by omega) (by simp [jj_rk]) (by simp [jj_rk]) ?_
  refine sp_X5_number (rT_ok (r14 := (h 14)) ho) ?_
  show jj_R _ _ kc ks (jj_S, 782, (jj_rs h [(13, (rX5_number_13 (h 13) (h 14) 9))]), g) 24 [(0, .ref 15), (1, .ref 13), (2, .int (nI n))] [.int (vX5_number (h 13) (h 14) 9), .int (nI n), .ref 16] Q
  refine rr_iastore dX7_readPerson_24 lo_16 sh_16 (vp_in_nI (by omega) (by decide)) ?_
  rw [jj_rs_set (B := h) (L := [(13, (rX5_number_13 (h 13) (h 14) 9))]) (L2 := [(13, (rX5_number_13 (h 13) (h 14) 9)), (16, (upd (h 16) (((nI n) : Int32).toNatClampNeg) (vX5_number (h 13) (h 14) 9)))]) (r := (h 16)) rfl rfl]
  refine rr_aload_n 0 rfl rfl dX7_readPerson_25 ?_
  refine rr_getR dX7_readPerson_26 fX7_19 lo_15 sh_15 rfl ?_
  refine rr_iload_n 2 rfl rfl dX7_readPerson_29 ?_
  refine rr_aload_n 0 rfl rfl dX7_readPerson_30 ?_
  refine rr_getR dX7_readPerson_31 fX7_15 lo_15 sh_15 rfl ?_
  refine rr_iload_n 2 rfl rfl dX7_readPerson_34 ?_
  refine rr_iaload dX7_readPerson_35 lo_16 sh_16 (vp_in_nI (by omega) (by decide)) ?_
  rw [show (jj_rs h [(13, (rX5_number_13 (h 13) (h 14) 9)), (16, (upd (h 16) (((nI n) : Int32).toNatClampNeg) (vX5_number (h 13) (h 14) 9)))]) 16 = (upd (h 16) (((nI n) : Int32).toNatClampNeg) (vX5_number (h 13) (h 14) 9)) from rfl]
  rw [show (upd (h 16) (((nI n) : Int32).toNatClampNeg) (vX5_number (h 13) (h 14) 9)) (((nI n) : Int32).toNatClampNeg) = (vX5_number (h 13) (h 14) 9) from jj_ueq rfl]
  refine rr_iconst (-1) rfl dX7_readPerson_36 ?_
  refine rr_icmp_ne dX7_readPerson_37 (fun c1 => ?_) (fun c1 => ?_)
  · skip
    refine rr_aload_n 1 rfl rfl dX7_readPerson_44 ?_
    refine rr_bipush 9 rfl dX7_readPerson_45 ?_
    refine rr_callV (As := [.int 9]) (rest := [.int (nI n), .ref 17]) (kc2 := 0) (ks2 := 0) dX7_readPerson_47 okX5_number lX7_83 lo_13 sh_13 rfl rfl (Nat.le_of_ble_eq_true rfl) (Nat.le_of_ble_eq_true rfl) rfl (by omega) (by simp [jj_rk]) (by simp [jj_rk]) ?_
    refine sp_X5_number (rT_ok (r14 := (h 14)) (rT_num (r14 := (h 14)) ho)) ?_
    show jj_R _ _ kc ks (jj_S, 782, (jj_rs (jj_rs h [(13, (rX5_number_13 (h 13) (h 14) 9)), (16, (upd (h 16) (((nI n) : Int32).toNatClampNeg) (vX5_number (h 13) (h 14) 9)))]) [(13, (rX5_number_13 (rX5_number_13 (h 13) (h 14) 9) (h 14) 9))]), g) 50 [(0, .ref 15), (1, .ref 13), (2, .int (nI n))] [.int (vX5_number (rX5_number_13 (h 13) (h 14) 9) (h 14) 9), .int (nI n), .ref 17] Q
    rw [jj_rs_rs (B := h) (L := [(13, (rX5_number_13 (h 13) (h 14) 9)), (16, (upd (h 16) (((nI n) : Int32).toNatClampNeg) (vX5_number (h 13) (h 14) 9)))]) (M := [(13, (rX5_number_13 (rX5_number_13 (h 13) (h 14) 9) (h 14) 9))]) (L2 := [(13, (rX5_number_13 (rX5_number_13 (h 13) (h 14) 9) (h 14) 9)), (16, (upd (h 16) (((nI n) : Int32).toNatClampNeg) (vX5_number (h 13) (h 14) 9)))]) rfl]
    refine rr_iastore dX7_readPerson_50 lo_17 sh_17 (vp_in_nI (by omega) (by decide)) ?_
    rw [jj_rs_set (B := h) (L := [(13, (rX5_number_13 (rX5_number_13 (h 13) (h 14) 9) (h 14) 9)), (16, (upd (h 16) (((nI n) : Int32).toNatClampNeg) (vX5_number (h 13) (h 14) 9)))]) (L2 := [(13, (rX5_number_13 (rX5_number_13 (h 13) (h 14) 9) (h 14) 9)), (16, (upd (h 16) (((nI n) : Int32).toNatClampNeg) (vX5_number (h 13) (h 14) 9))), (17, (upd (h 17) (((nI n) : Int32).toNatClampNeg) (vX5_number (rX5_number_13 (h 13) (h 14) 9) (h 14) 9)))]) (r := (h 17)) rfl rfl]
    refine rr_aload_n 0 rfl rfl dX7_readPerson_51 ?_
    refine rr_getR dX7_readPerson_52 fX7_22 lo_15 sh_15 rfl ?_
    refine rr_iload_n 2 rfl rfl dX7_readPerson_55 ?_
    refine rr_aload_n 0 rfl rfl dX7_readPerson_56 ?_
    refine rr_getR dX7_readPerson_57 fX7_19 lo_15 sh_15 rfl ?_
    refine rr_iload_n 2 rfl rfl dX7_readPerson_60 ?_
    refine rr_iaload dX7_readPerson_61 lo_17 sh_17 (vp_in_nI (by omega) (by decide)) ?_
    rw [show (jj_rs h [(13, (rX5_number_13 (rX5_number_13 (h 13) (h 14) 9) (h 14) 9)), (16, (upd (h 16) (((nI n) : Int32).toNatClampNeg) (vX5_number (h 13) (h 14) 9))), (17, (upd (h 17) (((nI n) : Int32).toNatClampNeg) (vX5_number (rX5_number_13 (h 13) (h 14) 9) (h 14) 9)))]) 17 = (upd (h 17) (((nI n) : Int32).toNatClampNeg) (vX5_number (rX5_number_13 (h 13) (h 14) 9) (h 14) 9)) from rfl]
    rw [show (upd (h 17) (((nI n) : Int32).toNatClampNeg) (vX5_number (rX5_number_13 (h 13) (h 14) 9) (h 14) 9)) (((nI n) : Int32).toNatClampNeg) = (vX5_number (rX5_number_13 (h 13) (h 14) 9) (h 14) 9) from jj_ueq rfl]
    refine rr_iconst (-1) rfl dX7_readPerson_62 ?_
    refine rr_icmp_ne dX7_readPerson_63 (fun c2 => ?_) (fun c2 => ?_)
    · skip
      refine rr_aload_n 1 rfl rfl dX7_readPerson_70 ?_
      refine rr_bipush 20 rfl dX7_readPerson_71 ?_
      refine rr_callV (As := [.int 20]) (rest := [.int (nI n), .ref 18]) (kc2 := 0) (ks2 := 0) dX7_readPerson_73 okX5_number lX7_83 lo_13 sh_13 rfl rfl (Nat.le_of_ble_eq_true rfl) (Nat.le_of_ble_eq_true rfl) rfl (by omega) (by simp [jj_rk]) (by simp [jj_rk]) ?_
      refine sp_X5_number (rT_ok (r14 := (h 14)) (rT_num (r14 := (h 14)) (rT_num (r14 := (h 14)) ho))) ?_
      show jj_R _ _ kc ks (jj_S, 782, (jj_rs (jj_rs h [(13, (rX5_number_13 (rX5_number_13 (h 13) (h 14) 9) (h 14) 9)), (16, (upd (h 16) (((nI n) : Int32).toNatClampNeg) (vX5_number (h 13) (h 14) 9))), (17, (upd (h 17) (((nI n) : Int32).toNatClampNeg) (vX5_number (rX5_number_13 (h 13) (h 14) 9) (h 14) 9)))]) [(13, (rX5_number_13 (rX5_number_13 (rX5_number_13 (h 13) (h 14) 9) (h 14) 9) (h 14) 20))]), g) 76 [(0, .ref 15), (1, .ref 13), (2, .int (nI n))] [.int (vX5_number (rX5_number_13 (rX5_number_13 (h 13) (h 14) 9) (h 14) 9) (h 14) 20), .int (nI n), .ref 18] Q
      rw [jj_rs_rs (B := h) (L := [(13, (rX5_number_13 (rX5_number_13 (h 13) (h 14) 9) (h 14) 9)), (16, (upd (h 16) (((nI n) : Int32).toNatClampNeg) (vX5_number (h 13) (h 14) 9))), (17, (upd (h 17) (((nI n) : Int32).toNatClampNeg) (vX5_number (rX5_number_13 (h 13) (h 14) 9) (h 14) 9)))]) (M := [(13, (rX5_number_13 (rX5_number_13 (rX5_number_13 (h 13) (h 14) 9) (h 14) 9) (h 14) 20))]) (L2 := [(13, (rX5_number_13 (rX5_number_13 (rX5_number_13 (h 13) (h 14) 9) (h 14) 9) (h 14) 20)), (16, (upd (h 16) (((nI n) : Int32).toNatClampNeg) (vX5_number (h 13) (h 14) 9))), (17, (upd (h 17) (((nI n) : Int32).toNatClampNeg) (vX5_number (rX5_number_13 (h 13) (h 14) 9) (h 14) 9)))]) rfl]
      refine rr_iastore dX7_readPerson_76 lo_18 sh_18 (vp_in_nI (by omega) (by decide)) ?_
      rw [jj_rs_set (B := h) (L := [(13, (rX5_number_13 (rX5_number_13 (rX5_number_13 (h 13) (h 14) 9) (h 14) 9) (h 14) 20)), (16, (upd (h 16) (((nI n) : Int32).toNatClampNeg) (vX5_number (h 13) (h 14) 9))), (17, (upd (h 17) (((nI n) : Int32).toNatClampNeg) (vX5_number (rX5_number_13 (h 13) (h 14) 9) (h 14) 9)))]) (L2 := [(13, (rX5_number_13 (rX5_number_13 (rX5_number_13 (h 13) (h 14) 9) (h 14) 9) (h 14) 20)), (16, (upd (h 16) (((nI n) : Int32).toNatClampNeg) (vX5_number (h 13) (h 14) 9))), (17, (upd (h 17) (((nI n) : Int32).toNatClampNeg) (vX5_number (rX5_number_13 (h 13) (h 14) 9) (h 14) 9))), (18, (upd (h 18) (((nI n) : Int32).toNatClampNeg) (vX5_number (rX5_number_13 (rX5_number_13 (h 13) (h 14) 9) (h 14) 9) (h 14) 20)))]) (r := (h 18)) rfl rfl]
      refine rr_aload_n 0 rfl rfl dX7_readPerson_77 ?_
      refine rr_getR dX7_readPerson_78 fX7_25 lo_15 sh_15 rfl ?_
      refine rr_iload_n 2 rfl rfl dX7_readPerson_81 ?_
      refine rr_aload_n 0 rfl rfl dX7_readPerson_82 ?_
      refine rr_getR dX7_readPerson_83 fX7_22 lo_15 sh_15 rfl ?_
      refine rr_iload_n 2 rfl rfl dX7_readPerson_86 ?_
      refine rr_iaload dX7_readPerson_87 lo_18 sh_18 (vp_in_nI (by omega) (by decide)) ?_
      rw [show (jj_rs h [(13, (rX5_number_13 (rX5_number_13 (rX5_number_13 (h 13) (h 14) 9) (h 14) 9) (h 14) 20)), (16, (upd (h 16) (((nI n) : Int32).toNatClampNeg) (vX5_number (h 13) (h 14) 9))), (17, (upd (h 17) (((nI n) : Int32).toNatClampNeg) (vX5_number (rX5_number_13 (h 13) (h 14) 9) (h 14) 9))), (18, (upd (h 18) (((nI n) : Int32).toNatClampNeg) (vX5_number (rX5_number_13 (rX5_number_13 (h 13) (h 14) 9) (h 14) 9) (h 14) 20)))]) 18 = (upd (h 18) (((nI n) : Int32).toNatClampNeg) (vX5_number (rX5_number_13 (rX5_number_13 (h 13) (h 14) 9) (h 14) 9) (h 14) 20)) from rfl]
      rw [show (upd (h 18) (((nI n) : Int32).toNatClampNeg) (vX5_number (rX5_number_13 (rX5_number_13 (h 13) (h 14) 9) (h 14) 9) (h 14) 20)) (((nI n) : Int32).toNatClampNeg) = (vX5_number (rX5_number_13 (rX5_number_13 (h 13) (h 14) 9) (h 14) 9) (h 14) 20) from jj_ueq rfl]
      refine rr_iconst (-1) rfl dX7_readPerson_88 ?_
      refine rr_icmp_ne dX7_readPerson_89 (fun c3 => ?_) (fun c3 => ?_)
      · skip
        refine rr_aload_n 1 rfl rfl dX7_readPerson_96 ?_
        refine rr_bipush 20 rfl dX7_readPerson_97 ?_
        refine rr_callV (As := [.int 20]) (rest := [.int (nI n), .ref 19]) (kc2 := 0) (ks2 := 0) dX7_readPerson_99 okX5_number lX7_83 lo_13 sh_13 rfl rfl (Nat.le_of_ble_eq_true rfl) (Nat.le_of_ble_eq_true rfl) rfl (by omega) (by simp [jj_rk]) (by simp [jj_rk]) ?_
        refine sp_X5_number (rT_ok (r14 := (h 14)) (rT_num (r14 := (h 14)) (rT_num (r14 := (h 14)) (rT_num (r14 := (h 14)) ho)))) ?_
        show jj_R _ _ kc ks (jj_S, 782, (jj_rs (jj_rs h [(13, (rX5_number_13 (rX5_number_13 (rX5_number_13 (h 13) (h 14) 9) (h 14) 9) (h 14) 20)), (16, (upd (h 16) (((nI n) : Int32).toNatClampNeg) (vX5_number (h 13) (h 14) 9))), (17, (upd (h 17) (((nI n) : Int32).toNatClampNeg) (vX5_number (rX5_number_13 (h 13) (h 14) 9) (h 14) 9))), (18, (upd (h 18) (((nI n) : Int32).toNatClampNeg) (vX5_number (rX5_number_13 (rX5_number_13 (h 13) (h 14) 9) (h 14) 9) (h 14) 20)))]) [(13, (rX5_number_13 (rX5_number_13 (rX5_number_13 (rX5_number_13 (h 13) (h 14) 9) (h 14) 9) (h 14) 20) (h 14) 20))]), g) 102 [(0, .ref 15), (1, .ref 13), (2, .int (nI n))] [.int (vX5_number (rX5_number_13 (rX5_number_13 (rX5_number_13 (h 13) (h 14) 9) (h 14) 9) (h 14) 20) (h 14) 20), .int (nI n), .ref 19] Q
        rw [jj_rs_rs (B := h) (L := [(13, (rX5_number_13 (rX5_number_13 (rX5_number_13 (h 13) (h 14) 9) (h 14) 9) (h 14) 20)), (16, (upd (h 16) (((nI n) : Int32).toNatClampNeg) (vX5_number (h 13) (h 14) 9))), (17, (upd (h 17) (((nI n) : Int32).toNatClampNeg) (vX5_number (rX5_number_13 (h 13) (h 14) 9) (h 14) 9))), (18, (upd (h 18) (((nI n) : Int32).toNatClampNeg) (vX5_number (rX5_number_13 (rX5_number_13 (h 13) (h 14) 9) (h 14) 9) (h 14) 20)))]) (M := [(13, (rX5_number_13 (rX5_number_13 (rX5_number_13 (rX5_number_13 (h 13) (h 14) 9) (h 14) 9) (h 14) 20) (h 14) 20))]) (L2 := [(13, (rX5_number_13 (rX5_number_13 (rX5_number_13 (rX5_number_13 (h 13) (h 14) 9) (h 14) 9) (h 14) 20) (h 14) 20)), (16, (upd (h 16) (((nI n) : Int32).toNatClampNeg) (vX5_number (h 13) (h 14) 9))), (17, (upd (h 17) (((nI n) : Int32).toNatClampNeg) (vX5_number (rX5_number_13 (h 13) (h 14) 9) (h 14) 9))), (18, (upd (h 18) (((nI n) : Int32).toNatClampNeg) (vX5_number (rX5_number_13 (rX5_number_13 (h 13) (h 14) 9) (h 14) 9) (h 14) 20)))]) rfl]
        refine rr_iastore dX7_readPerson_102 lo_19 sh_19 (vp_in_nI (by omega) (by decide)) ?_
        rw [jj_rs_set (B := h) (L := [(13, (rX5_number_13 (rX5_number_13 (rX5_number_13 (rX5_number_13 (h 13) (h 14) 9) (h 14) 9) (h 14) 20) (h 14) 20)), (16, (upd (h 16) (((nI n) : Int32).toNatClampNeg) (vX5_number (h 13) (h 14) 9))), (17, (upd (h 17) (((nI n) : Int32).toNatClampNeg) (vX5_number (rX5_number_13 (h 13) (h 14) 9) (h 14) 9))), (18, (upd (h 18) (((nI n) : Int32).toNatClampNeg) (vX5_number (rX5_number_13 (rX5_number_13 (h 13) (h 14) 9) (h 14) 9) (h 14) 20)))]) (L2 := [(13, (rX5_number_13 (rX5_number_13 (rX5_number_13 (rX5_number_13 (h 13) (h 14) 9) (h 14) 9) (h 14) 20) (h 14) 20)), (16, (upd (h 16) (((nI n) : Int32).toNatClampNeg) (vX5_number (h 13) (h 14) 9))), (17, (upd (h 17) (((nI n) : Int32).toNatClampNeg) (vX5_number (rX5_number_13 (h 13) (h 14) 9) (h 14) 9))), (18, (upd (h 18) (((nI n) : Int32).toNatClampNeg) (vX5_number (rX5_number_13 (rX5_number_13 (h 13) (h 14) 9) (h 14) 9) (h 14) 20))), (19, (upd (h 19) (((nI n) : Int32).toNatClampNeg) (vX5_number (rX5_number_13 (rX5_number_13 (rX5_number_13 (h 13) (h 14) 9) (h 14) 9) (h 14) 20) (h 14) 20)))]) (r := (h 19)) rfl rfl]
        refine rr_aload_n 0 rfl rfl dX7_readPerson_103 ?_
        refine rr_getR dX7_readPerson_104 fX7_28 lo_15 sh_15 rfl ?_
        refine rr_iload_n 2 rfl rfl dX7_readPerson_107 ?_
        refine rr_iconst 0 rfl dX7_readPerson_108 ?_
        refine rr_iastore dX7_readPerson_109 lo_20 sh_20 (vp_in_nI (by omega) (by decide)) ?_
        rw [jj_rs_set (B := h) (L := [(13, (rX5_number_13 (rX5_number_13 (rX5_number_13 (rX5_number_13 (h 13) (h 14) 9) (h 14) 9) (h 14) 20) (h 14) 20)), (16, (upd (h 16) (((nI n) : Int32).toNatClampNeg) (vX5_number (h 13) (h 14) 9))), (17, (upd (h 17) (((nI n) : Int32).toNatClampNeg) (vX5_number (rX5_number_13 (h 13) (h 14) 9) (h 14) 9))), (18, (upd (h 18) (((nI n) : Int32).toNatClampNeg) (vX5_number (rX5_number_13 (rX5_number_13 (h 13) (h 14) 9) (h 14) 9) (h 14) 20))), (19, (upd (h 19) (((nI n) : Int32).toNatClampNeg) (vX5_number (rX5_number_13 (rX5_number_13 (rX5_number_13 (h 13) (h 14) 9) (h 14) 9) (h 14) 20) (h 14) 20)))]) (L2 := [(13, (rX5_number_13 (rX5_number_13 (rX5_number_13 (rX5_number_13 (h 13) (h 14) 9) (h 14) 9) (h 14) 20) (h 14) 20)), (16, (upd (h 16) (((nI n) : Int32).toNatClampNeg) (vX5_number (h 13) (h 14) 9))), (17, (upd (h 17) (((nI n) : Int32).toNatClampNeg) (vX5_number (rX5_number_13 (h 13) (h 14) 9) (h 14) 9))), (18, (upd (h 18) (((nI n) : Int32).toNatClampNeg) (vX5_number (rX5_number_13 (rX5_number_13 (h 13) (h 14) 9) (h 14) 9) (h 14) 20))), (19, (upd (h 19) (((nI n) : Int32).toNatClampNeg) (vX5_number (rX5_number_13 (rX5_number_13 (rX5_number_13 (h 13) (h 14) 9) (h 14) 9) (h 14) 20) (h 14) 20))), (20, (upd (h 20) (((nI n) : Int32).toNatClampNeg) 0))]) (r := (h 20)) rfl rfl]
        refine rr_aload_n 0 rfl rfl dX7_readPerson_110 ?_
        refine rr_dup rfl dX7_readPerson_111 ?_
        refine rr_getI dX7_readPerson_112 fX7_31 lo_15 sh_15 rfl ?_
        rw [show (jj_rs h [(13, (rX5_number_13 (rX5_number_13 (rX5_number_13 (rX5_number_13 (h 13) (h 14) 9) (h 14) 9) (h 14) 20) (h 14) 20)), (16, (upd (h 16) (((nI n) : Int32).toNatClampNeg) (vX5_number (h 13) (h 14) 9))), (17, (upd (h 17) (((nI n) : Int32).toNatClampNeg) (vX5_number (rX5_number_13 (h 13) (h 14) 9) (h 14) 9))), (18, (upd (h 18) (((nI n) : Int32).toNatClampNeg) (vX5_number (rX5_number_13 (rX5_number_13 (h 13) (h 14) 9) (h 14) 9) (h 14) 20))), (19, (upd (h 19) (((nI n) : Int32).toNatClampNeg) (vX5_number (rX5_number_13 (rX5_number_13 (rX5_number_13 (h 13) (h 14) 9) (h 14) 9) (h 14) 20) (h 14) 20))), (20, (upd (h 20) (((nI n) : Int32).toNatClampNeg) 0))]) 15 = h 15 from rfl]
        rw [show (h 15) 0 = (nI n) from hP]
        refine rr_iconst 1 rfl dX7_readPerson_115 ?_
        refine rr_iadd dX7_readPerson_116 ?_
        refine rr_putI dX7_readPerson_117 fX7_31 ni7_0 lo_15 sh_15 rfl ?_
        rw [jj_rs_set (B := h) (L := [(13, (rX5_number_13 (rX5_number_13 (rX5_number_13 (rX5_number_13 (h 13) (h 14) 9) (h 14) 9) (h 14) 20) (h 14) 20)), (16, (upd (h 16) (((nI n) : Int32).toNatClampNeg) (vX5_number (h 13) (h 14) 9))), (17, (upd (h 17) (((nI n) : Int32).toNatClampNeg) (vX5_number (rX5_number_13 (h 13) (h 14) 9) (h 14) 9))), (18, (upd (h 18) (((nI n) : Int32).toNatClampNeg) (vX5_number (rX5_number_13 (rX5_number_13 (h 13) (h 14) 9) (h 14) 9) (h 14) 20))), (19, (upd (h 19) (((nI n) : Int32).toNatClampNeg) (vX5_number (rX5_number_13 (rX5_number_13 (rX5_number_13 (h 13) (h 14) 9) (h 14) 9) (h 14) 20) (h 14) 20))), (20, (upd (h 20) (((nI n) : Int32).toNatClampNeg) 0))]) (L2 := [(13, (rX5_number_13 (rX5_number_13 (rX5_number_13 (rX5_number_13 (h 13) (h 14) 9) (h 14) 9) (h 14) 20) (h 14) 20)), (15, (upd (h 15) (0) ((nI n) + 1))), (16, (upd (h 16) (((nI n) : Int32).toNatClampNeg) (vX5_number (h 13) (h 14) 9))), (17, (upd (h 17) (((nI n) : Int32).toNatClampNeg) (vX5_number (rX5_number_13 (h 13) (h 14) 9) (h 14) 9))), (18, (upd (h 18) (((nI n) : Int32).toNatClampNeg) (vX5_number (rX5_number_13 (rX5_number_13 (h 13) (h 14) 9) (h 14) 9) (h 14) 20))), (19, (upd (h 19) (((nI n) : Int32).toNatClampNeg) (vX5_number (rX5_number_13 (rX5_number_13 (rX5_number_13 (h 13) (h 14) 9) (h 14) 9) (h 14) 20) (h 14) 20))), (20, (upd (h 20) (((nI n) : Int32).toNatClampNeg) 0))]) (r := (h 15)) rfl rfl]
        refine rr_aload_n 0 rfl rfl dX7_readPerson_120 ?_
        refine rr_getR dX7_readPerson_121 fX7_25 lo_15 sh_15 rfl ?_
        refine rr_iload_n 2 rfl rfl dX7_readPerson_124 ?_
        refine rr_iaload dX7_readPerson_125 lo_19 sh_19 (vp_in_nI (by omega) (by decide)) ?_
        rw [show (jj_rs h [(13, (rX5_number_13 (rX5_number_13 (rX5_number_13 (rX5_number_13 (h 13) (h 14) 9) (h 14) 9) (h 14) 20) (h 14) 20)), (15, (upd (h 15) (0) ((nI n) + 1))), (16, (upd (h 16) (((nI n) : Int32).toNatClampNeg) (vX5_number (h 13) (h 14) 9))), (17, (upd (h 17) (((nI n) : Int32).toNatClampNeg) (vX5_number (rX5_number_13 (h 13) (h 14) 9) (h 14) 9))), (18, (upd (h 18) (((nI n) : Int32).toNatClampNeg) (vX5_number (rX5_number_13 (rX5_number_13 (h 13) (h 14) 9) (h 14) 9) (h 14) 20))), (19, (upd (h 19) (((nI n) : Int32).toNatClampNeg) (vX5_number (rX5_number_13 (rX5_number_13 (rX5_number_13 (h 13) (h 14) 9) (h 14) 9) (h 14) 20) (h 14) 20))), (20, (upd (h 20) (((nI n) : Int32).toNatClampNeg) 0))]) 19 = (upd (h 19) (((nI n) : Int32).toNatClampNeg) (vX5_number (rX5_number_13 (rX5_number_13 (rX5_number_13 (h 13) (h 14) 9) (h 14) 9) (h 14) 20) (h 14) 20)) from rfl]
        rw [show (upd (h 19) (((nI n) : Int32).toNatClampNeg) (vX5_number (rX5_number_13 (rX5_number_13 (rX5_number_13 (h 13) (h 14) 9) (h 14) 9) (h 14) 20) (h 14) 20)) (((nI n) : Int32).toNatClampNeg) = (vX5_number (rX5_number_13 (rX5_number_13 (rX5_number_13 (h 13) (h 14) 9) (h 14) 9) (h 14) 20) (h 14) 20) from jj_ueq rfl]
        refine rr_iconst (-1) rfl dX7_readPerson_126 ?_
        refine rr_icmp_eq dX7_readPerson_127 (fun c4 => ?_) (fun c4 => ?_)
        · skip
          refine rr_iconst 0 rfl dX7_readPerson_134 ?_
          refine rr_nreturn dX7_readPerson_135 rfl (by first | rfl | assumption) ?_
          simpa only [vX7_readPerson, rX7_readPerson_13, rX7_readPerson_15, rX7_readPerson_16, rX7_readPerson_17, rX7_readPerson_18, rX7_readPerson_19, rX7_readPerson_20, if_neg c1, if_neg c2, if_neg c3, if_pos c4] using kq
        · skip
          refine rr_iconst 1 rfl dX7_readPerson_130 ?_
          refine rr_goto dX7_readPerson_131 ?_
          refine rr_nreturn dX7_readPerson_135 rfl (by first | rfl | assumption) ?_
          simpa only [vX7_readPerson, rX7_readPerson_13, rX7_readPerson_15, rX7_readPerson_16, rX7_readPerson_17, rX7_readPerson_18, rX7_readPerson_19, rX7_readPerson_20, if_neg c1, if_neg c2, if_neg c3, if_neg c4] using kq
      · skip
        refine rr_iconst (-1) rfl dX7_readPerson_92 ?_
        refine rr_goto dX7_readPerson_93 ?_
        refine rr_iastore dX7_readPerson_102 lo_19 sh_19 (vp_in_nI (by omega) (by decide)) ?_
        rw [jj_rs_set (B := h) (L := [(13, (rX5_number_13 (rX5_number_13 (rX5_number_13 (h 13) (h 14) 9) (h 14) 9) (h 14) 20)), (16, (upd (h 16) (((nI n) : Int32).toNatClampNeg) (vX5_number (h 13) (h 14) 9))), (17, (upd (h 17) (((nI n) : Int32).toNatClampNeg) (vX5_number (rX5_number_13 (h 13) (h 14) 9) (h 14) 9))), (18, (upd (h 18) (((nI n) : Int32).toNatClampNeg) (vX5_number (rX5_number_13 (rX5_number_13 (h 13) (h 14) 9) (h 14) 9) (h 14) 20)))]) (L2 := [(13, (rX5_number_13 (rX5_number_13 (rX5_number_13 (h 13) (h 14) 9) (h 14) 9) (h 14) 20)), (16, (upd (h 16) (((nI n) : Int32).toNatClampNeg) (vX5_number (h 13) (h 14) 9))), (17, (upd (h 17) (((nI n) : Int32).toNatClampNeg) (vX5_number (rX5_number_13 (h 13) (h 14) 9) (h 14) 9))), (18, (upd (h 18) (((nI n) : Int32).toNatClampNeg) (vX5_number (rX5_number_13 (rX5_number_13 (h 13) (h 14) 9) (h 14) 9) (h 14) 20))), (19, (upd (h 19) (((nI n) : Int32).toNatClampNeg) (-1)))]) (r := (h 19)) rfl rfl]
        refine rr_aload_n 0 rfl rfl dX7_readPerson_103 ?_
        refine rr_getR dX7_readPerson_104 fX7_28 lo_15 sh_15 rfl ?_
        refine rr_iload_n 2 rfl rfl dX7_readPerson_107 ?_
        refine rr_iconst 0 rfl dX7_readPerson_108 ?_
        refine rr_iastore dX7_readPerson_109 lo_20 sh_20 (vp_in_nI (by omega) (by decide)) ?_
        rw [jj_rs_set (B := h) (L := [(13, (rX5_number_13 (rX5_number_13 (rX5_number_13 (h 13) (h 14) 9) (h 14) 9) (h 14) 20)), (16, (upd (h 16) (((nI n) : Int32).toNatClampNeg) (vX5_number (h 13) (h 14) 9))), (17, (upd (h 17) (((nI n) : Int32).toNatClampNeg) (vX5_number (rX5_number_13 (h 13) (h 14) 9) (h 14) 9))), (18, (upd (h 18) (((nI n) : Int32).toNatClampNeg) (vX5_number (rX5_number_13 (rX5_number_13 (h 13) (h 14) 9) (h 14) 9) (h 14) 20))), (19, (upd (h 19) (((nI n) : Int32).toNatClampNeg) (-1)))]) (L2 := [(13, (rX5_number_13 (rX5_number_13 (rX5_number_13 (h 13) (h 14) 9) (h 14) 9) (h 14) 20)), (16, (upd (h 16) (((nI n) : Int32).toNatClampNeg) (vX5_number (h 13) (h 14) 9))), (17, (upd (h 17) (((nI n) : Int32).toNatClampNeg) (vX5_number (rX5_number_13 (h 13) (h 14) 9) (h 14) 9))), (18, (upd (h 18) (((nI n) : Int32).toNatClampNeg) (vX5_number (rX5_number_13 (rX5_number_13 (h 13) (h 14) 9) (h 14) 9) (h 14) 20))), (19, (upd (h 19) (((nI n) : Int32).toNatClampNeg) (-1))), (20, (upd (h 20) (((nI n) : Int32).toNatClampNeg) 0))]) (r := (h 20)) rfl rfl]
        refine rr_aload_n 0 rfl rfl dX7_readPerson_110 ?_
        refine rr_dup rfl dX7_readPerson_111 ?_
        refine rr_getI dX7_readPerson_112 fX7_31 lo_15 sh_15 rfl ?_
        rw [show (jj_rs h [(13, (rX5_number_13 (rX5_number_13 (rX5_number_13 (h 13) (h 14) 9) (h 14) 9) (h 14) 20)), (16, (upd (h 16) (((nI n) : Int32).toNatClampNeg) (vX5_number (h 13) (h 14) 9))), (17, (upd (h 17) (((nI n) : Int32).toNatClampNeg) (vX5_number (rX5_number_13 (h 13) (h 14) 9) (h 14) 9))), (18, (upd (h 18) (((nI n) : Int32).toNatClampNeg) (vX5_number (rX5_number_13 (rX5_number_13 (h 13) (h 14) 9) (h 14) 9) (h 14) 20))), (19, (upd (h 19) (((nI n) : Int32).toNatClampNeg) (-1))), (20, (upd (h 20) (((nI n) : Int32).toNatClampNeg) 0))]) 15 = h 15 from rfl]
        rw [show (h 15) 0 = (nI n) from hP]
        refine rr_iconst 1 rfl dX7_readPerson_115 ?_
        refine rr_iadd dX7_readPerson_116 ?_
        refine rr_putI dX7_readPerson_117 fX7_31 ni7_0 lo_15 sh_15 rfl ?_
        rw [jj_rs_set (B := h) (L := [(13, (rX5_number_13 (rX5_number_13 (rX5_number_13 (h 13) (h 14) 9) (h 14) 9) (h 14) 20)), (16, (upd (h 16) (((nI n) : Int32).toNatClampNeg) (vX5_number (h 13) (h 14) 9))), (17, (upd (h 17) (((nI n) : Int32).toNatClampNeg) (vX5_number (rX5_number_13 (h 13) (h 14) 9) (h 14) 9))), (18, (upd (h 18) (((nI n) : Int32).toNatClampNeg) (vX5_number (rX5_number_13 (rX5_number_13 (h 13) (h 14) 9) (h 14) 9) (h 14) 20))), (19, (upd (h 19) (((nI n) : Int32).toNatClampNeg) (-1))), (20, (upd (h 20) (((nI n) : Int32).toNatClampNeg) 0))]) (L2 := [(13, (rX5_number_13 (rX5_number_13 (rX5_number_13 (h 13) (h 14) 9) (h 14) 9) (h 14) 20)), (15, (upd (h 15) (0) ((nI n) + 1))), (16, (upd (h 16) (((nI n) : Int32).toNatClampNeg) (vX5_number (h 13) (h 14) 9))), (17, (upd (h 17) (((nI n) : Int32).toNatClampNeg) (vX5_number (rX5_number_13 (h 13) (h 14) 9) (h 14) 9))), (18, (upd (h 18) (((nI n) : Int32).toNatClampNeg) (vX5_number (rX5_number_13 (rX5_number_13 (h 13) (h 14) 9) (h 14) 9) (h 14) 20))), (19, (upd (h 19) (((nI n) : Int32).toNatClampNeg) (-1))), (20, (upd (h 20) (((nI n) : Int32).toNatClampNeg) 0))]) (r := (h 15)) rfl rfl]
        refine rr_aload_n 0 rfl rfl dX7_readPerson_120 ?_
        refine rr_getR dX7_readPerson_121 fX7_25 lo_15 sh_15 rfl ?_
        refine rr_iload_n 2 rfl rfl dX7_readPerson_124 ?_
        refine rr_iaload dX7_readPerson_125 lo_19 sh_19 (vp_in_nI (by omega) (by decide)) ?_
        rw [show (jj_rs h [(13, (rX5_number_13 (rX5_number_13 (rX5_number_13 (h 13) (h 14) 9) (h 14) 9) (h 14) 20)), (15, (upd (h 15) (0) ((nI n) + 1))), (16, (upd (h 16) (((nI n) : Int32).toNatClampNeg) (vX5_number (h 13) (h 14) 9))), (17, (upd (h 17) (((nI n) : Int32).toNatClampNeg) (vX5_number (rX5_number_13 (h 13) (h 14) 9) (h 14) 9))), (18, (upd (h 18) (((nI n) : Int32).toNatClampNeg) (vX5_number (rX5_number_13 (rX5_number_13 (h 13) (h 14) 9) (h 14) 9) (h 14) 20))), (19, (upd (h 19) (((nI n) : Int32).toNatClampNeg) (-1))), (20, (upd (h 20) (((nI n) : Int32).toNatClampNeg) 0))]) 19 = (upd (h 19) (((nI n) : Int32).toNatClampNeg) (-1)) from rfl]
        rw [show (upd (h 19) (((nI n) : Int32).toNatClampNeg) (-1)) (((nI n) : Int32).toNatClampNeg) = (-1) from jj_ueq rfl]
        refine rr_iconst (-1) rfl dX7_readPerson_126 ?_
        refine rr_icmp_eq dX7_readPerson_127 (fun _ => ?_) (fun c => absurd (by decide) c)
        refine rr_iconst 0 rfl dX7_readPerson_134 ?_
        refine rr_nreturn dX7_readPerson_135 rfl (by first | rfl | assumption) ?_
        simpa only [vX7_readPerson, rX7_readPerson_13, rX7_readPerson_15, rX7_readPerson_16, rX7_readPerson_17, rX7_readPerson_18, rX7_readPerson_19, rX7_readPerson_20, if_neg c1, if_neg c2, if_pos c3] using kq
    · skip
      refine rr_iconst (-1) rfl dX7_readPerson_66 ?_
      refine rr_goto dX7_readPerson_67 ?_
      refine rr_iastore dX7_readPerson_76 lo_18 sh_18 (vp_in_nI (by omega) (by decide)) ?_
      rw [jj_rs_set (B := h) (L := [(13, (rX5_number_13 (rX5_number_13 (h 13) (h 14) 9) (h 14) 9)), (16, (upd (h 16) (((nI n) : Int32).toNatClampNeg) (vX5_number (h 13) (h 14) 9))), (17, (upd (h 17) (((nI n) : Int32).toNatClampNeg) (vX5_number (rX5_number_13 (h 13) (h 14) 9) (h 14) 9)))]) (L2 := [(13, (rX5_number_13 (rX5_number_13 (h 13) (h 14) 9) (h 14) 9)), (16, (upd (h 16) (((nI n) : Int32).toNatClampNeg) (vX5_number (h 13) (h 14) 9))), (17, (upd (h 17) (((nI n) : Int32).toNatClampNeg) (vX5_number (rX5_number_13 (h 13) (h 14) 9) (h 14) 9))), (18, (upd (h 18) (((nI n) : Int32).toNatClampNeg) (-1)))]) (r := (h 18)) rfl rfl]
      refine rr_aload_n 0 rfl rfl dX7_readPerson_77 ?_
      refine rr_getR dX7_readPerson_78 fX7_25 lo_15 sh_15 rfl ?_
      refine rr_iload_n 2 rfl rfl dX7_readPerson_81 ?_
      refine rr_aload_n 0 rfl rfl dX7_readPerson_82 ?_
      refine rr_getR dX7_readPerson_83 fX7_22 lo_15 sh_15 rfl ?_
      refine rr_iload_n 2 rfl rfl dX7_readPerson_86 ?_
      refine rr_iaload dX7_readPerson_87 lo_18 sh_18 (vp_in_nI (by omega) (by decide)) ?_
      rw [show (jj_rs h [(13, (rX5_number_13 (rX5_number_13 (h 13) (h 14) 9) (h 14) 9)), (16, (upd (h 16) (((nI n) : Int32).toNatClampNeg) (vX5_number (h 13) (h 14) 9))), (17, (upd (h 17) (((nI n) : Int32).toNatClampNeg) (vX5_number (rX5_number_13 (h 13) (h 14) 9) (h 14) 9))), (18, (upd (h 18) (((nI n) : Int32).toNatClampNeg) (-1)))]) 18 = (upd (h 18) (((nI n) : Int32).toNatClampNeg) (-1)) from rfl]
      rw [show (upd (h 18) (((nI n) : Int32).toNatClampNeg) (-1)) (((nI n) : Int32).toNatClampNeg) = (-1) from jj_ueq rfl]
      refine rr_iconst (-1) rfl dX7_readPerson_88 ?_
      refine rr_icmp_ne dX7_readPerson_89 (fun c => absurd c (by decide)) (fun _ => ?_)
      refine rr_iconst (-1) rfl dX7_readPerson_92 ?_
      refine rr_goto dX7_readPerson_93 ?_
      refine rr_iastore dX7_readPerson_102 lo_19 sh_19 (vp_in_nI (by omega) (by decide)) ?_
      rw [jj_rs_set (B := h) (L := [(13, (rX5_number_13 (rX5_number_13 (h 13) (h 14) 9) (h 14) 9)), (16, (upd (h 16) (((nI n) : Int32).toNatClampNeg) (vX5_number (h 13) (h 14) 9))), (17, (upd (h 17) (((nI n) : Int32).toNatClampNeg) (vX5_number (rX5_number_13 (h 13) (h 14) 9) (h 14) 9))), (18, (upd (h 18) (((nI n) : Int32).toNatClampNeg) (-1)))]) (L2 := [(13, (rX5_number_13 (rX5_number_13 (h 13) (h 14) 9) (h 14) 9)), (16, (upd (h 16) (((nI n) : Int32).toNatClampNeg) (vX5_number (h 13) (h 14) 9))), (17, (upd (h 17) (((nI n) : Int32).toNatClampNeg) (vX5_number (rX5_number_13 (h 13) (h 14) 9) (h 14) 9))), (18, (upd (h 18) (((nI n) : Int32).toNatClampNeg) (-1))), (19, (upd (h 19) (((nI n) : Int32).toNatClampNeg) (-1)))]) (r := (h 19)) rfl rfl]
      refine rr_aload_n 0 rfl rfl dX7_readPerson_103 ?_
      refine rr_getR dX7_readPerson_104 fX7_28 lo_15 sh_15 rfl ?_
      refine rr_iload_n 2 rfl rfl dX7_readPerson_107 ?_
      refine rr_iconst 0 rfl dX7_readPerson_108 ?_
      refine rr_iastore dX7_readPerson_109 lo_20 sh_20 (vp_in_nI (by omega) (by decide)) ?_
      rw [jj_rs_set (B := h) (L := [(13, (rX5_number_13 (rX5_number_13 (h 13) (h 14) 9) (h 14) 9)), (16, (upd (h 16) (((nI n) : Int32).toNatClampNeg) (vX5_number (h 13) (h 14) 9))), (17, (upd (h 17) (((nI n) : Int32).toNatClampNeg) (vX5_number (rX5_number_13 (h 13) (h 14) 9) (h 14) 9))), (18, (upd (h 18) (((nI n) : Int32).toNatClampNeg) (-1))), (19, (upd (h 19) (((nI n) : Int32).toNatClampNeg) (-1)))]) (L2 := [(13, (rX5_number_13 (rX5_number_13 (h 13) (h 14) 9) (h 14) 9)), (16, (upd (h 16) (((nI n) : Int32).toNatClampNeg) (vX5_number (h 13) (h 14) 9))), (17, (upd (h 17) (((nI n) : Int32).toNatClampNeg) (vX5_number (rX5_number_13 (h 13) (h 14) 9) (h 14) 9))), (18, (upd (h 18) (((nI n) : Int32).toNatClampNeg) (-1))), (19, (upd (h 19) (((nI n) : Int32).toNatClampNeg) (-1))), (20, (upd (h 20) (((nI n) : Int32).toNatClampNeg) 0))]) (r := (h 20)) rfl rfl]
      refine rr_aload_n 0 rfl rfl dX7_readPerson_110 ?_
      refine rr_dup rfl dX7_readPerson_111 ?_
      refine rr_getI dX7_readPerson_112 fX7_31 lo_15 sh_15 rfl ?_
      rw [show (jj_rs h [(13, (rX5_number_13 (rX5_number_13 (h 13) (h 14) 9) (h 14) 9)), (16, (upd (h 16) (((nI n) : Int32).toNatClampNeg) (vX5_number (h 13) (h 14) 9))), (17, (upd (h 17) (((nI n) : Int32).toNatClampNeg) (vX5_number (rX5_number_13 (h 13) (h 14) 9) (h 14) 9))), (18, (upd (h 18) (((nI n) : Int32).toNatClampNeg) (-1))), (19, (upd (h 19) (((nI n) : Int32).toNatClampNeg) (-1))), (20, (upd (h 20) (((nI n) : Int32).toNatClampNeg) 0))]) 15 = h 15 from rfl]
      rw [show (h 15) 0 = (nI n) from hP]
      refine rr_iconst 1 rfl dX7_readPerson_115 ?_
      refine rr_iadd dX7_readPerson_116 ?_
      refine rr_putI dX7_readPerson_117 fX7_31 ni7_0 lo_15 sh_15 rfl ?_
      rw [jj_rs_set (B := h) (L := [(13, (rX5_number_13 (rX5_number_13 (h 13) (h 14) 9) (h 14) 9)), (16, (upd (h 16) (((nI n) : Int32).toNatClampNeg) (vX5_number (h 13) (h 14) 9))), (17, (upd (h 17) (((nI n) : Int32).toNatClampNeg) (vX5_number (rX5_number_13 (h 13) (h 14) 9) (h 14) 9))), (18, (upd (h 18) (((nI n) : Int32).toNatClampNeg) (-1))), (19, (upd (h 19) (((nI n) : Int32).toNatClampNeg) (-1))), (20, (upd (h 20) (((nI n) : Int32).toNatClampNeg) 0))]) (L2 := [(13, (rX5_number_13 (rX5_number_13 (h 13) (h 14) 9) (h 14) 9)), (15, (upd (h 15) (0) ((nI n) + 1))), (16, (upd (h 16) (((nI n) : Int32).toNatClampNeg) (vX5_number (h 13) (h 14) 9))), (17, (upd (h 17) (((nI n) : Int32).toNatClampNeg) (vX5_number (rX5_number_13 (h 13) (h 14) 9) (h 14) 9))), (18, (upd (h 18) (((nI n) : Int32).toNatClampNeg) (-1))), (19, (upd (h 19) (((nI n) : Int32).toNatClampNeg) (-1))), (20, (upd (h 20) (((nI n) : Int32).toNatClampNeg) 0))]) (r := (h 15)) rfl rfl]
      refine rr_aload_n 0 rfl rfl dX7_readPerson_120 ?_
      refine rr_getR dX7_readPerson_121 fX7_25 lo_15 sh_15 rfl ?_
      refine rr_iload_n 2 rfl rfl dX7_readPerson_124 ?_
      refine rr_iaload dX7_readPerson_125 lo_19 sh_19 (vp_in_nI (by omega) (by decide)) ?_
      rw [show (jj_rs h [(13, (rX5_number_13 (rX5_number_13 (h 13) (h 14) 9) (h 14) 9)), (15, (upd (h 15) (0) ((nI n) + 1))), (16, (upd (h 16) (((nI n) : Int32).toNatClampNeg) (vX5_number (h 13) (h 14) 9))), (17, (upd (h 17) (((nI n) : Int32).toNatClampNeg) (vX5_number (rX5_number_13 (h 13) (h 14) 9) (h 14) 9))), (18, (upd (h 18) (((nI n) : Int32).toNatClampNeg) (-1))), (19, (upd (h 19) (((nI n) : Int32).toNatClampNeg) (-1))), (20, (upd (h 20) (((nI n) : Int32).toNatClampNeg) 0))]) 19 = (upd (h 19) (((nI n) : Int32).toNatClampNeg) (-1)) from rfl]
      rw [show (upd (h 19) (((nI n) : Int32).toNatClampNeg) (-1)) (((nI n) : Int32).toNatClampNeg) = (-1) from jj_ueq rfl]
      refine rr_iconst (-1) rfl dX7_readPerson_126 ?_
      refine rr_icmp_eq dX7_readPerson_127 (fun _ => ?_) (fun c => absurd (by decide) c)
      refine rr_iconst 0 rfl dX7_readPerson_134 ?_
      refine rr_nreturn dX7_readPerson_135 rfl (by first | rfl | assumption) ?_
      simpa only [vX7_readPerson, rX7_readPerson_13, rX7_readPerson_15, rX7_readPerson_16, rX7_readPerson_17, rX7_readPerson_18, rX7_readPerson_19, rX7_readPerson_20, if_neg c1, if_pos c2] using kq
  · skip
    refine rr_iconst (-1) rfl dX7_readPerson_40 ?_
    refine rr_goto dX7_readPerson_41 ?_
    refine rr_iastore dX7_readPerson_50 lo_17 sh_17 (vp_in_nI (by omega) (by decide)) ?_
    rw [jj_rs_set (B := h) (L := [(13, (rX5_number_13 (h 13) (h 14) 9)), (16, (upd (h 16) (((nI n) : Int32).toNatClampNeg) (vX5_number (h 13) (h 14) 9)))]) (L2 := [(13, (rX5_number_13 (h 13) (h 14) 9)), (16, (upd (h 16) (((nI n) : Int32).toNatClampNeg) (vX5_number (h 13) (h 14) 9))), (17, (upd (h 17) (((nI n) : Int32).toNatClampNeg) (-1)))]) (r := (h 17)) rfl rfl]
    refine rr_aload_n 0 rfl rfl dX7_readPerson_51 ?_
    refine rr_getR dX7_readPerson_52 fX7_22 lo_15 sh_15 rfl ?_
    refine rr_iload_n 2 rfl rfl dX7_readPerson_55 ?_
    refine rr_aload_n 0 rfl rfl dX7_readPerson_56 ?_
    refine rr_getR dX7_readPerson_57 fX7_19 lo_15 sh_15 rfl ?_
    refine rr_iload_n 2 rfl rfl dX7_readPerson_60 ?_
    refine rr_iaload dX7_readPerson_61 lo_17 sh_17 (vp_in_nI (by omega) (by decide)) ?_
    rw [show (jj_rs h [(13, (rX5_number_13 (h 13) (h 14) 9)), (16, (upd (h 16) (((nI n) : Int32).toNatClampNeg) (vX5_number (h 13) (h 14) 9))), (17, (upd (h 17) (((nI n) : Int32).toNatClampNeg) (-1)))]) 17 = (upd (h 17) (((nI n) : Int32).toNatClampNeg) (-1)) from rfl]
    rw [show (upd (h 17) (((nI n) : Int32).toNatClampNeg) (-1)) (((nI n) : Int32).toNatClampNeg) = (-1) from jj_ueq rfl]
    refine rr_iconst (-1) rfl dX7_readPerson_62 ?_
    refine rr_icmp_ne dX7_readPerson_63 (fun c => absurd c (by decide)) (fun _ => ?_)
    refine rr_iconst (-1) rfl dX7_readPerson_66 ?_
    refine rr_goto dX7_readPerson_67 ?_
    refine rr_iastore dX7_readPerson_76 lo_18 sh_18 (vp_in_nI (by omega) (by decide)) ?_
    rw [jj_rs_set (B := h) (L := [(13, (rX5_number_13 (h 13) (h 14) 9)), (16, (upd (h 16) (((nI n) : Int32).toNatClampNeg) (vX5_number (h 13) (h 14) 9))), (17, (upd (h 17) (((nI n) : Int32).toNatClampNeg) (-1)))]) (L2 := [(13, (rX5_number_13 (h 13) (h 14) 9)), (16, (upd (h 16) (((nI n) : Int32).toNatClampNeg) (vX5_number (h 13) (h 14) 9))), (17, (upd (h 17) (((nI n) : Int32).toNatClampNeg) (-1))), (18, (upd (h 18) (((nI n) : Int32).toNatClampNeg) (-1)))]) (r := (h 18)) rfl rfl]
    refine rr_aload_n 0 rfl rfl dX7_readPerson_77 ?_
    refine rr_getR dX7_readPerson_78 fX7_25 lo_15 sh_15 rfl ?_
    refine rr_iload_n 2 rfl rfl dX7_readPerson_81 ?_
    refine rr_aload_n 0 rfl rfl dX7_readPerson_82 ?_
    refine rr_getR dX7_readPerson_83 fX7_22 lo_15 sh_15 rfl ?_
    refine rr_iload_n 2 rfl rfl dX7_readPerson_86 ?_
    refine rr_iaload dX7_readPerson_87 lo_18 sh_18 (vp_in_nI (by omega) (by decide)) ?_
    rw [show (jj_rs h [(13, (rX5_number_13 (h 13) (h 14) 9)), (16, (upd (h 16) (((nI n) : Int32).toNatClampNeg) (vX5_number (h 13) (h 14) 9))), (17, (upd (h 17) (((nI n) : Int32).toNatClampNeg) (-1))), (18, (upd (h 18) (((nI n) : Int32).toNatClampNeg) (-1)))]) 18 = (upd (h 18) (((nI n) : Int32).toNatClampNeg) (-1)) from rfl]
    rw [show (upd (h 18) (((nI n) : Int32).toNatClampNeg) (-1)) (((nI n) : Int32).toNatClampNeg) = (-1) from jj_ueq rfl]
    refine rr_iconst (-1) rfl dX7_readPerson_88 ?_
    refine rr_icmp_ne dX7_readPerson_89 (fun c => absurd c (by decide)) (fun _ => ?_)
    refine rr_iconst (-1) rfl dX7_readPerson_92 ?_
    refine rr_goto dX7_readPerson_93 ?_
    refine rr_iastore dX7_readPerson_102 lo_19 sh_19 (vp_in_nI (by omega) (by decide)) ?_
    rw [jj_rs_set (B := h) (L := [(13, (rX5_number_13 (h 13) (h 14) 9)), (16, (upd (h 16) (((nI n) : Int32).toNatClampNeg) (vX5_number (h 13) (h 14) 9))), (17, (upd (h 17) (((nI n) : Int32).toNatClampNeg) (-1))), (18, (upd (h 18) (((nI n) : Int32).toNatClampNeg) (-1)))]) (L2 := [(13, (rX5_number_13 (h 13) (h 14) 9)), (16, (upd (h 16) (((nI n) : Int32).toNatClampNeg) (vX5_number (h 13) (h 14) 9))), (17, (upd (h 17) (((nI n) : Int32).toNatClampNeg) (-1))), (18, (upd (h 18) (((nI n) : Int32).toNatClampNeg) (-1))), (19, (upd (h 19) (((nI n) : Int32).toNatClampNeg) (-1)))]) (r := (h 19)) rfl rfl]
    refine rr_aload_n 0 rfl rfl dX7_readPerson_103 ?_
    refine rr_getR dX7_readPerson_104 fX7_28 lo_15 sh_15 rfl ?_
    refine rr_iload_n 2 rfl rfl dX7_readPerson_107 ?_
    refine rr_iconst 0 rfl dX7_readPerson_108 ?_
    refine rr_iastore dX7_readPerson_109 lo_20 sh_20 (vp_in_nI (by omega) (by decide)) ?_
    rw [jj_rs_set (B := h) (L := [(13, (rX5_number_13 (h 13) (h 14) 9)), (16, (upd (h 16) (((nI n) : Int32).toNatClampNeg) (vX5_number (h 13) (h 14) 9))), (17, (upd (h 17) (((nI n) : Int32).toNatClampNeg) (-1))), (18, (upd (h 18) (((nI n) : Int32).toNatClampNeg) (-1))), (19, (upd (h 19) (((nI n) : Int32).toNatClampNeg) (-1)))]) (L2 := [(13, (rX5_number_13 (h 13) (h 14) 9)), (16, (upd (h 16) (((nI n) : Int32).toNatClampNeg) (vX5_number (h 13) (h 14) 9))), (17, (upd (h 17) (((nI n) : Int32).toNatClampNeg) (-1))), (18, (upd (h 18) (((nI n) : Int32).toNatClampNeg) (-1))), (19, (upd (h 19) (((nI n) : Int32).toNatClampNeg) (-1))), (20, (upd (h 20) (((nI n) : Int32).toNatClampNeg) 0))]) (r := (h 20)) rfl rfl]
    refine rr_aload_n 0 rfl rfl dX7_readPerson_110 ?_
    refine rr_dup rfl dX7_readPerson_111 ?_
    refine rr_getI dX7_readPerson_112 fX7_31 lo_15 sh_15 rfl ?_
    rw [show (jj_rs h [(13, (rX5_number_13 (h 13) (h 14) 9)), (16, (upd (h 16) (((nI n) : Int32).toNatClampNeg) (vX5_number (h 13) (h 14) 9))), (17, (upd (h 17) (((nI n) : Int32).toNatClampNeg) (-1))), (18, (upd (h 18) (((nI n) : Int32).toNatClampNeg) (-1))), (19, (upd (h 19) (((nI n) : Int32).toNatClampNeg) (-1))), (20, (upd (h 20) (((nI n) : Int32).toNatClampNeg) 0))]) 15 = h 15 from rfl]
    rw [show (h 15) 0 = (nI n) from hP]
    refine rr_iconst 1 rfl dX7_readPerson_115 ?_
    refine rr_iadd dX7_readPerson_116 ?_
    refine rr_putI dX7_readPerson_117 fX7_31 ni7_0 lo_15 sh_15 rfl ?_
    rw [jj_rs_set (B := h) (L := [(13, (rX5_number_13 (h 13) (h 14) 9)), (16, (upd (h 16) (((nI n) : Int32).toNatClampNeg) (vX5_number (h 13) (h 14) 9))), (17, (upd (h 17) (((nI n) : Int32).toNatClampNeg) (-1))), (18, (upd (h 18) (((nI n) : Int32).toNatClampNeg) (-1))), (19, (upd (h 19) (((nI n) : Int32).toNatClampNeg) (-1))), (20, (upd (h 20) (((nI n) : Int32).toNatClampNeg) 0))]) (L2 := [(13, (rX5_number_13 (h 13) (h 14) 9)), (15, (upd (h 15) (0) ((nI n) + 1))), (16, (upd (h 16) (((nI n) : Int32).toNatClampNeg) (vX5_number (h 13) (h 14) 9))), (17, (upd (h 17) (((nI n) : Int32).toNatClampNeg) (-1))), (18, (upd (h 18) (((nI n) : Int32).toNatClampNeg) (-1))), (19, (upd (h 19) (((nI n) : Int32).toNatClampNeg) (-1))), (20, (upd (h 20) (((nI n) : Int32).toNatClampNeg) 0))]) (r := (h 15)) rfl rfl]
    refine rr_aload_n 0 rfl rfl dX7_readPerson_120 ?_
    refine rr_getR dX7_readPerson_121 fX7_25 lo_15 sh_15 rfl ?_
    refine rr_iload_n 2 rfl rfl dX7_readPerson_124 ?_
    refine rr_iaload dX7_readPerson_125 lo_19 sh_19 (vp_in_nI (by omega) (by decide)) ?_
    rw [show (jj_rs h [(13, (rX5_number_13 (h 13) (h 14) 9)), (15, (upd (h 15) (0) ((nI n) + 1))), (16, (upd (h 16) (((nI n) : Int32).toNatClampNeg) (vX5_number (h 13) (h 14) 9))), (17, (upd (h 17) (((nI n) : Int32).toNatClampNeg) (-1))), (18, (upd (h 18) (((nI n) : Int32).toNatClampNeg) (-1))), (19, (upd (h 19) (((nI n) : Int32).toNatClampNeg) (-1))), (20, (upd (h 20) (((nI n) : Int32).toNatClampNeg) 0))]) 19 = (upd (h 19) (((nI n) : Int32).toNatClampNeg) (-1)) from rfl]
    rw [show (upd (h 19) (((nI n) : Int32).toNatClampNeg) (-1)) (((nI n) : Int32).toNatClampNeg) = (-1) from jj_ueq rfl]
    refine rr_iconst (-1) rfl dX7_readPerson_126 ?_
    refine rr_icmp_eq dX7_readPerson_127 (fun _ => ?_) (fun c => absurd (by decide) c)
    refine rr_iconst 0 rfl dX7_readPerson_134 ?_
    refine rr_nreturn dX7_readPerson_135 rfl (by first | rfl | assumption) ?_
    simpa only [vX7_readPerson, rX7_readPerson_13, rX7_readPerson_15, rX7_readPerson_16, rX7_readPerson_17, rX7_readPerson_18, rX7_readPerson_19, rX7_readPerson_20, if_pos c1] using kq
