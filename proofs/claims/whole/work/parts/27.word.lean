theorem jj_big1 {i : Nat} : 1000000 + i < 782 ∨ 999997 ≤ 1000000 + i := Or.inr (Nat.le_trans (show 999997 ≤ 1000000 by decide) (Nat.le_add_right _ _))
theorem jj_big2 {i : Nat} : 2000000 + i < 782 ∨ 999997 ≤ 2000000 + i := Or.inr (Nat.le_trans (show 999997 ≤ 2000000 by decide) (Nat.le_add_right _ _))
theorem sp_coder {d kc ks : Nat} {h : Nat → Nat → Int32} {g : Nat → Nat → Int64} {Q : jj_Rs → jj_St → Prop} {i : Nat} {z : jj_Sc} (hz : jj_ss[i]? = some z) (kq : Q (.inl (some (.int 0))) (jj_S, 782, h, g)) : jj_R mJ_coder (d + 0) kc ks (jj_S, 782, h, g) 0 [(0, .ref (1000000 + i))] [] Q := by
  refine rr_gets dJ_coder_0 fS_38 ?_
  refine rr_if_eq dJ_coder_3 (fun c => absurd c (by decide)) (fun _ => ?_)
  refine rr_aload_n 0 rfl rfl dJ_coder_6 ?_
  refine rr_sgetC hz dJ_coder_7 fS_15 ?_
  refine rr_goto dJ_coder_10 ?_
  exact rr_nreturn dJ_coder_14 rfl rfl kq
theorem sp_isLatin1 {d kc ks : Nat} {h : Nat → Nat → Int32} {g : Nat → Nat → Int64} {Q : jj_Rs → jj_St → Prop} {i : Nat} {z : jj_Sc} (hz : jj_ss[i]? = some z) (kq : Q (.inl (some (.int 1))) (jj_S, 782, h, g)) : jj_R mJ_isLatin1 (d + 0) kc ks (jj_S, 782, h, g) 0 [(0, .ref (1000000 + i))] [] Q := by
  refine rr_gets dJ_isLatin1_0 fS_38 ?_
  refine rr_if_eq dJ_isLatin1_3 (fun c => absurd c (by decide)) (fun _ => ?_)
  refine rr_aload_n 0 rfl rfl dJ_isLatin1_6 ?_
  refine rr_sgetC hz dJ_isLatin1_7 fS_15 ?_
  refine rr_if_ne dJ_isLatin1_10 (fun c => absurd rfl c) (fun _ => ?_)
  refine rr_iconst 1 rfl dJ_isLatin1_13 ?_
  refine rr_goto dJ_isLatin1_14 ?_
  exact rr_nreturn dJ_isLatin1_18 rfl rfl kq
theorem sp_slen {d kc ks : Nat} {h : Nat → Nat → Int32} {g : Nat → Nat → Int64} {Q : jj_Rs → jj_St → Prop} {i : Nat} {z : jj_Sc} (hz : jj_ss[i]? = some z) (kq : Q (.inl (some (.int (Int32.ofNat z.2.2.2.length >>> ((0 : Int32) &&& 31))))) (jj_S, 782, h, g)) : jj_R mJ_length (d + 1) kc ks (jj_S, 782, h, g) 0 [(0, .ref (1000000 + i))] [] Q := by
  refine rr_aload_n 0 rfl rfl dJ_length_0 ?_
  refine rr_sgetV hz dJ_length_1 fS_9 ?_
  refine rr_talen hz dJ_length_4 ?_
  refine rr_aload_n 0 rfl rfl dJ_length_5 ?_
  refine rr_callT (As := []) (rest := [.int (Int32.ofNat z.2.2.2.length)]) (kc2 := 0) (ks2 := 0) dJ_length_6 okJ_coder lS_335 (i9 := i) hz rfl rfl (Nat.le_of_ble_eq_true rfl) (Nat.le_of_ble_eq_true rfl) rfl (by omega) (by simp [jj_rk] <;> first | exact jj_big1 | exact jj_big2) (by simp [jj_rk]) ?_
  refine sp_coder hz ?_
  show jj_R _ _ kc ks (jj_S, 782, h, g) 9 [(0, .ref (1000000 + i))] [.int 0, .int (Int32.ofNat z.2.2.2.length)] Q
  refine rr_ishr dJ_length_9 ?_
  exact rr_ireturn dJ_length_10 rfl kq
theorem sp_pcheck {d kc ks : Nat} {h : Nat → Nat → Int32} {g : Nat → Nat → Int64} {Q : jj_Rs → jj_St → Prop} {j l : Int32} {v : Value} (c1 : ¬ j < 0) (c2 : j < l) (kq : Q (.inl (some (.int j))) (jj_S, 782, h, g)) : jj_R mJ_pcheck (d + 0) kc ks (jj_S, 782, h, g) 0 [(0, .int j), (1, .int l), (2, v)] [] Q := by
  refine rr_iload_n 0 rfl rfl dJ_pcheck_0 ?_
  refine rr_if_lt dJ_pcheck_1 (fun c => absurd c c1) (fun _ => ?_)
  refine rr_iload_n 0 rfl rfl dJ_pcheck_4 ?_
  refine rr_iload_n 1 rfl rfl dJ_pcheck_5 ?_
  refine rr_icmp_lt dJ_pcheck_6 (fun _ => ?_) (fun c => absurd c2 c)
  refine rr_iload_n 0 rfl rfl dJ_pcheck_16 ?_
  exact rr_ireturn dJ_pcheck_17 rfl kq
theorem sp_checkIndex {d kc ks : Nat} {h : Nat → Nat → Int32} {g : Nat → Nat → Int64} {Q : jj_Rs → jj_St → Prop} {j l : Int32} (c1 : ¬ j < 0) (c2 : j < l) (kq : Q (.inl none) (jj_S, 782, h, g)) : jj_R mJ_checkIndex (d + 1) kc ks (jj_S, 782, h, g) 0 [(0, .int j), (1, .int l)] [] Q := by
  refine rr_iload_n 0 rfl rfl dJ_checkIndex_0 ?_
  refine rr_iload_n 1 rfl rfl dJ_checkIndex_1 ?_
  refine rr_getsQ dJ_checkIndex_2 fS_1053 ?_ ?_
  · refine rr_callS (As := [.int j, .int l, .null]) (rest := []) (kc2 := 0) (ks2 := 0) dJ_checkIndex_5 okJ_pcheck lS_1059 rfl (Nat.le_of_ble_eq_true rfl) (Nat.le_of_ble_eq_true rfl) rfl (by omega) (by simp [jj_rk] <;> first | exact jj_big1 | exact jj_big2) (by simp [jj_rk]) ?_
    refine sp_pcheck c1 c2 ?_
    show jj_R _ _ kc ks (jj_S, 782, h, g) 8 [(0, .int j), (1, .int l)] [.int j] Q
    refine rr_pop rfl dJ_checkIndex_8 ?_
    exact rr_return dJ_checkIndex_9 rfl kq
  · refine rr_callS (As := [.int j, .int l, .ref 999997]) (rest := []) (kc2 := 0) (ks2 := 0) dJ_checkIndex_5 okJ_pcheck lS_1059 rfl (Nat.le_of_ble_eq_true rfl) (Nat.le_of_ble_eq_true rfl) rfl (by omega) (by simp [jj_rk] <;> first | exact jj_big1 | exact jj_big2) (by simp [jj_rk]) ?_
    refine sp_pcheck c1 c2 ?_
    show jj_R _ _ kc ks (jj_S, 782, h, g) 8 [(0, .int j), (1, .int l)] [.int j] Q
    refine rr_pop rfl dJ_checkIndex_8 ?_
    exact rr_return dJ_checkIndex_9 rfl kq
theorem sp_lcharAt {d kc ks : Nat} {h : Nat → Nat → Int32} {g : Nat → Nat → Int64} {Q : jj_Rs → jj_St → Prop} {i : Nat} {z : jj_Sc} (hz : jj_ss[i]? = some z) {j c : Int32} (c1 : ¬ j < 0) (c2 : j < Int32.ofNat z.2.2.2.length) (hj : vp_in j z.2.2.2.length) (hc : narrow FieldType.char (.int (((z.2.2.2.getD j.toNatClampNeg 0 &&& 255) : Int32).toUInt32 % 65536).toInt32) = .int (((z.2.2.2.getD j.toNatClampNeg 0 &&& 255) : Int32).toUInt32 % 65536).toInt32) (ex : (((z.2.2.2.getD j.toNatClampNeg 0 &&& 255) : Int32).toUInt32 % 65536).toInt32 = c) (kq : Q (.inl (some (.int c))) (jj_S, 782, h, g)) : jj_R mJ_lcharAt (d + 2) kc ks (jj_S, 782, h, g) 0 [(0, .ref (2000000 + i)), (1, .int j)] [] Q := by
  refine rr_iload_n 1 rfl rfl dJ_lcharAt_0 ?_
  refine rr_aload_n 0 rfl rfl dJ_lcharAt_1 ?_
  refine rr_talen hz dJ_lcharAt_2 ?_
  refine rr_callS (As := [.int j, .int (Int32.ofNat z.2.2.2.length)]) (rest := []) (kc2 := 0) (ks2 := 0) dJ_lcharAt_3 okJ_checkIndex lS1_9 rfl (Nat.le_of_ble_eq_true rfl) (Nat.le_of_ble_eq_true rfl) rfl (by omega) (by simp [jj_rk] <;> first | exact jj_big1 | exact jj_big2) (by simp [jj_rk]) ?_
  refine sp_checkIndex c1 c2 ?_
  show jj_R _ _ kc ks (jj_S, 782, h, g) 6 [(0, .ref (2000000 + i)), (1, .int j)] [] Q
  refine rr_aload_n 0 rfl rfl dJ_lcharAt_6 ?_
  refine rr_iload_n 1 rfl rfl dJ_lcharAt_7 ?_
  refine rr_tbaload hz dJ_lcharAt_8 hj ?_
  refine rr_sipush 255 rfl dJ_lcharAt_9 ?_
  refine rr_iand dJ_lcharAt_12 ?_
  refine rr_i2c dJ_lcharAt_13 ?_
  subst ex
  exact rr_nreturn dJ_lcharAt_14 rfl hc kq
theorem sp_charAt {d kc ks : Nat} {h : Nat → Nat → Int32} {g : Nat → Nat → Int64} {Q : jj_Rs → jj_St → Prop} {i : Nat} {z : jj_Sc} (hz : jj_ss[i]? = some z) {j c : Int32} (c1 : ¬ j < 0) (c2 : j < Int32.ofNat z.2.2.2.length) (hj : vp_in j z.2.2.2.length) (hc : narrow FieldType.char (.int (((z.2.2.2.getD j.toNatClampNeg 0 &&& 255) : Int32).toUInt32 % 65536).toInt32) = .int (((z.2.2.2.getD j.toNatClampNeg 0 &&& 255) : Int32).toUInt32 % 65536).toInt32) (ex : (((z.2.2.2.getD j.toNatClampNeg 0 &&& 255) : Int32).toUInt32 % 65536).toInt32 = c) (hc2 : narrow FieldType.char (.int c) = .int c) (kq : Q (.inl (some (.int c))) (jj_S, 782, h, g)) : jj_R mJ_charAt (d + 3) kc ks (jj_S, 782, h, g) 0 [(0, .ref (1000000 + i)), (1, .int j)] [] Q := by
  refine rr_aload_n 0 rfl rfl dJ_charAt_0 ?_
  refine rr_callT (As := []) (rest := []) (kc2 := 0) (ks2 := 0) dJ_charAt_1 okJ_isLatin1 lS_492 (i9 := i) hz rfl rfl (Nat.le_of_ble_eq_true rfl) (Nat.le_of_ble_eq_true rfl) rfl (by omega) (by simp [jj_rk] <;> first | exact jj_big1 | exact jj_big2) (by simp [jj_rk]) ?_
  refine sp_isLatin1 hz ?_
  show jj_R _ _ kc ks (jj_S, 782, h, g) 4 [(0, .ref (1000000 + i)), (1, .int j)] [.int 1] Q
  refine rr_if_eq dJ_charAt_4 (fun c => absurd c (by decide)) (fun _ => ?_)
  refine rr_aload_n 0 rfl rfl dJ_charAt_7 ?_
  refine rr_sgetV hz dJ_charAt_8 fS_9 ?_
  refine rr_iload_n 1 rfl rfl dJ_charAt_11 ?_
  refine rr_callS (As := [.ref (2000000 + i), .int j]) (rest := []) (kc2 := 0) (ks2 := 0) dJ_charAt_12 okJ_lcharAt lS_495 rfl (Nat.le_of_ble_eq_true rfl) (Nat.le_of_ble_eq_true rfl) rfl (by omega) (by simp [jj_rk] <;> first | exact jj_big1 | exact jj_big2) (by simp [jj_rk]) ?_
  refine sp_lcharAt hz c1 c2 hj hc ex ?_
  show jj_R _ _ kc ks (jj_S, 782, h, g) 15 [(0, .ref (1000000 + i)), (1, .int j)] [.int c] Q
  exact rr_nreturn dJ_charAt_15 rfl hc2 kq
