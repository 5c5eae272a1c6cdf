/-- end and at are places of the tape -/
def rdat (r : Nat → Int32) : Prop := (∃ e : Nat, r 2 = nI e ∧ e ≤ 600) ∧ ∃ y : Nat, r 6 = nI y ∧ y ≤ 600
theorem rd_at {r : Nat → Int32} {k : Nat} {K : Int32} (eK : K = nI k) (hk : k ≤ 600) (h : rdat r) (c : ¬ r 2 ≤ r 6 + K) : vp_in (r 6 + K) 600 := by
  subst eK
  obtain ⟨⟨e, he, h1⟩, y, hy, h2⟩ := h
  rw [he, hy, nI_add, nI_leI (by omega) (by omega)] at c
  rw [hy, nI_add]
  exact vp_in_nI (by omega) (by decide)
def vX5_isWord_1 (r13 : Nat → Int32) (r14 : Nat → Int32) : Int32 := (if (r13 4) = 2 then (if ((r13 3) - (r13 6)) = 6 then (if (r13 2) ≤ ((r13 6) + 0) then 1 else (if (r14 (((r13 6) + 0) : Int32).toNatClampNeg) = 112 then (if (r13 2) ≤ ((r13 6) + 1) then 1 else (if (r14 (((r13 6) + 1) : Int32).toNatClampNeg) = 101 then (if (r13 2) ≤ ((r13 6) + 2) then 1 else (if (r14 (((r13 6) + 2) : Int32).toNatClampNeg) = 114 then (if (r13 2) ≤ ((r13 6) + 3) then 1 else (if (r14 (((r13 6) + 3) : Int32).toNatClampNeg) = 115 then (if (r13 2) ≤ ((r13 6) + 4) then 1 else (if (r14 (((r13 6) + 4) : Int32).toNatClampNeg) = 111 then (if (r13 2) ≤ ((r13 6) + 5) then 1 else (if (r14 (((r13 6) + 5) : Int32).toNatClampNeg) = 110 then 1 else 0)) else 0)) else 0)) else 0)) else 0)) else 0)) else 0) else 0)
set_option maxHeartbeats 1000000 in
theorem sp_X5_isWord_1 {d kc ks : Nat} {h : Nat → Nat → Int32} {g : Nat → Nat → Int64} {Q : jj_Rs → jj_St → Prop}  (ho : rdat (h 13)) (kq : Q (.inl (some (.int (vX5_isWord_1 (h 13) (h 14))))) (jj_S, 782, h, g)) : jj_R mX5_isWord (d + 4) kc ks (jj_S, 782, h, g) 0 [(0, .ref 13), (1, .ref (1000000 + 1))] [] Q := by
  refine rr_aload_n 0 rfl rfl dX5_isWord_0 ?_
  refine rr_getI dX5_isWord_1 fX5_37 lo_13 sh_13 rfl ?_
  refine rr_iconst 2 rfl dX5_isWord_4 ?_
  refine rr_icmp_ne dX5_isWord_5 (fun c1 => ?_) (fun c1 => ?_)
  · skip
    refine rr_iconst 0 rfl dX5_isWord_24 ?_
    refine rr_nreturn dX5_isWord_25 rfl (by first | rfl | assumption) ?_
    simpa only [vX5_isWord_1, if_neg c1] using kq
  · skip
    refine rr_aload_n 0 rfl rfl dX5_isWord_8 ?_
    refine rr_getI dX5_isWord_9 fX5_25 lo_13 sh_13 rfl ?_
    refine rr_aload_n 0 rfl rfl dX5_isWord_12 ?_
    refine rr_getI dX5_isWord_13 fX5_34 lo_13 sh_13 rfl ?_
    refine rr_isub dX5_isWord_16 ?_
    refine rr_aload_n 1 rfl rfl dX5_isWord_17 ?_
    refine rr_callT (As := []) (rest := [.int (((h 13) 3) - ((h 13) 6))]) (kc2 := 0) (ks2 := 0) dX5_isWord_18 okJ_length lX5_44 (i9 := 1) rfl rfl rfl (Nat.le_of_ble_eq_true rfl) (Nat.le_of_ble_eq_true rfl) rfl (by omega) (by simp [jj_rk]) (by simp [jj_rk]) ?_
    refine sp_len_1  ?_
    show jj_R _ _ kc ks (jj_S, 782, h, g) 21 [(0, .ref 13), (1, .ref (1000000 + 1))] [.int 6, .int (((h 13) 3) - ((h 13) 6))] Q
    refine rr_icmp_eq dX5_isWord_21 (fun c2 => ?_) (fun c2 => ?_)
    · skip
      refine rr_iconst 0 rfl dX5_isWord_26 ?_
      refine rr_istore_n [(0, .ref 13), (1, .ref (1000000 + 1)), (2, .int 0)] dX5_isWord_27 rfl (by decide) rfl ?_
      refine rr_iload_n 2 rfl rfl dX5_isWord_28 ?_
      refine rr_aload_n 1 rfl rfl dX5_isWord_29 ?_
      refine rr_callT (As := []) (rest := [.int 0]) (kc2 := 0) (ks2 := 0) dX5_isWord_30 okJ_length lX5_44 (i9 := 1) rfl rfl rfl (Nat.le_of_ble_eq_true rfl) (Nat.le_of_ble_eq_true rfl) rfl (by omega) (by simp [jj_rk]) (by simp [jj_rk]) ?_
      refine sp_len_1  ?_
      show jj_R _ _ kc ks (jj_S, 782, h, g) 33 [(0, .ref 13), (1, .ref (1000000 + 1)), (2, .int 0)] [.int 6, .int 0] Q
      refine rr_icmp_ge dX5_isWord_33 (fun c => absurd c (by decide)) (fun _ => ?_)
      refine rr_aload_n 0 rfl rfl dX5_isWord_36 ?_
      refine rr_getI dX5_isWord_37 fX5_34 lo_13 sh_13 rfl ?_
      refine rr_iload_n 2 rfl rfl dX5_isWord_40 ?_
      refine rr_iadd dX5_isWord_41 ?_
      refine rr_aload_n 0 rfl rfl dX5_isWord_42 ?_
      refine rr_getI dX5_isWord_43 fX5_22 lo_13 sh_13 rfl ?_
      refine rr_icmp_ge dX5_isWord_46 (fun c3 => ?_) (fun c3 => ?_)
      · skip
        refine rr_iconst 1 rfl dX5_isWord_76 ?_
        refine rr_nreturn dX5_isWord_77 rfl (by first | rfl | assumption) ?_
        simpa only [vX5_isWord_1, if_pos c1, if_pos c2, if_pos c3] using kq
      · skip
        refine rr_aload_n 0 rfl rfl dX5_isWord_49 ?_
        refine rr_getR dX5_isWord_50 fX5_9 lo_13 sh_13 rfl ?_
        refine rr_aload_n 0 rfl rfl dX5_isWord_53 ?_
        refine rr_getI dX5_isWord_54 fX5_34 lo_13 sh_13 rfl ?_
        refine rr_iload_n 2 rfl rfl dX5_isWord_57 ?_
        refine rr_iadd dX5_isWord_58 ?_
        refine rr_baload dX5_isWord_59 lo_14 sh_14 (rd_at (k := 0) rfl (by decide) ho (by assumption)) ?_
        refine rr_aload_n 1 rfl rfl dX5_isWord_60 ?_
        refine rr_iload_n 2 rfl rfl dX5_isWord_61 ?_
        refine rr_callT (As := [.int 0]) (rest := [.int ((h 14) ((((h 13) 6) + 0) : Int32).toNatClampNeg)]) (kc2 := 0) (ks2 := 0) dX5_isWord_62 okJ_charAt lX5_49 (i9 := 1) rfl rfl rfl (Nat.le_of_ble_eq_true rfl) (Nat.le_of_ble_eq_true rfl) rfl (by omega) (by simp [jj_rk]) (by simp [jj_rk]) ?_
        refine sp_ch_1_0  ?_
        show jj_R _ _ kc ks (jj_S, 782, h, g) 65 [(0, .ref 13), (1, .ref (1000000 + 1)), (2, .int 0)] [.int 112, .int ((h 14) ((((h 13) 6) + 0) : Int32).toNatClampNeg)] Q
        refine rr_icmp_eq dX5_isWord_65 (fun c4 => ?_) (fun c4 => ?_)
        · skip
          refine rr_iinc 2 1 [(0, .ref 13), (1, .ref (1000000 + 1)), (2, .int 1)] dX5_isWord_70 rfl rfl (by decide) rfl ?_
          refine rr_goto dX5_isWord_73 ?_
          refine rr_iload_n 2 rfl rfl dX5_isWord_28 ?_
          refine rr_aload_n 1 rfl rfl dX5_isWord_29 ?_
          refine rr_callT (As := []) (rest := [.int 1]) (kc2 := 0) (ks2 := 0) dX5_isWord_30 okJ_length lX5_44 (i9 := 1) rfl rfl rfl (Nat.le_of_ble_eq_true rfl) (Nat.le_of_ble_eq_true rfl) rfl (by omega) (by simp [jj_rk]) (by simp [jj_rk]) ?_
          refine sp_len_1  ?_
          show jj_R _ _ kc ks (jj_S, 782, h, g) 33 [(0, .ref 13), (1, .ref (1000000 + 1)), (2, .int 1)] [.int 6, .int 1] Q
          refine rr_icmp_ge dX5_isWord_33 (fun c => absurd c (by decide)) (fun _ => ?_)
          refine rr_aload_n 0 rfl rfl dX5_isWord_36 ?_
          refine rr_getI dX5_isWord_37 fX5_34 lo_13 sh_13 rfl ?_
          refine rr_iload_n 2 rfl rfl dX5_isWord_40 ?_
          refine rr_iadd dX5_isWord_41 ?_
          refine rr_aload_n 0 rfl rfl dX5_isWord_42 ?_
          refine rr_getI dX5_isWord_43 fX5_22 lo_13 sh_13 rfl ?_
          refine rr_icmp_ge dX5_isWord_46 (fun c5 => ?_) (fun c5 => ?_)
          · skip
            refine rr_iconst 1 rfl dX5_isWord_76 ?_
            refine rr_nreturn dX5_isWord_77 rfl (by first | rfl | assumption) ?_
            simpa only [vX5_isWord_1, if_pos c1, if_pos c2, if_neg c3, if_pos c4, if_pos c5] using kq
          · skip
            refine rr_aload_n 0 rfl rfl dX5_isWord_49 ?_
            refine rr_getR dX5_isWord_50 fX5_9 lo_13 sh_13 rfl ?_
            refine rr_aload_n 0 rfl rfl dX5_isWord_53 ?_
            refine rr_getI dX5_isWord_54 fX5_34 lo_13 sh_13 rfl ?_
            refine rr_iload_n 2 rfl rfl dX5_isWord_57 ?_
            refine rr_iadd dX5_isWord_58 ?_
            refine rr_baload dX5_isWord_59 lo_14 sh_14 (rd_at (k := 1) rfl (by decide) ho (by assumption)) ?_
            refine rr_aload_n 1 rfl rfl dX5_isWord_60 ?_
            refine rr_iload_n 2 rfl rfl dX5_isWord_61 ?_
            refine rr_callT (As := [.int 1]) (rest := [.int ((h 14) ((((h 13) 6) + 1) : Int32).toNatClampNeg)]) (kc2 := 0) (ks2 := 0) dX5_isWord_62 okJ_charAt lX5_49 (i9 := 1) rfl rfl rfl (Nat.le_of_ble_eq_true rfl) (Nat.le_of_ble_eq_true rfl) rfl (by omega) (by simp [jj_rk]) (by simp [jj_rk]) ?_
            refine sp_ch_1_1  ?_
            show jj_R _ _ kc ks (jj_S, 782, h, g) 65 [(0, .ref 13), (1, .ref (1000000 + 1)), (2, .int 1)] [.int 101, .int ((h 14) ((((h 13) 6) + 1) : Int32).toNatClampNeg)] Q
            refine rr_icmp_eq dX5_isWord_65 (fun c6 => ?_) (fun c6 => ?_)
            · skip
              refine rr_iinc 2 1 [(0, .ref 13), (1, .ref (1000000 + 1)), (2, .int 2)] dX5_isWord_70 rfl rfl (by decide) rfl ?_
              refine rr_goto dX5_isWord_73 ?_
              refine rr_iload_n 2 rfl rfl dX5_isWord_28 ?_
              refine rr_aload_n 1 rfl rfl dX5_isWord_29 ?_
              refine rr_callT (As := []) (rest := [.int 2]) (kc2 := 0) (ks2 := 0) dX5_isWord_30 okJ_length lX5_44 (i9 := 1) rfl rfl rfl (Nat.le_of_ble_eq_true rfl) (Nat.le_of_ble_eq_true rfl) rfl (by omega) (by simp [jj_rk]) (by simp [jj_rk]) ?_
              refine sp_len_1  ?_
              show jj_R _ _ kc ks (jj_S, 782, h, g) 33 [(0, .ref 13), (1, .ref (1000000 + 1)), (2, .int 2)] [.int 6, .int 2] Q
              refine rr_icmp_ge dX5_isWord_33 (fun c => absurd c (by decide)) (fun _ => ?_)
              refine rr_aload_n 0 rfl rfl dX5_isWord_36 ?_
              refine rr_getI dX5_isWord_37 fX5_34 lo_13 sh_13 rfl ?_
              refine rr_iload_n 2 rfl rfl dX5_isWord_40 ?_
              refine rr_iadd dX5_isWord_41 ?_
              refine rr_aload_n 0 rfl rfl dX5_isWord_42 ?_
              refine rr_getI dX5_isWord_43 fX5_22 lo_13 sh_13 rfl ?_
              refine rr_icmp_ge dX5_isWord_46 (fun c7 => ?_) (fun c7 => ?_)
              · skip
                refine rr_iconst 1 rfl dX5_isWord_76 ?_
                refine rr_nreturn dX5_isWord_77 rfl (by first | rfl | assumption) ?_
                simpa only [vX5_isWord_1, if_pos c1, if_pos c2, if_neg c3, if_pos c4, if_neg c5, if_pos c6, if_pos c7] using kq
              · skip
                refine rr_aload_n 0 rfl rfl dX5_isWord_49 ?_
                refine rr_getR dX5_isWord_50 fX5_9 lo_13 sh_13 rfl ?_
                refine rr_aload_n 0 rfl rfl dX5_isWord_53 ?_
                refine rr_getI dX5_isWord_54 fX5_34 lo_13 sh_13 rfl ?_
                refine rr_iload_n 2 rfl rfl dX5_isWord_57 ?_
                refine rr_iadd dX5_isWord_58 ?_
                refine rr_baload dX5_isWord_59 lo_14 sh_14 (rd_at (k := 2) rfl (by decide) ho (by assumption)) ?_
                refine rr_aload_n 1 rfl rfl dX5_isWord_60 ?_
                refine rr_iload_n 2 rfl rfl dX5_isWord_61 ?_
                refine rr_callT (As := [.int 2]) (rest := [.int ((h 14) ((((h 13) 6) + 2) : Int32).toNatClampNeg)]) (kc2 := 0) (ks2 := 0) dX5_isWord_62 okJ_charAt lX5_49 (i9 := 1) rfl rfl rfl (Nat.le_of_ble_eq_true rfl) (Nat.le_of_ble_eq_true rfl) rfl (by omega) (by simp [jj_rk]) (by simp [jj_rk]) ?_
                refine sp_ch_1_2  ?_
                show jj_R _ _ kc ks (jj_S, 782, h, g) 65 [(0, .ref 13), (1, .ref (1000000 + 1)), (2, .int 2)] [.int 114, .int ((h 14) ((((h 13) 6) + 2) : Int32).toNatClampNeg)] Q
                refine rr_icmp_eq dX5_isWord_65 (fun c8 => ?_) (fun c8 => ?_)
                · skip
                  refine rr_iinc 2 1 [(0, .ref 13), (1, .ref (1000000 + 1)), (2, .int 3)] dX5_isWord_70 rfl rfl (by decide) rfl ?_
                  refine rr_goto dX5_isWord_73 ?_
                  refine rr_iload_n 2 rfl rfl dX5_isWord_28 ?_
                  refine rr_aload_n 1 rfl rfl dX5_isWord_29 ?_
                  refine rr_callT (As := []) (rest := [.int 3]) (kc2 := 0) (ks2 := 0) dX5_isWord_30 okJ_length lX5_44 (i9 := 1) rfl rfl rfl (Nat.le_of_ble_eq_true rfl) (Nat.le_of_ble_eq_true rfl) rfl (by omega) (by simp [jj_rk]) (by simp [jj_rk]) ?_
                  refine sp_len_1  ?_
                  show jj_R _ _ kc ks (jj_S, 782, h, g) 33 [(0, .ref 13), (1, .ref (1000000 + 1)), (2, .int 3)] [.int 6, .int 3] Q
                  refine rr_icmp_ge dX5_isWord_33 (fun c => absurd c (by decide)) (fun _ => ?_)
                  refine rr_aload_n 0 rfl rfl dX5_isWord_36 ?_
                  refine rr_getI dX5_isWord_37 fX5_34 lo_13 sh_13 rfl ?_
                  refine rr_iload_n 2 rfl rfl dX5_isWord_40 ?_
                  refine rr_iadd dX5_isWord_41 ?_
                  refine rr_aload_n 0 rfl rfl dX5_isWord_42 ?_
                  refine rr_getI dX5_isWord_43 fX5_22 lo_13 sh_13 rfl ?_
                  refine rr_icmp_ge dX5_isWord_46 (fun c9 => ?_) (fun c9 => ?_)
                  · skip
                    refine rr_iconst 1 rfl dX5_isWord_76 ?_
                    refine rr_nreturn dX5_isWord_77 rfl (by first | rfl | assumption) ?_
                    simpa only [vX5_isWord_1, if_pos c1, if_pos c2, if_neg c3, if_pos c4, if_neg c5, if_pos c6, if_neg c7, if_pos c8, if_pos c9] using kq
                  · skip
                    refine rr_aload_n 0 rfl rfl dX5_isWord_49 ?_
                    refine rr_getR dX5_isWord_50 fX5_9 lo_13 sh_13 rfl ?_
                    refine rr_aload_n 0 rfl rfl dX5_isWord_53 ?_
                    refine rr_getI dX5_isWord_54 fX5_34 lo_13 sh_13 rfl ?_
                    refine rr_iload_n 2 rfl rfl dX5_isWord_57 ?_
                    refine rr_iadd dX5_isWord_58 ?_
                    refine rr_baload dX5_isWord_59 lo_14 sh_14 (rd_at (k := 3) rfl (by decide) ho (by assumption)) ?_
                    refine rr_aload_n 1 rfl rfl dX5_isWord_60 ?_
                    refine rr_iload_n 2 rfl rfl dX5_isWord_61 ?_
                    refine rr_callT (As := [.int 3]) (rest := [.int ((h 14) ((((h 13) 6) + 3) : Int32).toNatClampNeg)]) (kc2 := 0) (ks2 := 0) dX5_isWord_62 okJ_charAt lX5_49 (i9 := 1) rfl rfl rfl (Nat.le_of_ble_eq_true rfl) (Nat.le_of_ble_eq_true rfl) rfl (by omega) (by simp [jj_rk]) (by simp [jj_rk]) ?_
                    refine sp_ch_1_3  ?_
                    show jj_R _ _ kc ks (jj_S, 782, h, g) 65 [(0, .ref 13), (1, .ref (1000000 + 1)), (2, .int 3)] [.int 115, .int ((h 14) ((((h 13) 6) + 3) : Int32).toNatClampNeg)] Q
                    refine rr_icmp_eq dX5_isWord_65 (fun c10 => ?_) (fun c10 => ?_)
                    · skip
                      refine rr_iinc 2 1 [(0, .ref 13), (1, .ref (1000000 + 1)), (2, .int 4)] dX5_isWord_70 rfl rfl (by decide) rfl ?_
                      refine rr_goto dX5_isWord_73 ?_
                      refine rr_iload_n 2 rfl rfl dX5_isWord_28 ?_
                      refine rr_aload_n 1 rfl rfl dX5_isWord_29 ?_
                      refine rr_callT (As := []) (rest := [.int 4]) (kc2 := 0) (ks2 := 0) dX5_isWord_30 okJ_length lX5_44 (i9 := 1) rfl rfl rfl (Nat.le_of_ble_eq_true rfl) (Nat.le_of_ble_eq_true rfl) rfl (by omega) (by simp [jj_rk]) (by simp [jj_rk]) ?_
                      refine sp_len_1  ?_
                      show jj_R _ _ kc ks (jj_S, 782, h, g) 33 [(0, .ref 13), (1, .ref (1000000 + 1)), (2, .int 4)] [.int 6, .int 4] Q
                      refine rr_icmp_ge dX5_isWord_33 (fun c => absurd c (by decide)) (fun _ => ?_)
                      refine rr_aload_n 0 rfl rfl dX5_isWord_36 ?_
                      refine rr_getI dX5_isWord_37 fX5_34 lo_13 sh_13 rfl ?_
                      refine rr_iload_n 2 rfl rfl dX5_isWord_40 ?_
                      refine rr_iadd dX5_isWord_41 ?_
                      refine rr_aload_n 0 rfl rfl dX5_isWord_42 ?_
                      refine rr_getI dX5_isWord_43 fX5_22 lo_13 sh_13 rfl ?_
                      refine rr_icmp_ge dX5_isWord_46 (fun c11 => ?_) (fun c11 => ?_)
                      · skip
                        refine rr_iconst 1 rfl dX5_isWord_76 ?_
                        refine rr_nreturn dX5_isWord_77 rfl (by first | rfl | assumption) ?_
                        simpa only [vX5_isWord_1, if_pos c1, if_pos c2, if_neg c3, if_pos c4, if_neg c5, if_pos c6, if_neg c7, if_pos c8, if_neg c9, if_pos c10, if_pos c11] using kq
                      · skip
                        refine rr_aload_n 0 rfl rfl dX5_isWord_49 ?_
                        refine rr_getR dX5_isWord_50 fX5_9 lo_13 sh_13 rfl ?_
                        refine rr_aload_n 0 rfl rfl dX5_isWord_53 ?_
                        refine rr_getI dX5_isWord_54 fX5_34 lo_13 sh_13 rfl ?_
                        refine rr_iload_n 2 rfl rfl dX5_isWord_57 ?_
                        refine rr_iadd dX5_isWord_58 ?_
                        refine rr_baload dX5_isWord_59 lo_14 sh_14 (rd_at (k := 4) rfl (by decide) ho (by assumption)) ?_
                        refine rr_aload_n 1 rfl rfl dX5_isWord_60 ?_
                        refine rr_iload_n 2 rfl rfl dX5_isWord_61 ?_
                        refine rr_callT (As := [.int 4]) (rest := [.int ((h 14) ((((h 13) 6) + 4) : Int32).toNatClampNeg)]) (kc2 := 0) (ks2 := 0) dX5_isWord_62 okJ_charAt lX5_49 (i9 := 1) rfl rfl rfl (Nat.le_of_ble_eq_true rfl) (Nat.le_of_ble_eq_true rfl) rfl (by omega) (by simp [jj_rk]) (by simp [jj_rk]) ?_
                        refine sp_ch_1_4  ?_
                        show jj_R _ _ kc ks (jj_S, 782, h, g) 65 [(0, .ref 13), (1, .ref (1000000 + 1)), (2, .int 4)] [.int 111, .int ((h 14) ((((h 13) 6) + 4) : Int32).toNatClampNeg)] Q
                        refine rr_icmp_eq dX5_isWord_65 (fun c12 => ?_) (fun c12 => ?_)
                        · skip
                          refine rr_iinc 2 1 [(0, .ref 13), (1, .ref (1000000 + 1)), (2, .int 5)] dX5_isWord_70 rfl rfl (by decide) rfl ?_
                          refine rr_goto dX5_isWord_73 ?_
                          refine rr_iload_n 2 rfl rfl dX5_isWord_28 ?_
                          refine rr_aload_n 1 rfl rfl dX5_isWord_29 ?_
                          refine rr_callT (As := []) (rest := [.int 5]) (kc2 := 0) (ks2 := 0) dX5_isWord_30 okJ_length lX5_44 (i9 := 1) rfl rfl rfl (Nat.le_of_ble_eq_true rfl) (Nat.le_of_ble_eq_true rfl) rfl (by omega) (by simp [jj_rk]) (by simp [jj_rk]) ?_
                          refine sp_len_1  ?_
                          show jj_R _ _ kc ks (jj_S, 782, h, g) 33 [(0, .ref 13), (1, .ref (1000000 + 1)), (2, .int 5)] [.int 6, .int 5] Q
                          refine rr_icmp_ge dX5_isWord_33 (fun c => absurd c (by decide)) (fun _ => ?_)
                          refine rr_aload_n 0 rfl rfl dX5_isWord_36 ?_
                          refine rr_getI dX5_isWord_37 fX5_34 lo_13 sh_13 rfl ?_
                          refine rr_iload_n 2 rfl rfl dX5_isWord_40 ?_
                          refine rr_iadd dX5_isWord_41 ?_
                          refine rr_aload_n 0 rfl rfl dX5_isWord_42 ?_
                          refine rr_getI dX5_isWord_43 fX5_22 lo_13 sh_13 rfl ?_
                          refine rr_icmp_ge dX5_isWord_46 (fun c13 => ?_) (fun c13 => ?_)
                          · skip
                            refine rr_iconst 1 rfl dX5_isWord_76 ?_
                            refine rr_nreturn dX5_isWord_77 rfl (by first | rfl | assumption) ?_
                            simpa only [vX5_isWord_1, if_pos c1, if_pos c2, if_neg c3, if_pos c4, if_neg c5, if_pos c6, if_neg c7, if_pos c8, if_neg c9, if_pos c10, if_neg c11, if_pos c12, if_pos c13] using kq
                          · skip
                            refine rr_aload_n 0 rfl rfl dX5_isWord_49 ?_
                            refine rr_getR dX5_isWord_50 fX5_9 lo_13 sh_13 rfl ?_
                            refine rr_aload_n 0 rfl rfl dX5_isWord_53 ?_
                            refine rr_getI dX5_isWord_54 fX5_34 lo_13 sh_13 rfl ?_
                            refine rr_iload_n 2 rfl rfl dX5_isWord_57 ?_
                            refine rr_iadd dX5_isWord_58 ?_
                            refine rr_baload dX5_isWord_59 lo_14 sh_14 (rd_at (k := 5) rfl (by decide) ho (by assumption)) ?_
                            refine rr_aload_n 1 rfl rfl dX5_isWord_60 ?_
                            refine rr_iload_n 2 rfl rfl dX5_isWord_61 ?_
                            refine rr_callT (As := [.int 5]) (rest := [.int ((h 14) ((((h 13) 6) + 5) : Int32).toNatClampNeg)]) (kc2 := 0) (ks2 := 0) dX5_isWord_62 okJ_charAt lX5_49 (i9 := 1) rfl rfl rfl (Nat.le_of_ble_eq_true rfl) (Nat.le_of_ble_eq_true rfl) rfl (by omega) (by simp [jj_rk]) (by simp [jj_rk]) ?_
                            refine sp_ch_1_5  ?_
                            show jj_R _ _ kc ks (jj_S, 782, h, g) 65 [(0, .ref 13), (1, .ref (1000000 + 1)), (2, .int 5)] [.int 110, .int ((h 14) ((((h 13) 6) + 5) : Int32).toNatClampNeg)] Q
                            refine rr_icmp_eq dX5_isWord_65 (fun c14 => ?_) (fun c14 => ?_)
                            · skip
                              refine rr_iinc 2 1 [(0, .ref 13), (1, .ref (1000000 + 1)), (2, .int 6)] dX5_isWord_70 rfl rfl (by decide) rfl ?_
                              refine rr_goto dX5_isWord_73 ?_
                              refine rr_iload_n 2 rfl rfl dX5_isWord_28 ?_
                              refine rr_aload_n 1 rfl rfl dX5_isWord_29 ?_
                              refine rr_callT (As := []) (rest := [.int 6]) (kc2 := 0) (ks2 := 0) dX5_isWord_30 okJ_length lX5_44 (i9 := 1) rfl rfl rfl (Nat.le_of_ble_eq_true rfl) (Nat.le_of_ble_eq_true rfl) rfl (by omega) (by simp [jj_rk]) (by simp [jj_rk]) ?_
                              refine sp_len_1  ?_
                              show jj_R _ _ kc ks (jj_S, 782, h, g) 33 [(0, .ref 13), (1, .ref (1000000 + 1)), (2, .int 6)] [.int 6, .int 6] Q
                              refine rr_icmp_ge dX5_isWord_33 (fun _ => ?_) (fun c => absurd (by decide) c)
                              refine rr_iconst 1 rfl dX5_isWord_76 ?_
                              refine rr_nreturn dX5_isWord_77 rfl (by first | rfl | assumption) ?_
                              simpa only [vX5_isWord_1, if_pos c1, if_pos c2, if_neg c3, if_pos c4, if_neg c5, if_pos c6, if_neg c7, if_pos c8, if_neg c9, if_pos c10, if_neg c11, if_pos c12, if_neg c13, if_pos c14] using kq
                            · skip
                              refine rr_iconst 0 rfl dX5_isWord_68 ?_
                              refine rr_nreturn dX5_isWord_69 rfl (by first | rfl | assumption) ?_
                              simpa only [vX5_isWord_1, if_pos c1, if_pos c2, if_neg c3, if_pos c4, if_neg c5, if_pos c6, if_neg c7, if_pos c8, if_neg c9, if_pos c10, if_neg c11, if_pos c12, if_neg c13, if_neg c14] using kq
                        · skip
                          refine rr_iconst 0 rfl dX5_isWord_68 ?_
                          refine rr_nreturn dX5_isWord_69 rfl (by first | rfl | assumption) ?_
                          simpa only [vX5_isWord_1, if_pos c1, if_pos c2, if_neg c3, if_pos c4, if_neg c5, if_pos c6, if_neg c7, if_pos c8, if_neg c9, if_pos c10, if_neg c11, if_neg c12] using kq
                    · skip
                      refine rr_iconst 0 rfl dX5_isWord_68 ?_
                      refine rr_nreturn dX5_isWord_69 rfl (by first | rfl | assumption) ?_
                      simpa only [vX5_isWord_1, if_pos c1, if_pos c2, if_neg c3, if_pos c4, if_neg c5, if_pos c6, if_neg c7, if_pos c8, if_neg c9, if_neg c10] using kq
                · skip
                  refine rr_iconst 0 rfl dX5_isWord_68 ?_
                  refine rr_nreturn dX5_isWord_69 rfl (by first | rfl | assumption) ?_
                  simpa only [vX5_isWord_1, if_pos c1, if_pos c2, if_neg c3, if_pos c4, if_neg c5, if_pos c6, if_neg c7, if_neg c8] using kq
            · skip
              refine rr_iconst 0 rfl dX5_isWord_68 ?_
              refine rr_nreturn dX5_isWord_69 rfl (by first | rfl | assumption) ?_
              simpa only [vX5_isWord_1, if_pos c1, if_pos c2, if_neg c3, if_pos c4, if_neg c5, if_neg c6] using kq
        · skip
          refine rr_iconst 0 rfl dX5_isWord_68 ?_
          refine rr_nreturn dX5_isWord_69 rfl (by first | rfl | assumption) ?_
          simpa only [vX5_isWord_1, if_pos c1, if_pos c2, if_neg c3, if_neg c4] using kq
    · skip
      refine rr_iconst 0 rfl dX5_isWord_24 ?_
      refine rr_nreturn dX5_isWord_25 rfl (by first | rfl | assumption) ?_
      simpa only [vX5_isWord_1, if_pos c1, if_neg c2] using kq
def vX5_isWord_2 (r13 : Nat → Int32) (r14 : Nat → Int32) : Int32 := (if (r13 4) = 2 then (if ((r13 3) - (r13 6)) = 6 then (if (r13 2) ≤ ((r13 6) + 0) then 1 else (if (r14 (((r13 6) + 0) : Int32).toNatClampNeg) = 102 then (if (r13 2) ≤ ((r13 6) + 1) then 1 else (if (r14 (((r13 6) + 1) : Int32).toNatClampNeg) = 114 then (if (r13 2) ≤ ((r13 6) + 2) then 1 else (if (r14 (((r13 6) + 2) : Int32).toNatClampNeg) = 105 then (if (r13 2) ≤ ((r13 6) + 3) then 1 else (if (r14 (((r13 6) + 3) : Int32).toNatClampNeg) = 101 then (if (r13 2) ≤ ((r13 6) + 4) then 1 else (if (r14 (((r13 6) + 4) : Int32).toNatClampNeg) = 110 then (if (r13 2) ≤ ((r13 6) + 5) then 1 else (if (r14 (((r13 6) + 5) : Int32).toNatClampNeg) = 100 then 1 else 0)) else 0)) else 0)) else 0)) else 0)) else 0)) else 0) else 0)
set_option maxHeartbeats 1000000 in
theorem sp_X5_isWord_2 {d kc ks : Nat} {h : Nat → Nat → Int32} {g : Nat → Nat → Int64} {Q : jj_Rs → jj_St → Prop}  (ho : rdat (h 13)) (kq : Q (.inl (some (.int (vX5_isWord_2 (h 13) (h 14))))) (jj_S, 782, h, g)) : jj_R mX5_isWord (d + 4) kc ks (jj_S, 782, h, g) 0 [(0, .ref 13), (1, .ref (1000000 + 2))] [] Q := by
  refine rr_aload_n 0 rfl rfl dX5_isWord_0 ?_
  refine rr_getI dX5_isWord_1 fX5_37 lo_13 sh_13 rfl ?_
  refine rr_iconst 2 rfl dX5_isWord_4 ?_
  refine rr_icmp_ne dX5_isWord_5 (fun c1 => ?_) (fun c1 => ?_)
  · skip
    refine rr_iconst 0 rfl dX5_isWord_24 ?_
    refine rr_nreturn dX5_isWord_25 rfl (by first | rfl | assumption) ?_
    simpa only [vX5_isWord_2, if_neg c1] using kq
  · skip
    refine rr_aload_n 0 rfl rfl dX5_isWord_8 ?_
    refine rr_getI dX5_isWord_9 fX5_25 lo_13 sh_13 rfl ?_
    refine rr_aload_n 0 rfl rfl dX5_isWord_12 ?_
    refine rr_getI dX5_isWord_13 fX5_34 lo_13 sh_13 rfl ?_
    refine rr_isub dX5_isWord_16 ?_
    refine rr_aload_n 1 rfl rfl dX5_isWord_17 ?_
    refine rr_callT (As := []) (rest := [.int (((h 13) 3) - ((h 13) 6))]) (kc2 := 0) (ks2 := 0) dX5_isWord_18 okJ_length lX5_44 (i9 := 2) rfl rfl rfl (Nat.le_of_ble_eq_true rfl) (Nat.le_of_ble_eq_true rfl) rfl (by omega) (by simp [jj_rk]) (by simp [jj_rk]) ?_
    refine sp_len_2  ?_
    show jj_R _ _ kc ks (jj_S, 782, h, g) 21 [(0, .ref 13), (1, .ref (1000000 + 2))] [.int 6, .int (((h 13) 3) - ((h 13) 6))] Q
    refine rr_icmp_eq dX5_isWord_21 (fun c2 => ?_) (fun c2 => ?_)
    · skip
      refine rr_iconst 0 rfl dX5_isWord_26 ?_
      refine rr_istore_n [(0, .ref 13), (1, .ref (1000000 + 2)), (2, .int 0)] dX5_isWord_27 rfl (by decide) rfl ?_
      refine rr_iload_n 2 rfl rfl dX5_isWord_28 ?_
      refine rr_aload_n 1 rfl rfl dX5_isWord_29 ?_
      refine rr_callT (As := []) (rest := [.int 0]) (kc2 := 0) (ks2 := 0) dX5_isWord_30 okJ_length lX5_44 (i9 := 2) rfl rfl rfl (Nat.le_of_ble_eq_true rfl) (Nat.le_of_ble_eq_true rfl) rfl (by omega) (by simp [jj_rk]) (by simp [jj_rk]) ?_
      refine sp_len_2  ?_
      show jj_R _ _ kc ks (jj_S, 782, h, g) 33 [(0, .ref 13), (1, .ref (1000000 + 2)), (2, .int 0)] [.int 6, .int 0] Q
      refine rr_icmp_ge dX5_isWord_33 (fun c => absurd c (by decide)) (fun _ => ?_)
      refine rr_aload_n 0 rfl rfl dX5_isWord_36 ?_
      refine rr_getI dX5_isWord_37 fX5_34 lo_13 sh_13 rfl ?_
      refine rr_iload_n 2 rfl rfl dX5_isWord_40 ?_
      refine rr_iadd dX5_isWord_41 ?_
      refine rr_aload_n 0 rfl rfl dX5_isWord_42 ?_
      refine rr_getI dX5_isWord_43 fX5_22 lo_13 sh_13 rfl ?_
      refine rr_icmp_ge dX5_isWord_46 (fun c3 => ?_) (fun c3 => ?_)
      · skip
        refine rr_iconst 1 rfl dX5_isWord_76 ?_
        refine rr_nreturn dX5_isWord_77 rfl (by first | rfl | assumption) ?_
        simpa only [vX5_isWord_2, if_pos c1, if_pos c2, if_pos c3] using kq
      · skip
        refine rr_aload_n 0 rfl rfl dX5_isWord_49 ?_
        refine rr_getR dX5_isWord_50 fX5_9 lo_13 sh_13 rfl ?_
        refine rr_aload_n 0 rfl rfl dX5_isWord_53 ?_
        refine rr_getI dX5_isWord_54 fX5_34 lo_13 sh_13 rfl ?_
        refine rr_iload_n 2 rfl rfl dX5_isWord_57 ?_
        refine rr_iadd dX5_isWord_58 ?_
        refine rr_baload dX5_isWord_59 lo_14 sh_14 (rd_at (k := 0) rfl (by decide) ho (by assumption)) ?_
        refine rr_aload_n 1 rfl rfl dX5_isWord_60 ?_
        refine rr_iload_n 2 rfl rfl dX5_isWord_61 ?_
        refine rr_callT (As := [.int 0]) (rest := [.int ((h 14) ((((h 13) 6) + 0) : Int32).toNatClampNeg)]) (kc2 := 0) (ks2 := 0) dX5_isWord_62 okJ_charAt lX5_49 (i9 := 2) rfl rfl rfl (Nat.le_of_ble_eq_true rfl) (Nat.le_of_ble_eq_true rfl) rfl (by omega) (by simp [jj_rk]) (by simp [jj_rk]) ?_
        refine sp_ch_2_0  ?_
        show jj_R _ _ kc ks (jj_S, 782, h, g) 65 [(0, .ref 13), (1, .ref (1000000 + 2)), (2, .int 0)] [.int 102, .int ((h 14) ((((h 13) 6) + 0) : Int32).toNatClampNeg)] Q
        refine rr_icmp_eq dX5_isWord_65 (fun c4 => ?_) (fun c4 => ?_)
        · skip
          refine rr_iinc 2 1 [(0, .ref 13), (1, .ref (1000000 + 2)), (2, .int 1)] dX5_isWord_70 rfl rfl (by decide) rfl ?_
          refine rr_goto dX5_isWord_73 ?_
          refine rr_iload_n 2 rfl rfl dX5_isWord_28 ?_
          refine rr_aload_n 1 rfl rfl dX5_isWord_29 ?_
          refine rr_callT (As := []) (rest := [.int 1]) (kc2 := 0) (ks2 := 0) dX5_isWord_30 okJ_length lX5_44 (i9 := 2) rfl rfl rfl (Nat.le_of_ble_eq_true rfl) (Nat.le_of_ble_eq_true rfl) rfl (by omega) (by simp [jj_rk]) (by simp [jj_rk]) ?_
          refine sp_len_2  ?_
          show jj_R _ _ kc ks (jj_S, 782, h, g) 33 [(0, .ref 13), (1, .ref (1000000 + 2)), (2, .int 1)] [.int 6, .int 1] Q
          refine rr_icmp_ge dX5_isWord_33 (fun c => absurd c (by decide)) (fun _ => ?_)
          refine rr_aload_n 0 rfl rfl dX5_isWord_36 ?_
          refine rr_getI dX5_isWord_37 fX5_34 lo_13 sh_13 rfl ?_
          refine rr_iload_n 2 rfl rfl dX5_isWord_40 ?_
          refine rr_iadd dX5_isWord_41 ?_
          refine rr_aload_n 0 rfl rfl dX5_isWord_42 ?_
          refine rr_getI dX5_isWord_43 fX5_22 lo_13 sh_13 rfl ?_
          refine rr_icmp_ge dX5_isWord_46 (fun c5 => ?_) (fun c5 => ?_)
          · skip
            refine rr_iconst 1 rfl dX5_isWord_76 ?_
            refine rr_nreturn dX5_isWord_77 rfl (by first | rfl | assumption) ?_
            simpa only [vX5_isWord_2, if_pos c1, if_pos c2, if_neg c3, if_pos c4, if_pos c5] using kq
          · skip
            refine rr_aload_n 0 rfl rfl dX5_isWord_49 ?_
            refine rr_getR dX5_isWord_50 fX5_9 lo_13 sh_13 rfl ?_
            refine rr_aload_n 0 rfl rfl dX5_isWord_53 ?_
            refine rr_getI dX5_isWord_54 fX5_34 lo_13 sh_13 rfl ?_
            refine rr_iload_n 2 rfl rfl dX5_isWord_57 ?_
            refine rr_iadd dX5_isWord_58 ?_
            refine rr_baload dX5_isWord_59 lo_14 sh_14 (rd_at (k := 1) rfl (by decide) ho (by assumption)) ?_
            refine rr_aload_n 1 rfl rfl dX5_isWord_60 ?_
            refine rr_iload_n 2 rfl rfl dX5_isWord_61 ?_
            refine rr_callT (As := [.int 1]) (rest := [.int ((h 14) ((((h 13) 6) + 1) : Int32).toNatClampNeg)]) (kc2 := 0) (ks2 := 0) dX5_isWord_62 okJ_charAt lX5_49 (i9 := 2) rfl rfl rfl (Nat.le_of_ble_eq_true rfl) (Nat.le_of_ble_eq_true rfl) rfl (by omega) (by simp [jj_rk]) (by simp [jj_rk]) ?_
            refine sp_ch_2_1  ?_
            show jj_R _ _ kc ks (jj_S, 782, h, g) 65 [(0, .ref 13), (1, .ref (1000000 + 2)), (2, .int 1)] [.int 114, .int ((h 14) ((((h 13) 6) + 1) : Int32).toNatClampNeg)] Q
            refine rr_icmp_eq dX5_isWord_65 (fun c6 => ?_) (fun c6 => ?_)
            · skip
              refine rr_iinc 2 1 [(0, .ref 13), (1, .ref (1000000 + 2)), (2, .int 2)] dX5_isWord_70 rfl rfl (by decide) rfl ?_
              refine rr_goto dX5_isWord_73 ?_
              refine rr_iload_n 2 rfl rfl dX5_isWord_28 ?_
              refine rr_aload_n 1 rfl rfl dX5_isWord_29 ?_
              refine rr_callT (As := []) (rest := [.int 2]) (kc2 := 0) (ks2 := 0) dX5_isWord_30 okJ_length lX5_44 (i9 := 2) rfl rfl rfl (Nat.le_of_ble_eq_true rfl) (Nat.le_of_ble_eq_true rfl) rfl (by omega) (by simp [jj_rk]) (by simp [jj_rk]) ?_
              refine sp_len_2  ?_
              show jj_R _ _ kc ks (jj_S, 782, h, g) 33 [(0, .ref 13), (1, .ref (1000000 + 2)), (2, .int 2)] [.int 6, .int 2] Q
              refine rr_icmp_ge dX5_isWord_33 (fun c => absurd c (by decide)) (fun _ => ?_)
              refine rr_aload_n 0 rfl rfl dX5_isWord_36 ?_
              refine rr_getI dX5_isWord_37 fX5_34 lo_13 sh_13 rfl ?_
              refine rr_iload_n 2 rfl rfl dX5_isWord_40 ?_
              refine rr_iadd dX5_isWord_41 ?_
              refine rr_aload_n 0 rfl rfl dX5_isWord_42 ?_
              refine rr_getI dX5_isWord_43 fX5_22 lo_13 sh_13 rfl ?_
              refine rr_icmp_ge dX5_isWord_46 (fun c7 => ?_) (fun c7 => ?_)
              · skip
                refine rr_iconst 1 rfl dX5_isWord_76 ?_
                refine rr_nreturn dX5_isWord_77 rfl (by first | rfl | assumption) ?_
                simpa only [vX5_isWord_2, if_pos c1, if_pos c2, if_neg c3, if_pos c4, if_neg c5, if_pos c6, if_pos c7] using kq
              · skip
                refine rr_aload_n 0 rfl rfl dX5_isWord_49 ?_
                refine rr_getR dX5_isWord_50 fX5_9 lo_13 sh_13 rfl ?_
                refine rr_aload_n 0 rfl rfl dX5_isWord_53 ?_
                refine rr_getI dX5_isWord_54 fX5_34 lo_13 sh_13 rfl ?_
                refine rr_iload_n 2 rfl rfl dX5_isWord_57 ?_
                refine rr_iadd dX5_isWord_58 ?_
                refine rr_baload dX5_isWord_59 lo_14 sh_14 (rd_at (k := 2) rfl (by decide) ho (by assumption)) ?_
                refine rr_aload_n 1 rfl rfl dX5_isWord_60 ?_
                refine rr_iload_n 2 rfl rfl dX5_isWord_61 ?_
                refine rr_callT (As := [.int 2]) (rest := [.int ((h 14) ((((h 13) 6) + 2) : Int32).toNatClampNeg)]) (kc2 := 0) (ks2 := 0) dX5_isWord_62 okJ_charAt lX5_49 (i9 := 2) rfl rfl rfl (Nat.le_of_ble_eq_true rfl) (Nat.le_of_ble_eq_true rfl) rfl (by omega) (by simp [jj_rk]) (by simp [jj_rk]) ?_
                refine sp_ch_2_2  ?_
                show jj_R _ _ kc ks (jj_S, 782, h, g) 65 [(0, .ref 13), (1, .ref (1000000 + 2)), (2, .int 2)] [.int 105, .int ((h 14) ((((h 13) 6) + 2) : Int32).toNatClampNeg)] Q
                refine rr_icmp_eq dX5_isWord_65 (fun c8 => ?_) (fun c8 => ?_)
                · skip
                  refine rr_iinc 2 1 [(0, .ref 13), (1, .ref (1000000 + 2)), (2, .int 3)] dX5_isWord_70 rfl rfl (by decide) rfl ?_
                  refine rr_goto dX5_isWord_73 ?_
                  refine rr_iload_n 2 rfl rfl dX5_isWord_28 ?_
                  refine rr_aload_n 1 rfl rfl dX5_isWord_29 ?_
                  refine rr_callT (As := []) (rest := [.int 3]) (kc2 := 0) (ks2 := 0) dX5_isWord_30 okJ_length lX5_44 (i9 := 2) rfl rfl rfl (Nat.le_of_ble_eq_true rfl) (Nat.le_of_ble_eq_true rfl) rfl (by omega) (by simp [jj_rk]) (by simp [jj_rk]) ?_
                  refine sp_len_2  ?_
                  show jj_R _ _ kc ks (jj_S, 782, h, g) 33 [(0, .ref 13), (1, .ref (1000000 + 2)), (2, .int 3)] [.int 6, .int 3] Q
                  refine rr_icmp_ge dX5_isWord_33 (fun c => absurd c (by decide)) (fun _ => ?_)
                  refine rr_aload_n 0 rfl rfl dX5_isWord_36 ?_
                  refine rr_getI dX5_isWord_37 fX5_34 lo_13 sh_13 rfl ?_
                  refine rr_iload_n 2 rfl rfl dX5_isWord_40 ?_
                  refine rr_iadd dX5_isWord_41 ?_
                  refine rr_aload_n 0 rfl rfl dX5_isWord_42 ?_
                  refine rr_getI dX5_isWord_43 fX5_22 lo_13 sh_13 rfl ?_
                  refine rr_icmp_ge dX5_isWord_46 (fun c9 => ?_) (fun c9 => ?_)
                  · skip
                    refine rr_iconst 1 rfl dX5_isWord_76 ?_
                    refine rr_nreturn dX5_isWord_77 rfl (by first | rfl | assumption) ?_
                    simpa only [vX5_isWord_2, if_pos c1, if_pos c2, if_neg c3, if_pos c4, if_neg c5, if_pos c6, if_neg c7, if_pos c8, if_pos c9] using kq
                  · skip
                    refine rr_aload_n 0 rfl rfl dX5_isWord_49 ?_
                    refine rr_getR dX5_isWord_50 fX5_9 lo_13 sh_13 rfl ?_
                    refine rr_aload_n 0 rfl rfl dX5_isWord_53 ?_
                    refine rr_getI dX5_isWord_54 fX5_34 lo_13 sh_13 rfl ?_
                    refine rr_iload_n 2 rfl rfl dX5_isWord_57 ?_
                    refine rr_iadd dX5_isWord_58 ?_
                    refine rr_baload dX5_isWord_59 lo_14 sh_14 (rd_at (k := 3) rfl (by decide) ho (by assumption)) ?_
                    refine rr_aload_n 1 rfl rfl dX5_isWord_60 ?_
                    refine rr_iload_n 2 rfl rfl dX5_isWord_61 ?_
                    refine rr_callT (As := [.int 3]) (rest := [.int ((h 14) ((((h 13) 6) + 3) : Int32).toNatClampNeg)]) (kc2 := 0) (ks2 := 0) dX5_isWord_62 okJ_charAt lX5_49 (i9 := 2) rfl rfl rfl (Nat.le_of_ble_eq_true rfl) (Nat.le_of_ble_eq_true rfl) rfl (by omega) (by simp [jj_rk]) (by simp [jj_rk]) ?_
                    refine sp_ch_2_3  ?_
                    show jj_R _ _ kc ks (jj_S, 782, h, g) 65 [(0, .ref 13), (1, .ref (1000000 + 2)), (2, .int 3)] [.int 101, .int ((h 14) ((((h 13) 6) + 3) : Int32).toNatClampNeg)] Q
                    refine rr_icmp_eq dX5_isWord_65 (fun c10 => ?_) (fun c10 => ?_)
                    · skip
                      refine rr_iinc 2 1 [(0, .ref 13), (1, .ref (1000000 + 2)), (2, .int 4)] dX5_isWord_70 rfl rfl (by decide) rfl ?_
                      refine rr_goto dX5_isWord_73 ?_
                      refine rr_iload_n 2 rfl rfl dX5_isWord_28 ?_
                      refine rr_aload_n 1 rfl rfl dX5_isWord_29 ?_
                      refine rr_callT (As := []) (rest := [.int 4]) (kc2 := 0) (ks2 := 0) dX5_isWord_30 okJ_length lX5_44 (i9 := 2) rfl rfl rfl (Nat.le_of_ble_eq_true rfl) (Nat.le_of_ble_eq_true rfl) rfl (by omega) (by simp [jj_rk]) (by simp [jj_rk]) ?_
                      refine sp_len_2  ?_
                      show jj_R _ _ kc ks (jj_S, 782, h, g) 33 [(0, .ref 13), (1, .ref (1000000 + 2)), (2, .int 4)] [.int 6, .int 4] Q
                      refine rr_icmp_ge dX5_isWord_33 (fun c => absurd c (by decide)) (fun _ => ?_)
                      refine rr_aload_n 0 rfl rfl dX5_isWord_36 ?_
                      refine rr_getI dX5_isWord_37 fX5_34 lo_13 sh_13 rfl ?_
                      refine rr_iload_n 2 rfl rfl dX5_isWord_40 ?_
                      refine rr_iadd dX5_isWord_41 ?_
                      refine rr_aload_n 0 rfl rfl dX5_isWord_42 ?_
                      refine rr_getI dX5_isWord_43 fX5_22 lo_13 sh_13 rfl ?_
                      refine rr_icmp_ge dX5_isWord_46 (fun c11 => ?_) (fun c11 => ?_)
                      · skip
                        refine rr_iconst 1 rfl dX5_isWord_76 ?_
                        refine rr_nreturn dX5_isWord_77 rfl (by first | rfl | assumption) ?_
                        simpa only [vX5_isWord_2, if_pos c1, if_pos c2, if_neg c3, if_pos c4, if_neg c5, if_pos c6, if_neg c7, if_pos c8, if_neg c9, if_pos c10, if_pos c11] using kq
                      · skip
                        refine rr_aload_n 0 rfl rfl dX5_isWord_49 ?_
                        refine rr_getR dX5_isWord_50 fX5_9 lo_13 sh_13 rfl ?_
                        refine rr_aload_n 0 rfl rfl dX5_isWord_53 ?_
                        refine rr_getI dX5_isWord_54 fX5_34 lo_13 sh_13 rfl ?_
                        refine rr_iload_n 2 rfl rfl dX5_isWord_57 ?_
                        refine rr_iadd dX5_isWord_58 ?_
                        refine rr_baload dX5_isWord_59 lo_14 sh_14 (rd_at (k := 4) rfl (by decide) ho (by assumption)) ?_
                        refine rr_aload_n 1 rfl rfl dX5_isWord_60 ?_
                        refine rr_iload_n 2 rfl rfl dX5_isWord_61 ?_
                        refine rr_callT (As := [.int 4]) (rest := [.int ((h 14) ((((h 13) 6) + 4) : Int32).toNatClampNeg)]) (kc2 := 0) (ks2 := 0) dX5_isWord_62 okJ_charAt lX5_49 (i9 := 2) rfl rfl rfl (Nat.le_of_ble_eq_true rfl) (Nat.le_of_ble_eq_true rfl) rfl (by omega) (by simp [jj_rk]) (by simp [jj_rk]) ?_
                        refine sp_ch_2_4  ?_
                        show jj_R _ _ kc ks (jj_S, 782, h, g) 65 [(0, .ref 13), (1, .ref (1000000 + 2)), (2, .int 4)] [.int 110, .int ((h 14) ((((h 13) 6) + 4) : Int32).toNatClampNeg)] Q
                        refine rr_icmp_eq dX5_isWord_65 (fun c12 => ?_) (fun c12 => ?_)
                        · skip
                          refine rr_iinc 2 1 [(0, .ref 13), (1, .ref (1000000 + 2)), (2, .int 5)] dX5_isWord_70 rfl rfl (by decide) rfl ?_
                          refine rr_goto dX5_isWord_73 ?_
                          refine rr_iload_n 2 rfl rfl dX5_isWord_28 ?_
                          refine rr_aload_n 1 rfl rfl dX5_isWord_29 ?_
                          refine rr_callT (As := []) (rest := [.int 5]) (kc2 := 0) (ks2 := 0) dX5_isWord_30 okJ_length lX5_44 (i9 := 2) rfl rfl rfl (Nat.le_of_ble_eq_true rfl) (Nat.le_of_ble_eq_true rfl) rfl (by omega) (by simp [jj_rk]) (by simp [jj_rk]) ?_
                          refine sp_len_2  ?_
                          show jj_R _ _ kc ks (jj_S, 782, h, g) 33 [(0, .ref 13), (1, .ref (1000000 + 2)), (2, .int 5)] [.int 6, .int 5] Q
                          refine rr_icmp_ge dX5_isWord_33 (fun c => absurd c (by decide)) (fun _ => ?_)
                          refine rr_aload_n 0 rfl rfl dX5_isWord_36 ?_
                          refine rr_getI dX5_isWord_37 fX5_34 lo_13 sh_13 rfl ?_
                          refine rr_iload_n 2 rfl rfl dX5_isWord_40 ?_
                          refine rr_iadd dX5_isWord_41 ?_
                          refine rr_aload_n 0 rfl rfl dX5_isWord_42 ?_
                          refine rr_getI dX5_isWord_43 fX5_22 lo_13 sh_13 rfl ?_
                          refine rr_icmp_ge dX5_isWord_46 (fun c13 => ?_) (fun c13 => ?_)
                          · skip
                            refine rr_iconst 1 rfl dX5_isWord_76 ?_
                            refine rr_nreturn dX5_isWord_77 rfl (by first | rfl | assumption) ?_
                            simpa only [vX5_isWord_2, if_pos c1, if_pos c2, if_neg c3, if_pos c4, if_neg c5, if_pos c6, if_neg c7, if_pos c8, if_neg c9, if_pos c10, if_neg c11, if_pos c12, if_pos c13] using kq
                          · skip
                            refine rr_aload_n 0 rfl rfl dX5_isWord_49 ?_
                            refine rr_getR dX5_isWord_50 fX5_9 lo_13 sh_13 rfl ?_
                            refine rr_aload_n 0 rfl rfl dX5_isWord_53 ?_
                            refine rr_getI dX5_isWord_54 fX5_34 lo_13 sh_13 rfl ?_
                            refine rr_iload_n 2 rfl rfl dX5_isWord_57 ?_
                            refine rr_iadd dX5_isWord_58 ?_
                            refine rr_baload dX5_isWord_59 lo_14 sh_14 (rd_at (k := 5) rfl (by decide) ho (by assumption)) ?_
                            refine rr_aload_n 1 rfl rfl dX5_isWord_60 ?_
                            refine rr_iload_n 2 rfl rfl dX5_isWord_61 ?_
                            refine rr_callT (As := [.int 5]) (rest := [.int ((h 14) ((((h 13) 6) + 5) : Int32).toNatClampNeg)]) (kc2 := 0) (ks2 := 0) dX5_isWord_62 okJ_charAt lX5_49 (i9 := 2) rfl rfl rfl (Nat.le_of_ble_eq_true rfl) (Nat.le_of_ble_eq_true rfl) rfl (by omega) (by simp [jj_rk]) (by simp [jj_rk]) ?_
                            refine sp_ch_2_5  ?_
                            show jj_R _ _ kc ks (jj_S, 782, h, g) 65 [(0, .ref 13), (1, .ref (1000000 + 2)), (2, .int 5)] [.int 100, .int ((h 14) ((((h 13) 6) + 5) : Int32).toNatClampNeg)] Q
                            refine rr_icmp_eq dX5_isWord_65 (fun c14 => ?_) (fun c14 => ?_)
                            · skip
                              refine rr_iinc 2 1 [(0, .ref 13), (1, .ref (1000000 + 2)), (2, .int 6)] dX5_isWord_70 rfl rfl (by decide) rfl ?_
                              refine rr_goto dX5_isWord_73 ?_
                              refine rr_iload_n 2 rfl rfl dX5_isWord_28 ?_
                              refine rr_aload_n 1 rfl rfl dX5_isWord_29 ?_
                              refine rr_callT (As := []) (rest := [.int 6]) (kc2 := 0) (ks2 := 0) dX5_isWord_30 okJ_length lX5_44 (i9 := 2) rfl rfl rfl (Nat.le_of_ble_eq_true rfl) (Nat.le_of_ble_eq_true rfl) rfl (by omega) (by simp [jj_rk]) (by simp [jj_rk]) ?_
                              refine sp_len_2  ?_
                              show jj_R _ _ kc ks (jj_S, 782, h, g) 33 [(0, .ref 13), (1, .ref (1000000 + 2)), (2, .int 6)] [.int 6, .int 6] Q
                              refine rr_icmp_ge dX5_isWord_33 (fun _ => ?_) (fun c => absurd (by decide) c)
                              refine rr_iconst 1 rfl dX5_isWord_76 ?_
                              refine rr_nreturn dX5_isWord_77 rfl (by first | rfl | assumption) ?_
                              simpa only [vX5_isWord_2, if_pos c1, if_pos c2, if_neg c3, if_pos c4, if_neg c5, if_pos c6, if_neg c7, if_pos c8, if_neg c9, if_pos c10, if_neg c11, if_pos c12, if_neg c13, if_pos c14] using kq
                            · skip
                              refine rr_iconst 0 rfl dX5_isWord_68 ?_
                              refine rr_nreturn dX5_isWord_69 rfl (by first | rfl | assumption) ?_
                              simpa only [vX5_isWord_2, if_pos c1, if_pos c2, if_neg c3, if_pos c4, if_neg c5, if_pos c6, if_neg c7, if_pos c8, if_neg c9, if_pos c10, if_neg c11, if_pos c12, if_neg c13, if_neg c14] using kq
                        · skip
                          refine rr_iconst 0 rfl dX5_isWord_68 ?_
                          refine rr_nreturn dX5_isWord_69 rfl (by first | rfl | assumption) ?_
                          simpa only [vX5_isWord_2, if_pos c1, if_pos c2, if_neg c3, if_pos c4, if_neg c5, if_pos c6, if_neg c7, if_pos c8, if_neg c9, if_pos c10, if_neg c11, if_neg c12] using kq
                    · skip
                      refine rr_iconst 0 rfl dX5_isWord_68 ?_
                      refine rr_nreturn dX5_isWord_69 rfl (by first | rfl | assumption) ?_
                      simpa only [vX5_isWord_2, if_pos c1, if_pos c2, if_neg c3, if_pos c4, if_neg c5, if_pos c6, if_neg c7, if_pos c8, if_neg c9, if_neg c10] using kq
                · skip
                  refine rr_iconst 0 rfl dX5_isWord_68 ?_
                  refine rr_nreturn dX5_isWord_69 rfl (by first | rfl | assumption) ?_
                  simpa only [vX5_isWord_2, if_pos c1, if_pos c2, if_neg c3, if_pos c4, if_neg c5, if_pos c6, if_neg c7, if_neg c8] using kq
            · skip
              refine rr_iconst 0 rfl dX5_isWord_68 ?_
              refine rr_nreturn dX5_isWord_69 rfl (by first | rfl | assumption) ?_
              simpa only [vX5_isWord_2, if_pos c1, if_pos c2, if_neg c3, if_pos c4, if_neg c5, if_neg c6] using kq
        · skip
          refine rr_iconst 0 rfl dX5_isWord_68 ?_
          refine rr_nreturn dX5_isWord_69 rfl (by first | rfl | assumption) ?_
          simpa only [vX5_isWord_2, if_pos c1, if_pos c2, if_neg c3, if_neg c4] using kq
    · skip
      refine rr_iconst 0 rfl dX5_isWord_24 ?_
      refine rr_nreturn dX5_isWord_25 rfl (by first | rfl | assumption) ?_
      simpa only [vX5_isWord_2, if_pos c1, if_neg c2] using kq
def vX5_isWord_3 (r13 : Nat → Int32) (r14 : Nat → Int32) : Int32 := (if (r13 4) = 2 then (if ((r13 3) - (r13 6)) = 6 then (if (r13 2) ≤ ((r13 6) + 0) then 1 else (if (r14 (((r13 6) + 0) : Int32).toNatClampNeg) = 115 then (if (r13 2) ≤ ((r13 6) + 1) then 1 else (if (r14 (((r13 6) + 1) : Int32).toNatClampNeg) = 116 then (if (r13 2) ≤ ((r13 6) + 2) then 1 else (if (r14 (((r13 6) + 2) : Int32).toNatClampNeg) = 114 then (if (r13 2) ≤ ((r13 6) + 3) then 1 else (if (r14 (((r13 6) + 3) : Int32).toNatClampNeg) = 105 then (if (r13 2) ≤ ((r13 6) + 4) then 1 else (if (r14 (((r13 6) + 4) : Int32).toNatClampNeg) = 110 then (if (r13 2) ≤ ((r13 6) + 5) then 1 else (if (r14 (((r13 6) + 5) : Int32).toNatClampNeg) = 103 then 1 else 0)) else 0)) else 0)) else 0)) else 0)) else 0)) else 0) else 0)
set_option maxHeartbeats 1000000 in
theorem sp_X5_isWord_3 {d kc ks : Nat} {h : Nat → Nat → Int32} {g : Nat → Nat → Int64} {Q : jj_Rs → jj_St → Prop}  (ho : rdat (h 13)) (kq : Q (.inl (some (.int (vX5_isWord_3 (h 13) (h 14))))) (jj_S, 782, h, g)) : jj_R mX5_isWord (d + 4) kc ks (jj_S, 782, h, g) 0 [(0, .ref 13), (1, .ref (1000000 + 3))] [] Q := by
  refine rr_aload_n 0 rfl rfl dX5_isWord_0 ?_
  refine rr_getI dX5_isWord_1 fX5_37 lo_13 sh_13 rfl ?_
  refine rr_iconst 2 rfl dX5_isWord_4 ?_
  refine rr_icmp_ne dX5_isWord_5 (fun c1 => ?_) (fun c1 => ?_)
  · skip
    refine rr_iconst 0 rfl dX5_isWord_24 ?_
    refine rr_nreturn dX5_isWord_25 rfl (by first | rfl | assumption) ?_
    simpa only [vX5_isWord_3, if_neg c1] using kq
  · skip
    refine rr_aload_n 0 rfl rfl dX5_isWord_8 ?_
    refine rr_getI dX5_isWord_9 fX5_25 lo_13 sh_13 rfl ?_
    refine rr_aload_n 0 rfl rfl dX5_isWord_12 ?_
    refine rr_getI dX5_isWord_13 fX5_34 lo_13 sh_13 rfl ?_
    refine rr_isub dX5_isWord_16 ?_
    refine rr_aload_n 1 rfl rfl dX5_isWord_17 ?_
    refine rr_callT (As := []) (rest := [.int (((h 13) 3) - ((h 13) 6))]) (kc2 := 0) (ks2 := 0) dX5_isWord_18 okJ_length lX5_44 (i9 := 3) rfl rfl rfl (Nat.le_of_ble_eq_true rfl) (Nat.le_of_ble_eq_true rfl) rfl (by omega) (by simp [jj_rk]) (by simp [jj_rk]) ?_
    refine sp_len_3  ?_
    show jj_R _ _ kc ks (jj_S, 782, h, g) 21 [(0, .ref 13), (1, .ref (1000000 + 3))] [.int 6, .int (((h 13) 3) - ((h 13) 6))] Q
    refine rr_icmp_eq dX5_isWord_21 (fun c2 => ?_) (fun c2 => ?_)
    · skip
      refine rr_iconst 0 rfl dX5_isWord_26 ?_
      refine rr_istore_n [(0, .ref 13), (1, .ref (1000000 + 3)), (2, .int 0)] dX5_isWord_27 rfl (by decide) rfl ?_
      refine rr_iload_n 2 rfl rfl dX5_isWord_28 ?_
      refine rr_aload_n 1 rfl rfl dX5_isWord_29 ?_
      refine rr_callT (As := []) (rest := [.int 0]) (kc2 := 0) (ks2 := 0) dX5_isWord_30 okJ_length lX5_44 (i9 := 3) rfl rfl rfl (Nat.le_of_ble_eq_true rfl) (Nat.le_of_ble_eq_true rfl) rfl (by omega) (by simp [jj_rk]) (by simp [jj_rk]) ?_
      refine sp_len_3  ?_
      show jj_R _ _ kc ks (jj_S, 782, h, g) 33 [(0, .ref 13), (1, .ref (1000000 + 3)), (2, .int 0)] [.int 6, .int 0] Q
      refine rr_icmp_ge dX5_isWord_33 (fun c => absurd c (by decide)) (fun _ => ?_)
      refine rr_aload_n 0 rfl rfl dX5_isWord_36 ?_
      refine rr_getI dX5_isWord_37 fX5_34 lo_13 sh_13 rfl ?_
      refine rr_iload_n 2 rfl rfl dX5_isWord_40 ?_
      refine rr_iadd dX5_isWord_41 ?_
      refine rr_aload_n 0 rfl rfl dX5_isWord_42 ?_
      refine rr_getI dX5_isWord_43 fX5_22 lo_13 sh_13 rfl ?_
      refine rr_icmp_ge dX5_isWord_46 (fun c3 => ?_) (fun c3 => ?_)
      · skip
        refine rr_iconst 1 rfl dX5_isWord_76 ?_
        refine rr_nreturn dX5_isWord_77 rfl (by first | rfl | assumption) ?_
        simpa only [vX5_isWord_3, if_pos c1, if_pos c2, if_pos c3] using kq
      · skip
        refine rr_aload_n 0 rfl rfl dX5_isWord_49 ?_
        refine rr_getR dX5_isWord_50 fX5_9 lo_13 sh_13 rfl ?_
        refine rr_aload_n 0 rfl rfl dX5_isWord_53 ?_
        refine rr_getI dX5_isWord_54 fX5_34 lo_13 sh_13 rfl ?_
        refine rr_iload_n 2 rfl rfl dX5_isWord_57 ?_
        refine rr_iadd dX5_isWord_58 ?_
        refine rr_baload dX5_isWord_59 lo_14 sh_14 (rd_at (k := 0) rfl (by decide) ho (by assumption)) ?_
        refine rr_aload_n 1 rfl rfl dX5_isWord_60 ?_
        refine rr_iload_n 2 rfl rfl dX5_isWord_61 ?_
        refine rr_callT (As := [.int 0]) (rest := [.int ((h 14) ((((h 13) 6) + 0) : Int32).toNatClampNeg)]) (kc2 := 0) (ks2 := 0) dX5_isWord_62 okJ_charAt lX5_49 (i9 := 3) rfl rfl rfl (Nat.le_of_ble_eq_true rfl) (Nat.le_of_ble_eq_true rfl) rfl (by omega) (by simp [jj_rk]) (by simp [jj_rk]) ?_
        refine sp_ch_3_0  ?_
        show jj_R _ _ kc ks (jj_S, 782, h, g) 65 [(0, .ref 13), (1, .ref (1000000 + 3)), (2, .int 0)] [.int 115, .int ((h 14) ((((h 13) 6) + 0) : Int32).toNatClampNeg)] Q
        refine rr_icmp_eq dX5_isWord_65 (fun c4 => ?_) (fun c4 => ?_)
        · skip
          refine rr_iinc 2 1 [(0, .ref 13), (1, .ref (1000000 + 3)), (2, .int 1)] dX5_isWord_70 rfl rfl (by decide) rfl ?_
          refine rr_goto dX5_isWord_73 ?_
          refine rr_iload_n 2 rfl rfl dX5_isWord_28 ?_
          refine rr_aload_n 1 rfl rfl dX5_isWord_29 ?_
          refine rr_callT (As := []) (rest := [.int 1]) (kc2 := 0) (ks2 := 0) dX5_isWord_30 okJ_length lX5_44 (i9 := 3) rfl rfl rfl (Nat.le_of_ble_eq_true rfl) (Nat.le_of_ble_eq_true rfl) rfl (by omega) (by simp [jj_rk]) (by simp [jj_rk]) ?_
          refine sp_len_3  ?_
          show jj_R _ _ kc ks (jj_S, 782, h, g) 33 [(0, .ref 13), (1, .ref (1000000 + 3)), (2, .int 1)] [.int 6, .int 1] Q
          refine rr_icmp_ge dX5_isWord_33 (fun c => absurd c (by decide)) (fun _ => ?_)
          refine rr_aload_n 0 rfl rfl dX5_isWord_36 ?_
          refine rr_getI dX5_isWord_37 fX5_34 lo_13 sh_13 rfl ?_
          refine rr_iload_n 2 rfl rfl dX5_isWord_40 ?_
          refine rr_iadd dX5_isWord_41 ?_
          refine rr_aload_n 0 rfl rfl dX5_isWord_42 ?_
          refine rr_getI dX5_isWord_43 fX5_22 lo_13 sh_13 rfl ?_
          refine rr_icmp_ge dX5_isWord_46 (fun c5 => ?_) (fun c5 => ?_)
          · skip
            refine rr_iconst 1 rfl dX5_isWord_76 ?_
            refine rr_nreturn dX5_isWord_77 rfl (by first | rfl | assumption) ?_
            simpa only [vX5_isWord_3, if_pos c1, if_pos c2, if_neg c3, if_pos c4, if_pos c5] using kq
          · skip
            refine rr_aload_n 0 rfl rfl dX5_isWord_49 ?_
            refine rr_getR dX5_isWord_50 fX5_9 lo_13 sh_13 rfl ?_
            refine rr_aload_n 0 rfl rfl dX5_isWord_53 ?_
            refine rr_getI dX5_isWord_54 fX5_34 lo_13 sh_13 rfl ?_
            refine rr_iload_n 2 rfl rfl dX5_isWord_57 ?_
            refine rr_iadd dX5_isWord_58 ?_
            refine rr_baload dX5_isWord_59 lo_14 sh_14 (rd_at (k := 1) rfl (by decide) ho (by assumption)) ?_
            refine rr_aload_n 1 rfl rfl dX5_isWord_60 ?_
            refine rr_iload_n 2 rfl rfl dX5_isWord_61 ?_
            refine rr_callT (As := [.int 1]) (rest := [.int ((h 14) ((((h 13) 6) + 1) : Int32).toNatClampNeg)]) (kc2 := 0) (ks2 := 0) dX5_isWord_62 okJ_charAt lX5_49 (i9 := 3) rfl rfl rfl (Nat.le_of_ble_eq_true rfl) (Nat.le_of_ble_eq_true rfl) rfl (by omega) (by simp [jj_rk]) (by simp [jj_rk]) ?_
            refine sp_ch_3_1  ?_
            show jj_R _ _ kc ks (jj_S, 782, h, g) 65 [(0, .ref 13), (1, .ref (1000000 + 3)), (2, .int 1)] [.int 116, .int ((h 14) ((((h 13) 6) + 1) : Int32).toNatClampNeg)] Q
            refine rr_icmp_eq dX5_isWord_65 (fun c6 => ?_) (fun c6 => ?_)
            · skip
              refine rr_iinc 2 1 [(0, .ref 13), (1, .ref (1000000 + 3)), (2, .int 2)] dX5_isWord_70 rfl rfl (by decide) rfl ?_
              refine rr_goto dX5_isWord_73 ?_
              refine rr_iload_n 2 rfl rfl dX5_isWord_28 ?_
              refine rr_aload_n 1 rfl rfl dX5_isWord_29 ?_
              refine rr_callT (As := []) (rest := [.int 2]) (kc2 := 0) (ks2 := 0) dX5_isWord_30 okJ_length lX5_44 (i9 := 3) rfl rfl rfl (Nat.le_of_ble_eq_true rfl) (Nat.le_of_ble_eq_true rfl) rfl (by omega) (by simp [jj_rk]) (by simp [jj_rk]) ?_
              refine sp_len_3  ?_
              show jj_R _ _ kc ks (jj_S, 782, h, g) 33 [(0, .ref 13), (1, .ref (1000000 + 3)), (2, .int 2)] [.int 6, .int 2] Q
              refine rr_icmp_ge dX5_isWord_33 (fun c => absurd c (by decide)) (fun _ => ?_)
              refine rr_aload_n 0 rfl rfl dX5_isWord_36 ?_
              refine rr_getI dX5_isWord_37 fX5_34 lo_13 sh_13 rfl ?_
              refine rr_iload_n 2 rfl rfl dX5_isWord_40 ?_
              refine rr_iadd dX5_isWord_41 ?_
              refine rr_aload_n 0 rfl rfl dX5_isWord_42 ?_
              refine rr_getI dX5_isWord_43 fX5_22 lo_13 sh_13 rfl ?_
              refine rr_icmp_ge dX5_isWord_46 (fun c7 => ?_) (fun c7 => ?_)
              · skip
                refine rr_iconst 1 rfl dX5_isWord_76 ?_
                refine rr_nreturn dX5_isWord_77 rfl (by first | rfl | assumption) ?_
                simpa only [vX5_isWord_3, if_pos c1, if_pos c2, if_neg c3, if_pos c4, if_neg c5, if_pos c6, if_pos c7] using kq
              · skip
                refine rr_aload_n 0 rfl rfl dX5_isWord_49 ?_
                refine rr_getR dX5_isWord_50 fX5_9 lo_13 sh_13 rfl ?_
                refine rr_aload_n 0 rfl rfl dX5_isWord_53 ?_
                refine rr_getI dX5_isWord_54 fX5_34 lo_13 sh_13 rfl ?_
                refine rr_iload_n 2 rfl rfl dX5_isWord_57 ?_
                refine rr_iadd dX5_isWord_58 ?_
                refine rr_baload dX5_isWord_59 lo_14 sh_14 (rd_at (k := 2) rfl (by decide) ho (by assumption)) ?_
                refine rr_aload_n 1 rfl rfl dX5_isWord_60 ?_
                refine rr_iload_n 2 rfl rfl dX5_isWord_61 ?_
                refine rr_callT (As := [.int 2]) (rest := [.int ((h 14) ((((h 13) 6) + 2) : Int32).toNatClampNeg)]) (kc2 := 0) (ks2 := 0) dX5_isWord_62 okJ_charAt lX5_49 (i9 := 3) rfl rfl rfl (Nat.le_of_ble_eq_true rfl) (Nat.le_of_ble_eq_true rfl) rfl (by omega) (by simp [jj_rk]) (by simp [jj_rk]) ?_
                refine sp_ch_3_2  ?_
                show jj_R _ _ kc ks (jj_S, 782, h, g) 65 [(0, .ref 13), (1, .ref (1000000 + 3)), (2, .int 2)] [.int 114, .int ((h 14) ((((h 13) 6) + 2) : Int32).toNatClampNeg)] Q
                refine rr_icmp_eq dX5_isWord_65 (fun c8 => ?_) (fun c8 => ?_)
                · skip
                  refine rr_iinc 2 1 [(0, .ref 13), (1, .ref (1000000 + 3)), (2, .int 3)] dX5_isWord_70 rfl rfl (by decide) rfl ?_
                  refine rr_goto dX5_isWord_73 ?_
                  refine rr_iload_n 2 rfl rfl dX5_isWord_28 ?_
                  refine rr_aload_n 1 rfl rfl dX5_isWord_29 ?_
                  refine rr_callT (As := []) (rest := [.int 3]) (kc2 := 0) (ks2 := 0) dX5_isWord_30 okJ_length lX5_44 (i9 := 3) rfl rfl rfl (Nat.le_of_ble_eq_true rfl) (Nat.le_of_ble_eq_true rfl) rfl (by omega) (by simp [jj_rk]) (by simp [jj_rk]) ?_
                  refine sp_len_3  ?_
                  show jj_R _ _ kc ks (jj_S, 782, h, g) 33 [(0, .ref 13), (1, .ref (1000000 + 3)), (2, .int 3)] [.int 6, .int 3] Q
                  refine rr_icmp_ge dX5_isWord_33 (fun c => absurd c (by decide)) (fun _ => ?_)
                  refine rr_aload_n 0 rfl rfl dX5_isWord_36 ?_
                  refine rr_getI dX5_isWord_37 fX5_34 lo_13 sh_13 rfl ?_
                  refine rr_iload_n 2 rfl rfl dX5_isWord_40 ?_
                  refine rr_iadd dX5_isWord_41 ?_
                  refine rr_aload_n 0 rfl rfl dX5_isWord_42 ?_
                  refine rr_getI dX5_isWord_43 fX5_22 lo_13 sh_13 rfl ?_
                  refine rr_icmp_ge dX5_isWord_46 (fun c9 => ?_) (fun c9 => ?_)
                  · skip
                    refine rr_iconst 1 rfl dX5_isWord_76 ?_
                    refine rr_nreturn dX5_isWord_77 rfl (by first | rfl | assumption) ?_
                    simpa only [vX5_isWord_3, if_pos c1, if_pos c2, if_neg c3, if_pos c4, if_neg c5, if_pos c6, if_neg c7, if_pos c8, if_pos c9] using kq
                  · skip
                    refine rr_aload_n 0 rfl rfl dX5_isWord_49 ?_
                    refine rr_getR dX5_isWord_50 fX5_9 lo_13 sh_13 rfl ?_
                    refine rr_aload_n 0 rfl rfl dX5_isWord_53 ?_
                    refine rr_getI dX5_isWord_54 fX5_34 lo_13 sh_13 rfl ?_
                    refine rr_iload_n 2 rfl rfl dX5_isWord_57 ?_
                    refine rr_iadd dX5_isWord_58 ?_
                    refine rr_baload dX5_isWord_59 lo_14 sh_14 (rd_at (k := 3) rfl (by decide) ho (by assumption)) ?_
                    refine rr_aload_n 1 rfl rfl dX5_isWord_60 ?_
                    refine rr_iload_n 2 rfl rfl dX5_isWord_61 ?_
                    refine rr_callT (As := [.int 3]) (rest := [.int ((h 14) ((((h 13) 6) + 3) : Int32).toNatClampNeg)]) (kc2 := 0) (ks2 := 0) dX5_isWord_62 okJ_charAt lX5_49 (i9 := 3) rfl rfl rfl (Nat.le_of_ble_eq_true rfl) (Nat.le_of_ble_eq_true rfl) rfl (by omega) (by simp [jj_rk]) (by simp [jj_rk]) ?_
                    refine sp_ch_3_3  ?_
                    show jj_R _ _ kc ks (jj_S, 782, h, g) 65 [(0, .ref 13), (1, .ref (1000000 + 3)), (2, .int 3)] [.int 105, .int ((h 14) ((((h 13) 6) + 3) : Int32).toNatClampNeg)] Q
                    refine rr_icmp_eq dX5_isWord_65 (fun c10 => ?_) (fun c10 => ?_)
                    · skip
                      refine rr_iinc 2 1 [(0, .ref 13), (1, .ref (1000000 + 3)), (2, .int 4)] dX5_isWord_70 rfl rfl (by decide) rfl ?_
                      refine rr_goto dX5_isWord_73 ?_
                      refine rr_iload_n 2 rfl rfl dX5_isWord_28 ?_
                      refine rr_aload_n 1 rfl rfl dX5_isWord_29 ?_
                      refine rr_callT (As := []) (rest := [.int 4]) (kc2 := 0) (ks2 := 0) dX5_isWord_30 okJ_length lX5_44 (i9 := 3) rfl rfl rfl (Nat.le_of_ble_eq_true rfl) (Nat.le_of_ble_eq_true rfl) rfl (by omega) (by simp [jj_rk]) (by simp [jj_rk]) ?_
                      refine sp_len_3  ?_
                      show jj_R _ _ kc ks (jj_S, 782, h, g) 33 [(0, .ref 13), (1, .ref (1000000 + 3)), (2, .int 4)] [.int 6, .int 4] Q
                      refine rr_icmp_ge dX5_isWord_33 (fun c => absurd c (by decide)) (fun _ => ?_)
                      refine rr_aload_n 0 rfl rfl dX5_isWord_36 ?_
                      refine rr_getI dX5_isWord_37 fX5_34 lo_13 sh_13 rfl ?_
                      refine rr_iload_n 2 rfl rfl dX5_isWord_40 ?_
                      refine rr_iadd dX5_isWord_41 ?_
                      refine rr_aload_n 0 rfl rfl dX5_isWord_42 ?_
                      refine rr_getI dX5_isWord_43 fX5_22 lo_13 sh_13 rfl ?_
                      refine rr_icmp_ge dX5_isWord_46 (fun c11 => ?_) (fun c11 => ?_)
                      · skip
                        refine rr_iconst 1 rfl dX5_isWord_76 ?_
                        refine rr_nreturn dX5_isWord_77 rfl (by first | rfl | assumption) ?_
                        simpa only [vX5_isWord_3, if_pos c1, if_pos c2, if_neg c3, if_pos c4, if_neg c5, if_pos c6, if_neg c7, if_pos c8, if_neg c9, if_pos c10, if_pos c11] using kq
                      · skip
                        refine rr_aload_n 0 rfl rfl dX5_isWord_49 ?_
                        refine rr_getR dX5_isWord_50 fX5_9 lo_13 sh_13 rfl ?_
                        refine rr_aload_n 0 rfl rfl dX5_isWord_53 ?_
                        refine rr_getI dX5_isWord_54 fX5_34 lo_13 sh_13 rfl ?_
                        refine rr_iload_n 2 rfl rfl dX5_isWord_57 ?_
                        refine rr_iadd dX5_isWord_58 ?_
                        refine rr_baload dX5_isWord_59 lo_14 sh_14 (rd_at (k := 4) rfl (by decide) ho (by assumption)) ?_
                        refine rr_aload_n 1 rfl rfl dX5_isWord_60 ?_
                        refine rr_iload_n 2 rfl rfl dX5_isWord_61 ?_
                        refine rr_callT (As := [.int 4]) (rest := [.int ((h 14) ((((h 13) 6) + 4) : Int32).toNatClampNeg)]) (kc2 := 0) (ks2 := 0) dX5_isWord_62 okJ_charAt lX5_49 (i9 := 3) rfl rfl rfl (Nat.le_of_ble_eq_true rfl) (Nat.le_of_ble_eq_true rfl) rfl (by omega) (by simp [jj_rk]) (by simp [jj_rk]) ?_
                        refine sp_ch_3_4  ?_
                        show jj_R _ _ kc ks (jj_S, 782, h, g) 65 [(0, .ref 13), (1, .ref (1000000 + 3)), (2, .int 4)] [.int 110, .int ((h 14) ((((h 13) 6) + 4) : Int32).toNatClampNeg)] Q
                        refine rr_icmp_eq dX5_isWord_65 (fun c12 => ?_) (fun c12 => ?_)
                        · skip
                          refine rr_iinc 2 1 [(0, .ref 13), (1, .ref (1000000 + 3)), (2, .int 5)] dX5_isWord_70 rfl rfl (by decide) rfl ?_
                          refine rr_goto dX5_isWord_73 ?_
                          refine rr_iload_n 2 rfl rfl dX5_isWord_28 ?_
                          refine rr_aload_n 1 rfl rfl dX5_isWord_29 ?_
                          refine rr_callT (As := []) (rest := [.int 5]) (kc2 := 0) (ks2 := 0) dX5_isWord_30 okJ_length lX5_44 (i9 := 3) rfl rfl rfl (Nat.le_of_ble_eq_true rfl) (Nat.le_of_ble_eq_true rfl) rfl (by omega) (by simp [jj_rk]) (by simp [jj_rk]) ?_
                          refine sp_len_3  ?_
                          show jj_R _ _ kc ks (jj_S, 782, h, g) 33 [(0, .ref 13), (1, .ref (1000000 + 3)), (2, .int 5)] [.int 6, .int 5] Q
                          refine rr_icmp_ge dX5_isWord_33 (fun c => absurd c (by decide)) (fun _ => ?_)
                          refine rr_aload_n 0 rfl rfl dX5_isWord_36 ?_
                          refine rr_getI dX5_isWord_37 fX5_34 lo_13 sh_13 rfl ?_
                          refine rr_iload_n 2 rfl rfl dX5_isWord_40 ?_
                          refine rr_iadd dX5_isWord_41 ?_
                          refine rr_aload_n 0 rfl rfl dX5_isWord_42 ?_
                          refine rr_getI dX5_isWord_43 fX5_22 lo_13 sh_13 rfl ?_
                          refine rr_icmp_ge dX5_isWord_46 (fun c13 => ?_) (fun c13 => ?_)
                          · skip
                            refine rr_iconst 1 rfl dX5_isWord_76 ?_
                            refine rr_nreturn dX5_isWord_77 rfl (by first | rfl | assumption) ?_
                            simpa only [vX5_isWord_3, if_pos c1, if_pos c2, if_neg c3, if_pos c4, if_neg c5, if_pos c6, if_neg c7, if_pos c8, if_neg c9, if_pos c10, if_neg c11, if_pos c12, if_pos c13] using kq
                          · skip
                            refine rr_aload_n 0 rfl rfl dX5_isWord_49 ?_
                            refine rr_getR dX5_isWord_50 fX5_9 lo_13 sh_13 rfl ?_
                            refine rr_aload_n 0 rfl rfl dX5_isWord_53 ?_
                            refine rr_getI dX5_isWord_54 fX5_34 lo_13 sh_13 rfl ?_
                            refine rr_iload_n 2 rfl rfl dX5_isWord_57 ?_
                            refine rr_iadd dX5_isWord_58 ?_
                            refine rr_baload dX5_isWord_59 lo_14 sh_14 (rd_at (k := 5) rfl (by decide) ho (by assumption)) ?_
                            refine rr_aload_n 1 rfl rfl dX5_isWord_60 ?_
                            refine rr_iload_n 2 rfl rfl dX5_isWord_61 ?_
                            refine rr_callT (As := [.int 5]) (rest := [.int ((h 14) ((((h 13) 6) + 5) : Int32).toNatClampNeg)]) (kc2 := 0) (ks2 := 0) dX5_isWord_62 okJ_charAt lX5_49 (i9 := 3) rfl rfl rfl (Nat.le_of_ble_eq_true rfl) (Nat.le_of_ble_eq_true rfl) rfl (by omega) (by simp [jj_rk]) (by simp [jj_rk]) ?_
                            refine sp_ch_3_5  ?_
                            show jj_R _ _ kc ks (jj_S, 782, h, g) 65 [(0, .ref 13), (1, .ref (1000000 + 3)), (2, .int 5)] [.int 103, .int ((h 14) ((((h 13) 6) + 5) : Int32).toNatClampNeg)] Q
                            refine rr_icmp_eq dX5_isWord_65 (fun c14 => ?_) (fun c14 => ?_)
                            · skip
                              refine rr_iinc 2 1 [(0, .ref 13), (1, .ref (1000000 + 3)), (2, .int 6)] dX5_isWord_70 rfl rfl (by decide) rfl ?_
                              refine rr_goto dX5_isWord_73 ?_
                              refine rr_iload_n 2 rfl rfl dX5_isWord_28 ?_
                              refine rr_aload_n 1 rfl rfl dX5_isWord_29 ?_
                              refine rr_callT (As := []) (rest := [.int 6]) (kc2 := 0) (ks2 := 0) dX5_isWord_30 okJ_length lX5_44 (i9 := 3) rfl rfl rfl (Nat.le_of_ble_eq_true rfl) (Nat.le_of_ble_eq_true rfl) rfl (by omega) (by simp [jj_rk]) (by simp [jj_rk]) ?_
                              refine sp_len_3  ?_
                              show jj_R _ _ kc ks (jj_S, 782, h, g) 33 [(0, .ref 13), (1, .ref (1000000 + 3)), (2, .int 6)] [.int 6, .int 6] Q
                              refine rr_icmp_ge dX5_isWord_33 (fun _ => ?_) (fun c => absurd (by decide) c)
                              refine rr_iconst 1 rfl dX5_isWord_76 ?_
                              refine rr_nreturn dX5_isWord_77 rfl (by first | rfl | assumption) ?_
                              simpa only [vX5_isWord_3, if_pos c1, if_pos c2, if_neg c3, if_pos c4, if_neg c5, if_pos c6, if_neg c7, if_pos c8, if_neg c9, if_pos c10, if_neg c11, if_pos c12, if_neg c13, if_pos c14] using kq
                            · skip
                              refine rr_iconst 0 rfl dX5_isWord_68 ?_
                              refine rr_nreturn dX5_isWord_69 rfl (by first | rfl | assumption) ?_
                              simpa only [vX5_isWord_3, if_pos c1, if_pos c2, if_neg c3, if_pos c4, if_neg c5, if_pos c6, if_neg c7, if_pos c8, if_neg c9, if_pos c10, if_neg c11, if_pos c12, if_neg c13, if_neg c14] using kq
                        · skip
                          refine rr_iconst 0 rfl dX5_isWord_68 ?_
                          refine rr_nreturn dX5_isWord_69 rfl (by first | rfl | assumption) ?_
                          simpa only [vX5_isWord_3, if_pos c1, if_pos c2, if_neg c3, if_pos c4, if_neg c5, if_pos c6, if_neg c7, if_pos c8, if_neg c9, if_pos c10, if_neg c11, if_neg c12] using kq
                    · skip
                      refine rr_iconst 0 rfl dX5_isWord_68 ?_
                      refine rr_nreturn dX5_isWord_69 rfl (by first | rfl | assumption) ?_
                      simpa only [vX5_isWord_3, if_pos c1, if_pos c2, if_neg c3, if_pos c4, if_neg c5, if_pos c6, if_neg c7, if_pos c8, if_neg c9, if_neg c10] using kq
                · skip
                  refine rr_iconst 0 rfl dX5_isWord_68 ?_
                  refine rr_nreturn dX5_isWord_69 rfl (by first | rfl | assumption) ?_
                  simpa only [vX5_isWord_3, if_pos c1, if_pos c2, if_neg c3, if_pos c4, if_neg c5, if_pos c6, if_neg c7, if_neg c8] using kq
            · skip
              refine rr_iconst 0 rfl dX5_isWord_68 ?_
              refine rr_nreturn dX5_isWord_69 rfl (by first | rfl | assumption) ?_
              simpa only [vX5_isWord_3, if_pos c1, if_pos c2, if_neg c3, if_pos c4, if_neg c5, if_neg c6] using kq
        · skip
          refine rr_iconst 0 rfl dX5_isWord_68 ?_
          refine rr_nreturn dX5_isWord_69 rfl (by first | rfl | assumption) ?_
          simpa only [vX5_isWord_3, if_pos c1, if_pos c2, if_neg c3, if_neg c4] using kq
    · skip
      refine rr_iconst 0 rfl dX5_isWord_24 ?_
      refine rr_nreturn dX5_isWord_25 rfl (by first | rfl | assumption) ?_
      simpa only [vX5_isWord_3, if_pos c1, if_neg c2] using kq
def vX5_isWord_4 (r13 : Nat → Int32) (r14 : Nat → Int32) : Int32 := (if (r13 4) = 2 then (if ((r13 3) - (r13 6)) = 7 then (if (r13 2) ≤ ((r13 6) + 0) then 1 else (if (r14 (((r13 6) + 0) : Int32).toNatClampNeg) = 102 then (if (r13 2) ≤ ((r13 6) + 1) then 1 else (if (r14 (((r13 6) + 1) : Int32).toNatClampNeg) = 105 then (if (r13 2) ≤ ((r13 6) + 2) then 1 else (if (r14 (((r13 6) + 2) : Int32).toNatClampNeg) = 110 then (if (r13 2) ≤ ((r13 6) + 3) then 1 else (if (r14 (((r13 6) + 3) : Int32).toNatClampNeg) = 103 then (if (r13 2) ≤ ((r13 6) + 4) then 1 else (if (r14 (((r13 6) + 4) : Int32).toNatClampNeg) = 101 then (if (r13 2) ≤ ((r13 6) + 5) then 1 else (if (r14 (((r13 6) + 5) : Int32).toNatClampNeg) = 114 then (if (r13 2) ≤ ((r13 6) + 6) then 1 else (if (r14 (((r13 6) + 6) : Int32).toNatClampNeg) = 115 then 1 else 0)) else 0)) else 0)) else 0)) else 0)) else 0)) else 0)) else 0) else 0)
set_option maxHeartbeats 1000000 in
theorem sp_X5_isWord_4 {d kc ks : Nat} {h : Nat → Nat → Int32} {g : Nat → Nat → Int64} {Q : jj_Rs → jj_St → Prop}  (ho : rdat (h 13)) (kq : Q (.inl (some (.int (vX5_isWord_4 (h 13) (h 14))))) (jj_S, 782, h, g)) : jj_R mX5_isWord (d + 4) kc ks (jj_S, 782, h, g) 0 [(0, .ref 13), (1, .ref (1000000 + 4))] [] Q := by
  refine rr_aload_n 0 rfl rfl dX5_isWord_0 ?_
  refine rr_getI dX5_isWord_1 fX5_37 lo_13 sh_13 rfl ?_
  refine rr_iconst 2 rfl dX5_isWord_4 ?_
  refine rr_icmp_ne dX5_isWord_5 (fun c1 => ?_) (fun c1 => ?_)
  · skip
    refine rr_iconst 0 rfl dX5_isWord_24 ?_
    refine rr_nreturn dX5_isWord_25 rfl (by first | rfl | assumption) ?_
    simpa only [vX5_isWord_4, if_neg c1] using kq
  · skip
    refine rr_aload_n 0 rfl rfl dX5_isWord_8 ?_
    refine rr_getI dX5_isWord_9 fX5_25 lo_13 sh_13 rfl ?_
    refine rr_aload_n 0 rfl rfl dX5_isWord_12 ?_
    refine rr_getI dX5_isWord_13 fX5_34 lo_13 sh_13 rfl ?_
    refine rr_isub dX5_isWord_16 ?_
    refine rr_aload_n 1 rfl rfl dX5_isWord_17 ?_
    refine rr_callT (As := []) (rest := [.int (((h 13) 3) - ((h 13) 6))]) (kc2 := 0) (ks2 := 0) dX5_isWord_18 okJ_length lX5_44 (i9 := 4) rfl rfl rfl (Nat.le_of_ble_eq_true rfl) (Nat.le_of_ble_eq_true rfl) rfl (by omega) (by simp [jj_rk]) (by simp [jj_rk]) ?_
    refine sp_len_4  ?_
    show jj_R _ _ kc ks (jj_S, 782, h, g) 21 [(0, .ref 13), (1, .ref (1000000 + 4))] [.int 7, .int (((h 13) 3) - ((h 13) 6))] Q
    refine rr_icmp_eq dX5_isWord_21 (fun c2 => ?_) (fun c2 => ?_)
    · skip
      refine rr_iconst 0 rfl dX5_isWord_26 ?_
      refine rr_istore_n [(0, .ref 13), (1, .ref (1000000 + 4)), (2, .int 0)] dX5_isWord_27 rfl (by decide) rfl ?_
      refine rr_iload_n 2 rfl rfl dX5_isWord_28 ?_
      refine rr_aload_n 1 rfl rfl dX5_isWord_29 ?_
      refine rr_callT (As := []) (rest := [.int 0]) (kc2 := 0) (ks2 := 0) dX5_isWord_30 okJ_length lX5_44 (i9 := 4) rfl rfl rfl (Nat.le_of_ble_eq_true rfl) (Nat.le_of_ble_eq_true rfl) rfl (by omega) (by simp [jj_rk]) (by simp [jj_rk]) ?_
      refine sp_len_4  ?_
      show jj_R _ _ kc ks (jj_S, 782, h, g) 33 [(0, .ref 13), (1, .ref (1000000 + 4)), (2, .int 0)] [.int 7, .int 0] Q
      refine rr_icmp_ge dX5_isWord_33 (fun c => absurd c (by decide)) (fun _ => ?_)
      refine rr_aload_n 0 rfl rfl dX5_isWord_36 ?_
      refine rr_getI dX5_isWord_37 fX5_34 lo_13 sh_13 rfl ?_
      refine rr_iload_n 2 rfl rfl dX5_isWord_40 ?_
      refine rr_iadd dX5_isWord_41 ?_
      refine rr_aload_n 0 rfl rfl dX5_isWord_42 ?_
      refine rr_getI dX5_isWord_43 fX5_22 lo_13 sh_13 rfl ?_
      refine rr_icmp_ge dX5_isWord_46 (fun c3 => ?_) (fun c3 => ?_)
      · skip
        refine rr_iconst 1 rfl dX5_isWord_76 ?_
        refine rr_nreturn dX5_isWord_77 rfl (by first | rfl | assumption) ?_
        simpa only [vX5_isWord_4, if_pos c1, if_pos c2, if_pos c3] using kq
      · skip
        refine rr_aload_n 0 rfl rfl dX5_isWord_49 ?_
        refine rr_getR dX5_isWord_50 fX5_9 lo_13 sh_13 rfl ?_
        refine rr_aload_n 0 rfl rfl dX5_isWord_53 ?_
        refine rr_getI dX5_isWord_54 fX5_34 lo_13 sh_13 rfl ?_
        refine rr_iload_n 2 rfl rfl dX5_isWord_57 ?_
        refine rr_iadd dX5_isWord_58 ?_
        refine rr_baload dX5_isWord_59 lo_14 sh_14 (rd_at (k := 0) rfl (by decide) ho (by assumption)) ?_
        refine rr_aload_n 1 rfl rfl dX5_isWord_60 ?_
        refine rr_iload_n 2 rfl rfl dX5_isWord_61 ?_
        refine rr_callT (As := [.int 0]) (rest := [.int ((h 14) ((((h 13) 6) + 0) : Int32).toNatClampNeg)]) (kc2 := 0) (ks2 := 0) dX5_isWord_62 okJ_charAt lX5_49 (i9 := 4) rfl rfl rfl (Nat.le_of_ble_eq_true rfl) (Nat.le_of_ble_eq_true rfl) rfl (by omega) (by simp [jj_rk]) (by simp [jj_rk]) ?_
        refine sp_ch_4_0  ?_
        show jj_R _ _ kc ks (jj_S, 782, h, g) 65 [(0, .ref 13), (1, .ref (1000000 + 4)), (2, .int 0)] [.int 102, .int ((h 14) ((((h 13) 6) + 0) : Int32).toNatClampNeg)] Q
        refine rr_icmp_eq dX5_isWord_65 (fun c4 => ?_) (fun c4 => ?_)
        · skip
          refine rr_iinc 2 1 [(0, .ref 13), (1, .ref (1000000 + 4)), (2, .int 1)] dX5_isWord_70 rfl rfl (by decide) rfl ?_
          refine rr_goto dX5_isWord_73 ?_
          refine rr_iload_n 2 rfl rfl dX5_isWord_28 ?_
          refine rr_aload_n 1 rfl rfl dX5_isWord_29 ?_
          refine rr_callT (As := []) (rest := [.int 1]) (kc2 := 0) (ks2 := 0) dX5_isWord_30 okJ_length lX5_44 (i9 := 4) rfl rfl rfl (Nat.le_of_ble_eq_true rfl) (Nat.le_of_ble_eq_true rfl) rfl (by omega) (by simp [jj_rk]) (by simp [jj_rk]) ?_
          refine sp_len_4  ?_
          show jj_R _ _ kc ks (jj_S, 782, h, g) 33 [(0, .ref 13), (1, .ref (1000000 + 4)), (2, .int 1)] [.int 7, .int 1] Q
          refine rr_icmp_ge dX5_isWord_33 (fun c => absurd c (by decide)) (fun _ => ?_)
          refine rr_aload_n 0 rfl rfl dX5_isWord_36 ?_
          refine rr_getI dX5_isWord_37 fX5_34 lo_13 sh_13 rfl ?_
          refine rr_iload_n 2 rfl rfl dX5_isWord_40 ?_
          refine rr_iadd dX5_isWord_41 ?_
          refine rr_aload_n 0 rfl rfl dX5_isWord_42 ?_
          refine rr_getI dX5_isWord_43 fX5_22 lo_13 sh_13 rfl ?_
          refine rr_icmp_ge dX5_isWord_46 (fun c5 => ?_) (fun c5 => ?_)
          · skip
            refine rr_iconst 1 rfl dX5_isWord_76 ?_
            refine rr_nreturn dX5_isWord_77 rfl (by first | rfl | assumption) ?_
            simpa only [vX5_isWord_4, if_pos c1, if_pos c2, if_neg c3, if_pos c4, if_pos c5] using kq
          · skip
            refine rr_aload_n 0 rfl rfl dX5_isWord_49 ?_
            refine rr_getR dX5_isWord_50 fX5_9 lo_13 sh_13 rfl ?_
            refine rr_aload_n 0 rfl rfl dX5_isWord_53 ?_
            refine rr_getI dX5_isWord_54 fX5_34 lo_13 sh_13 rfl ?_
            refine rr_iload_n 2 rfl rfl dX5_isWord_57 ?_
            refine rr_iadd dX5_isWord_58 ?_
            refine rr_baload dX5_isWord_59 lo_14 sh_14 (rd_at (k := 1) rfl (by decide) ho (by assumption)) ?_
            refine rr_aload_n 1 rfl rfl dX5_isWord_60 ?_
            refine rr_iload_n 2 rfl rfl dX5_isWord_61 ?_
            refine rr_callT (As := [.int 1]) (rest := [.int ((h 14) ((((h 13) 6) + 1) : Int32).toNatClampNeg)]) (kc2 := 0) (ks2 := 0) dX5_isWord_62 okJ_charAt lX5_49 (i9 := 4) rfl rfl rfl (Nat.le_of_ble_eq_true rfl) (Nat.le_of_ble_eq_true rfl) rfl (by omega) (by simp [jj_rk]) (by simp [jj_rk]) ?_
            refine sp_ch_4_1  ?_
            show jj_R _ _ kc ks (jj_S, 782, h, g) 65 [(0, .ref 13), (1, .ref (1000000 + 4)), (2, .int 1)] [.int 105, .int ((h 14) ((((h 13) 6) + 1) : Int32).toNatClampNeg)] Q
            refine rr_icmp_eq dX5_isWord_65 (fun c6 => ?_) (fun c6 => ?_)
            · skip
              refine rr_iinc 2 1 [(0, .ref 13), (1, .ref (1000000 + 4)), (2, .int 2)] dX5_isWord_70 rfl rfl (by decide) rfl ?_
              refine rr_goto dX5_isWord_73 ?_
              refine rr_iload_n 2 rfl rfl dX5_isWord_28 ?_
              refine rr_aload_n 1 rfl rfl dX5_isWord_29 ?_
              refine rr_callT (As := []) (rest := [.int 2]) (kc2 := 0) (ks2 := 0) dX5_isWord_30 okJ_length lX5_44 (i9 := 4) rfl rfl rfl (Nat.le_of_ble_eq_true rfl) (Nat.le_of_ble_eq_true rfl) rfl (by omega) (by simp [jj_rk]) (by simp [jj_rk]) ?_
              refine sp_len_4  ?_
              show jj_R _ _ kc ks (jj_S, 782, h, g) 33 [(0, .ref 13), (1, .ref (1000000 + 4)), (2, .int 2)] [.int 7, .int 2] Q
              refine rr_icmp_ge dX5_isWord_33 (fun c => absurd c (by decide)) (fun _ => ?_)
              refine rr_aload_n 0 rfl rfl dX5_isWord_36 ?_
              refine rr_getI dX5_isWord_37 fX5_34 lo_13 sh_13 rfl ?_
              refine rr_iload_n 2 rfl rfl dX5_isWord_40 ?_
              refine rr_iadd dX5_isWord_41 ?_
              refine rr_aload_n 0 rfl rfl dX5_isWord_42 ?_
              refine rr_getI dX5_isWord_43 fX5_22 lo_13 sh_13 rfl ?_
              refine rr_icmp_ge dX5_isWord_46 (fun c7 => ?_) (fun c7 => ?_)
              · skip
                refine rr_iconst 1 rfl dX5_isWord_76 ?_
                refine rr_nreturn dX5_isWord_77 rfl (by first | rfl | assumption) ?_
                simpa only [vX5_isWord_4, if_pos c1, if_pos c2, if_neg c3, if_pos c4, if_neg c5, if_pos c6, if_pos c7] using kq
              · skip
                refine rr_aload_n 0 rfl rfl dX5_isWord_49 ?_
                refine rr_getR dX5_isWord_50 fX5_9 lo_13 sh_13 rfl ?_
                refine rr_aload_n 0 rfl rfl dX5_isWord_53 ?_
                refine rr_getI dX5_isWord_54 fX5_34 lo_13 sh_13 rfl ?_
                refine rr_iload_n 2 rfl rfl dX5_isWord_57 ?_
                refine rr_iadd dX5_isWord_58 ?_
                refine rr_baload dX5_isWord_59 lo_14 sh_14 (rd_at (k := 2) rfl (by decide) ho (by assumption)) ?_
                refine rr_aload_n 1 rfl rfl dX5_isWord_60 ?_
                refine rr_iload_n 2 rfl rfl dX5_isWord_61 ?_
                refine rr_callT (As := [.int 2]) (rest := [.int ((h 14) ((((h 13) 6) + 2) : Int32).toNatClampNeg)]) (kc2 := 0) (ks2 := 0) dX5_isWord_62 okJ_charAt lX5_49 (i9 := 4) rfl rfl rfl (Nat.le_of_ble_eq_true rfl) (Nat.le_of_ble_eq_true rfl) rfl (by omega) (by simp [jj_rk]) (by simp [jj_rk]) ?_
                refine sp_ch_4_2  ?_
                show jj_R _ _ kc ks (jj_S, 782, h, g) 65 [(0, .ref 13), (1, .ref (1000000 + 4)), (2, .int 2)] [.int 110, .int ((h 14) ((((h 13) 6) + 2) : Int32).toNatClampNeg)] Q
                refine rr_icmp_eq dX5_isWord_65 (fun c8 => ?_) (fun c8 => ?_)
                · skip
                  refine rr_iinc 2 1 [(0, .ref 13), (1, .ref (1000000 + 4)), (2, .int 3)] dX5_isWord_70 rfl rfl (by decide) rfl ?_
                  refine rr_goto dX5_isWord_73 ?_
                  refine rr_iload_n 2 rfl rfl dX5_isWord_28 ?_
                  refine rr_aload_n 1 rfl rfl dX5_isWord_29 ?_
                  refine rr_callT (As := []) (rest := [.int 3]) (kc2 := 0) (ks2 := 0) dX5_isWord_30 okJ_length lX5_44 (i9 := 4) rfl rfl rfl (Nat.le_of_ble_eq_true rfl) (Nat.le_of_ble_eq_true rfl) rfl (by omega) (by simp [jj_rk]) (by simp [jj_rk]) ?_
                  refine sp_len_4  ?_
                  show jj_R _ _ kc ks (jj_S, 782, h, g) 33 [(0, .ref 13), (1, .ref (1000000 + 4)), (2, .int 3)] [.int 7, .int 3] Q
                  refine rr_icmp_ge dX5_isWord_33 (fun c => absurd c (by decide)) (fun _ => ?_)
                  refine rr_aload_n 0 rfl rfl dX5_isWord_36 ?_
                  refine rr_getI dX5_isWord_37 fX5_34 lo_13 sh_13 rfl ?_
                  refine rr_iload_n 2 rfl rfl dX5_isWord_40 ?_
                  refine rr_iadd dX5_isWord_41 ?_
                  refine rr_aload_n 0 rfl rfl dX5_isWord_42 ?_
                  refine rr_getI dX5_isWord_43 fX5_22 lo_13 sh_13 rfl ?_
                  refine rr_icmp_ge dX5_isWord_46 (fun c9 => ?_) (fun c9 => ?_)
                  · skip
                    refine rr_iconst 1 rfl dX5_isWord_76 ?_
                    refine rr_nreturn dX5_isWord_77 rfl (by first | rfl | assumption) ?_
                    simpa only [vX5_isWord_4, if_pos c1, if_pos c2, if_neg c3, if_pos c4, if_neg c5, if_pos c6, if_neg c7, if_pos c8, if_pos c9] using kq
                  · skip
                    refine rr_aload_n 0 rfl rfl dX5_isWord_49 ?_
                    refine rr_getR dX5_isWord_50 fX5_9 lo_13 sh_13 rfl ?_
                    refine rr_aload_n 0 rfl rfl dX5_isWord_53 ?_
                    refine rr_getI dX5_isWord_54 fX5_34 lo_13 sh_13 rfl ?_
                    refine rr_iload_n 2 rfl rfl dX5_isWord_57 ?_
                    refine rr_iadd dX5_isWord_58 ?_
                    refine rr_baload dX5_isWord_59 lo_14 sh_14 (rd_at (k := 3) rfl (by decide) ho (by assumption)) ?_
                    refine rr_aload_n 1 rfl rfl dX5_isWord_60 ?_
                    refine rr_iload_n 2 rfl rfl dX5_isWord_61 ?_
                    refine rr_callT (As := [.int 3]) (rest := [.int ((h 14) ((((h 13) 6) + 3) : Int32).toNatClampNeg)]) (kc2 := 0) (ks2 := 0) dX5_isWord_62 okJ_charAt lX5_49 (i9 := 4) rfl rfl rfl (Nat.le_of_ble_eq_true rfl) (Nat.le_of_ble_eq_true rfl) rfl (by omega) (by simp [jj_rk]) (by simp [jj_rk]) ?_
                    refine sp_ch_4_3  ?_
                    show jj_R _ _ kc ks (jj_S, 782, h, g) 65 [(0, .ref 13), (1, .ref (1000000 + 4)), (2, .int 3)] [.int 103, .int ((h 14) ((((h 13) 6) + 3) : Int32).toNatClampNeg)] Q
                    refine rr_icmp_eq dX5_isWord_65 (fun c10 => ?_) (fun c10 => ?_)
                    · skip
                      refine rr_iinc 2 1 [(0, .ref 13), (1, .ref (1000000 + 4)), (2, .int 4)] dX5_isWord_70 rfl rfl (by decide) rfl ?_
                      refine rr_goto dX5_isWord_73 ?_
                      refine rr_iload_n 2 rfl rfl dX5_isWord_28 ?_
                      refine rr_aload_n 1 rfl rfl dX5_isWord_29 ?_
                      refine rr_callT (As := []) (rest := [.int 4]) (kc2 := 0) (ks2 := 0) dX5_isWord_30 okJ_length lX5_44 (i9 := 4) rfl rfl rfl (Nat.le_of_ble_eq_true rfl) (Nat.le_of_ble_eq_true rfl) rfl (by omega) (by simp [jj_rk]) (by simp [jj_rk]) ?_
                      refine sp_len_4  ?_
                      show jj_R _ _ kc ks (jj_S, 782, h, g) 33 [(0, .ref 13), (1, .ref (1000000 + 4)), (2, .int 4)] [.int 7, .int 4] Q
                      refine rr_icmp_ge dX5_isWord_33 (fun c => absurd c (by decide)) (fun _ => ?_)
                      refine rr_aload_n 0 rfl rfl dX5_isWord_36 ?_
                      refine rr_getI dX5_isWord_37 fX5_34 lo_13 sh_13 rfl ?_
                      refine rr_iload_n 2 rfl rfl dX5_isWord_40 ?_
                      refine rr_iadd dX5_isWord_41 ?_
                      refine rr_aload_n 0 rfl rfl dX5_isWord_42 ?_
                      refine rr_getI dX5_isWord_43 fX5_22 lo_13 sh_13 rfl ?_
                      refine rr_icmp_ge dX5_isWord_46 (fun c11 => ?_) (fun c11 => ?_)
                      · skip
                        refine rr_iconst 1 rfl dX5_isWord_76 ?_
                        refine rr_nreturn dX5_isWord_77 rfl (by first | rfl | assumption) ?_
                        simpa only [vX5_isWord_4, if_pos c1, if_pos c2, if_neg c3, if_pos c4, if_neg c5, if_pos c6, if_neg c7, if_pos c8, if_neg c9, if_pos c10, if_pos c11] using kq
                      · skip
                        refine rr_aload_n 0 rfl rfl dX5_isWord_49 ?_
                        refine rr_getR dX5_isWord_50 fX5_9 lo_13 sh_13 rfl ?_
                        refine rr_aload_n 0 rfl rfl dX5_isWord_53 ?_
                        refine rr_getI dX5_isWord_54 fX5_34 lo_13 sh_13 rfl ?_
                        refine rr_iload_n 2 rfl rfl dX5_isWord_57 ?_
                        refine rr_iadd dX5_isWord_58 ?_
                        refine rr_baload dX5_isWord_59 lo_14 sh_14 (rd_at (k := 4) rfl (by decide) ho (by assumption)) ?_
                        refine rr_aload_n 1 rfl rfl dX5_isWord_60 ?_
                        refine rr_iload_n 2 rfl rfl dX5_isWord_61 ?_
                        refine rr_callT (As := [.int 4]) (rest := [.int ((h 14) ((((h 13) 6) + 4) : Int32).toNatClampNeg)]) (kc2 := 0) (ks2 := 0) dX5_isWord_62 okJ_charAt lX5_49 (i9 := 4) rfl rfl rfl (Nat.le_of_ble_eq_true rfl) (Nat.le_of_ble_eq_true rfl) rfl (by omega) (by simp [jj_rk]) (by simp [jj_rk]) ?_
                        refine sp_ch_4_4  ?_
                        show jj_R _ _ kc ks (jj_S, 782, h, g) 65 [(0, .ref 13), (1, .ref (1000000 + 4)), (2, .int 4)] [.int 101, .int ((h 14) ((((h 13) 6) + 4) : Int32).toNatClampNeg)] Q
                        refine rr_icmp_eq dX5_isWord_65 (fun c12 => ?_) (fun c12 => ?_)
                        · skip
                          refine rr_iinc 2 1 [(0, .ref 13), (1, .ref (1000000 + 4)), (2, .int 5)] dX5_isWord_70 rfl rfl (by decide) rfl ?_
                          refine rr_goto dX5_isWord_73 ?_
                          refine rr_iload_n 2 rfl rfl dX5_isWord_28 ?_
                          refine rr_aload_n 1 rfl rfl dX5_isWord_29 ?_
                          refine rr_callT (As := []) (rest := [.int 5]) (kc2 := 0) (ks2 := 0) dX5_isWord_30 okJ_length lX5_44 (i9 := 4) rfl rfl rfl (Nat.le_of_ble_eq_true rfl) (Nat.le_of_ble_eq_true rfl) rfl (by omega) (by simp [jj_rk]) (by simp [jj_rk]) ?_
                          refine sp_len_4  ?_
                          show jj_R _ _ kc ks (jj_S, 782, h, g) 33 [(0, .ref 13), (1, .ref (1000000 + 4)), (2, .int 5)] [.int 7, .int 5] Q
                          refine rr_icmp_ge dX5_isWord_33 (fun c => absurd c (by decide)) (fun _ => ?_)
                          refine rr_aload_n 0 rfl rfl dX5_isWord_36 ?_
                          refine rr_getI dX5_isWord_37 fX5_34 lo_13 sh_13 rfl ?_
                          refine rr_iload_n 2 rfl rfl dX5_isWord_40 ?_
                          refine rr_iadd dX5_isWord_41 ?_
                          refine rr_aload_n 0 rfl rfl dX5_isWord_42 ?_
                          refine rr_getI dX5_isWord_43 fX5_22 lo_13 sh_13 rfl ?_
                          refine rr_icmp_ge dX5_isWord_46 (fun c13 => ?_) (fun c13 => ?_)
                          · skip
                            refine rr_iconst 1 rfl dX5_isWord_76 ?_
                            refine rr_nreturn dX5_isWord_77 rfl (by first | rfl | assumption) ?_
                            simpa only [vX5_isWord_4, if_pos c1, if_pos c2, if_neg c3, if_pos c4, if_neg c5, if_pos c6, if_neg c7, if_pos c8, if_neg c9, if_pos c10, if_neg c11, if_pos c12, if_pos c13] using kq
                          · skip
                            refine rr_aload_n 0 rfl rfl dX5_isWord_49 ?_
                            refine rr_getR dX5_isWord_50 fX5_9 lo_13 sh_13 rfl ?_
                            refine rr_aload_n 0 rfl rfl dX5_isWord_53 ?_
                            refine rr_getI dX5_isWord_54 fX5_34 lo_13 sh_13 rfl ?_
                            refine rr_iload_n 2 rfl rfl dX5_isWord_57 ?_
                            refine rr_iadd dX5_isWord_58 ?_
                            refine rr_baload dX5_isWord_59 lo_14 sh_14 (rd_at (k := 5) rfl (by decide) ho (by assumption)) ?_
                            refine rr_aload_n 1 rfl rfl dX5_isWord_60 ?_
                            refine rr_iload_n 2 rfl rfl dX5_isWord_61 ?_
                            refine rr_callT (As := [.int 5]) (rest := [.int ((h 14) ((((h 13) 6) + 5) : Int32).toNatClampNeg)]) (kc2 := 0) (ks2 := 0) dX5_isWord_62 okJ_charAt lX5_49 (i9 := 4) rfl rfl rfl (Nat.le_of_ble_eq_true rfl) (Nat.le_of_ble_eq_true rfl) rfl (by omega) (by simp [jj_rk]) (by simp [jj_rk]) ?_
                            refine sp_ch_4_5  ?_
                            show jj_R _ _ kc ks (jj_S, 782, h, g) 65 [(0, .ref 13), (1, .ref (1000000 + 4)), (2, .int 5)] [.int 114, .int ((h 14) ((((h 13) 6) + 5) : Int32).toNatClampNeg)] Q
                            refine rr_icmp_eq dX5_isWord_65 (fun c14 => ?_) (fun c14 => ?_)
                            · skip
                              refine rr_iinc 2 1 [(0, .ref 13), (1, .ref (1000000 + 4)), (2, .int 6)] dX5_isWord_70 rfl rfl (by decide) rfl ?_
                              refine rr_goto dX5_isWord_73 ?_
                              refine rr_iload_n 2 rfl rfl dX5_isWord_28 ?_
                              refine rr_aload_n 1 rfl rfl dX5_isWord_29 ?_
                              refine rr_callT (As := []) (rest := [.int 6]) (kc2 := 0) (ks2 := 0) dX5_isWord_30 okJ_length lX5_44 (i9 := 4) rfl rfl rfl (Nat.le_of_ble_eq_true rfl) (Nat.le_of_ble_eq_true rfl) rfl (by omega) (by simp [jj_rk]) (by simp [jj_rk]) ?_
                              refine sp_len_4  ?_
                              show jj_R _ _ kc ks (jj_S, 782, h, g) 33 [(0, .ref 13), (1, .ref (1000000 + 4)), (2, .int 6)] [.int 7, .int 6] Q
                              refine rr_icmp_ge dX5_isWord_33 (fun c => absurd c (by decide)) (fun _ => ?_)
                              refine rr_aload_n 0 rfl rfl dX5_isWord_36 ?_
                              refine rr_getI dX5_isWord_37 fX5_34 lo_13 sh_13 rfl ?_
                              refine rr_iload_n 2 rfl rfl dX5_isWord_40 ?_
                              refine rr_iadd dX5_isWord_41 ?_
                              refine rr_aload_n 0 rfl rfl dX5_isWord_42 ?_
                              refine rr_getI dX5_isWord_43 fX5_22 lo_13 sh_13 rfl ?_
                              refine rr_icmp_ge dX5_isWord_46 (fun c15 => ?_) (fun c15 => ?_)
                              · skip
                                refine rr_iconst 1 rfl dX5_isWord_76 ?_
                                refine rr_nreturn dX5_isWord_77 rfl (by first | rfl | assumption) ?_
                                simpa only [vX5_isWord_4, if_pos c1, if_pos c2, if_neg c3, if_pos c4, if_neg c5, if_pos c6, if_neg c7, if_pos c8, if_neg c9, if_pos c10, if_neg c11, if_pos c12, if_neg c13, if_pos c14, if_pos c15] using kq
                              · skip
                                refine rr_aload_n 0 rfl rfl dX5_isWord_49 ?_
                                refine rr_getR dX5_isWord_50 fX5_9 lo_13 sh_13 rfl ?_
                                refine rr_aload_n 0 rfl rfl dX5_isWord_53 ?_
                                refine rr_getI dX5_isWord_54 fX5_34 lo_13 sh_13 rfl ?_
                                refine rr_iload_n 2 rfl rfl dX5_isWord_57 ?_
                                refine rr_iadd dX5_isWord_58 ?_
                                refine rr_baload dX5_isWord_59 lo_14 sh_14 (rd_at (k := 6) rfl (by decide) ho (by assumption)) ?_
                                refine rr_aload_n 1 rfl rfl dX5_isWord_60 ?_
                                refine rr_iload_n 2 rfl rfl dX5_isWord_61 ?_
                                refine rr_callT (As := [.int 6]) (rest := [.int ((h 14) ((((h 13) 6) + 6) : Int32).toNatClampNeg)]) (kc2 := 0) (ks2 := 0) dX5_isWord_62 okJ_charAt lX5_49 (i9 := 4) rfl rfl rfl (Nat.le_of_ble_eq_true rfl) (Nat.le_of_ble_eq_true rfl) rfl (by omega) (by simp [jj_rk]) (by simp [jj_rk]) ?_
                                refine sp_ch_4_6  ?_
                                show jj_R _ _ kc ks (jj_S, 782, h, g) 65 [(0, .ref 13), (1, .ref (1000000 + 4)), (2, .int 6)] [.int 115, .int ((h 14) ((((h 13) 6) + 6) : Int32).toNatClampNeg)] Q
                                refine rr_icmp_eq dX5_isWord_65 (fun c16 => ?_) (fun c16 => ?_)
                                · skip
                                  refine rr_iinc 2 1 [(0, .ref 13), (1, .ref (1000000 + 4)), (2, .int 7)] dX5_isWord_70 rfl rfl (by decide) rfl ?_
                                  refine rr_goto dX5_isWord_73 ?_
                                  refine rr_iload_n 2 rfl rfl dX5_isWord_28 ?_
                                  refine rr_aload_n 1 rfl rfl dX5_isWord_29 ?_
                                  refine rr_callT (As := []) (rest := [.int 7]) (kc2 := 0) (ks2 := 0) dX5_isWord_30 okJ_length lX5_44 (i9 := 4) rfl rfl rfl (Nat.le_of_ble_eq_true rfl) (Nat.le_of_ble_eq_true rfl) rfl (by omega) (by simp [jj_rk]) (by simp [jj_rk]) ?_
                                  refine sp_len_4  ?_
                                  show jj_R _ _ kc ks (jj_S, 782, h, g) 33 [(0, .ref 13), (1, .ref (1000000 + 4)), (2, .int 7)] [.int 7, .int 7] Q
                                  refine rr_icmp_ge dX5_isWord_33 (fun _ => ?_) (fun c => absurd (by decide) c)
                                  refine rr_iconst 1 rfl dX5_isWord_76 ?_
                                  refine rr_nreturn dX5_isWord_77 rfl (by first | rfl | assumption) ?_
                                  simpa only [vX5_isWord_4, if_pos c1, if_pos c2, if_neg c3, if_pos c4, if_neg c5, if_pos c6, if_neg c7, if_pos c8, if_neg c9, if_pos c10, if_neg c11, if_pos c12, if_neg c13, if_pos c14, if_neg c15, if_pos c16] using kq
                                · skip
                                  refine rr_iconst 0 rfl dX5_isWord_68 ?_
                                  refine rr_nreturn dX5_isWord_69 rfl (by first | rfl | assumption) ?_
                                  simpa only [vX5_isWord_4, if_pos c1, if_pos c2, if_neg c3, if_pos c4, if_neg c5, if_pos c6, if_neg c7, if_pos c8, if_neg c9, if_pos c10, if_neg c11, if_pos c12, if_neg c13, if_pos c14, if_neg c15, if_neg c16] using kq
                            · skip
                              refine rr_iconst 0 rfl dX5_isWord_68 ?_
                              refine rr_nreturn dX5_isWord_69 rfl (by first | rfl | assumption) ?_
                              simpa only [vX5_isWord_4, if_pos c1, if_pos c2, if_neg c3, if_pos c4, if_neg c5, if_pos c6, if_neg c7, if_pos c8, if_neg c9, if_pos c10, if_neg c11, if_pos c12, if_neg c13, if_neg c14] using kq
                        · skip
                          refine rr_iconst 0 rfl dX5_isWord_68 ?_
                          refine rr_nreturn dX5_isWord_69 rfl (by first | rfl | assumption) ?_
                          simpa only [vX5_isWord_4, if_pos c1, if_pos c2, if_neg c3, if_pos c4, if_neg c5, if_pos c6, if_neg c7, if_pos c8, if_neg c9, if_pos c10, if_neg c11, if_neg c12] using kq
                    · skip
                      refine rr_iconst 0 rfl dX5_isWord_68 ?_
                      refine rr_nreturn dX5_isWord_69 rfl (by first | rfl | assumption) ?_
                      simpa only [vX5_isWord_4, if_pos c1, if_pos c2, if_neg c3, if_pos c4, if_neg c5, if_pos c6, if_neg c7, if_pos c8, if_neg c9, if_neg c10] using kq
                · skip
                  refine rr_iconst 0 rfl dX5_isWord_68 ?_
                  refine rr_nreturn dX5_isWord_69 rfl (by first | rfl | assumption) ?_
                  simpa only [vX5_isWord_4, if_pos c1, if_pos c2, if_neg c3, if_pos c4, if_neg c5, if_pos c6, if_neg c7, if_neg c8] using kq
            · skip
              refine rr_iconst 0 rfl dX5_isWord_68 ?_
              refine rr_nreturn dX5_isWord_69 rfl (by first | rfl | assumption) ?_
              simpa only [vX5_isWord_4, if_pos c1, if_pos c2, if_neg c3, if_pos c4, if_neg c5, if_neg c6] using kq
        · skip
          refine rr_iconst 0 rfl dX5_isWord_68 ?_
          refine rr_nreturn dX5_isWord_69 rfl (by first | rfl | assumption) ?_
          simpa only [vX5_isWord_4, if_pos c1, if_pos c2, if_neg c3, if_neg c4] using kq
    · skip
      refine rr_iconst 0 rfl dX5_isWord_24 ?_
      refine rr_nreturn dX5_isWord_25 rfl (by first | rfl | assumption) ?_
      simpa only [vX5_isWord_4, if_pos c1, if_neg c2] using kq
def vX5_isWord_5 (r13 : Nat → Int32) (r14 : Nat → Int32) : Int32 := (if (r13 4) = 2 then (if ((r13 3) - (r13 6)) = 5 then (if (r13 2) ≤ ((r13 6) + 0) then 1 else (if (r14 (((r13 6) + 0) : Int32).toNatClampNeg) = 104 then (if (r13 2) ≤ ((r13 6) + 1) then 1 else (if (r14 (((r13 6) + 1) : Int32).toNatClampNeg) = 97 then (if (r13 2) ≤ ((r13 6) + 2) then 1 else (if (r14 (((r13 6) + 2) : Int32).toNatClampNeg) = 115 then (if (r13 2) ≤ ((r13 6) + 3) then 1 else (if (r14 (((r13 6) + 3) : Int32).toNatClampNeg) = 116 then (if (r13 2) ≤ ((r13 6) + 4) then 1 else (if (r14 (((r13 6) + 4) : Int32).toNatClampNeg) = 101 then 1 else 0)) else 0)) else 0)) else 0)) else 0)) else 0) else 0)
set_option maxHeartbeats 1000000 in
theorem sp_X5_isWord_5 {d kc ks : Nat} {h : Nat → Nat → Int32} {g : Nat → Nat → Int64} {Q : jj_Rs → jj_St → Prop}  (ho : rdat (h 13)) (kq : Q (.inl (some (.int (vX5_isWord_5 (h 13) (h 14))))) (jj_S, 782, h, g)) : jj_R mX5_isWord (d + 4) kc ks (jj_S, 782, h, g) 0 [(0, .ref 13), (1, .ref (1000000 + 5))] [] Q := by
  refine rr_aload_n 0 rfl rfl dX5_isWord_0 ?_
  refine rr_getI dX5_isWord_1 fX5_37 lo_13 sh_13 rfl ?_
  refine rr_iconst 2 rfl dX5_isWord_4 ?_
  refine rr_icmp_ne dX5_isWord_5 (fun c1 => ?_) (fun c1 => ?_)
  · skip
    refine rr_iconst 0 rfl dX5_isWord_24 ?_
    refine rr_nreturn dX5_isWord_25 rfl (by first | rfl | assumption) ?_
    simpa only [vX5_isWord_5, if_neg c1] using kq
  · skip
    refine rr_aload_n 0 rfl rfl dX5_isWord_8 ?_
    refine rr_getI dX5_isWord_9 fX5_25 lo_13 sh_13 rfl ?_
    refine rr_aload_n 0 rfl rfl dX5_isWord_12 ?_
    refine rr_getI dX5_isWord_13 fX5_34 lo_13 sh_13 rfl ?_
    refine rr_isub dX5_isWord_16 ?_
    refine rr_aload_n 1 rfl rfl dX5_isWord_17 ?_
    refine rr_callT (As := []) (rest := [.int (((h 13) 3) - ((h 13) 6))]) (kc2 := 0) (ks2 := 0) dX5_isWord_18 okJ_length lX5_44 (i9 := 5) rfl rfl rfl (Nat.le_of_ble_eq_true rfl) (Nat.le_of_ble_eq_true rfl) rfl (by omega) (by simp [jj_rk]) (by simp [jj_rk]) ?_
    refine sp_len_5  ?_
    show jj_R _ _ kc ks (jj_S, 782, h, g) 21 [(0, .ref 13), (1, .ref (1000000 + 5))] [.int 5, .int (((h 13) 3) - ((h 13) 6))] Q
    refine rr_icmp_eq dX5_isWord_21 (fun c2 => ?_) (fun c2 => ?_)
    · skip
      refine rr_iconst 0 rfl dX5_isWord_26 ?_
      refine rr_istore_n [(0, .ref 13), (1, .ref (1000000 + 5)), (2, .int 0)] dX5_isWord_27 rfl (by decide) rfl ?_
      refine rr_iload_n 2 rfl rfl dX5_isWord_28 ?_
      refine rr_aload_n 1 rfl rfl dX5_isWord_29 ?_
      refine rr_callT (As := []) (rest := [.int 0]) (kc2 := 0) (ks2 := 0) dX5_isWord_30 okJ_length lX5_44 (i9 := 5) rfl rfl rfl (Nat.le_of_ble_eq_true rfl) (Nat.le_of_ble_eq_true rfl) rfl (by omega) (by simp [jj_rk]) (by simp [jj_rk]) ?_
      refine sp_len_5  ?_
      show jj_R _ _ kc ks (jj_S, 782, h, g) 33 [(0, .ref 13), (1, .ref (1000000 + 5)), (2, .int 0)] [.int 5, .int 0] Q
      refine rr_icmp_ge dX5_isWord_33 (fun c => absurd c (by decide)) (fun _ => ?_)
      refine rr_aload_n 0 rfl rfl dX5_isWord_36 ?_
      refine rr_getI dX5_isWord_37 fX5_34 lo_13 sh_13 rfl ?_
      refine rr_iload_n 2 rfl rfl dX5_isWord_40 ?_
      refine rr_iadd dX5_isWord_41 ?_
      refine rr_aload_n 0 rfl rfl dX5_isWord_42 ?_
      refine rr_getI dX5_isWord_43 fX5_22 lo_13 sh_13 rfl ?_
      refine rr_icmp_ge dX5_isWord_46 (fun c3 => ?_) (fun c3 => ?_)
      · skip
        refine rr_iconst 1 rfl dX5_isWord_76 ?_
        refine rr_nreturn dX5_isWord_77 rfl (by first | rfl | assumption) ?_
        simpa only [vX5_isWord_5, if_pos c1, if_pos c2, if_pos c3] using kq
      · skip
        refine rr_aload_n 0 rfl rfl dX5_isWord_49 ?_
        refine rr_getR dX5_isWord_50 fX5_9 lo_13 sh_13 rfl ?_
        refine rr_aload_n 0 rfl rfl dX5_isWord_53 ?_
        refine rr_getI dX5_isWord_54 fX5_34 lo_13 sh_13 rfl ?_
        refine rr_iload_n 2 rfl rfl dX5_isWord_57 ?_
        refine rr_iadd dX5_isWord_58 ?_
        refine rr_baload dX5_isWord_59 lo_14 sh_14 (rd_at (k := 0) rfl (by decide) ho (by assumption)) ?_
        refine rr_aload_n 1 rfl rfl dX5_isWord_60 ?_
        refine rr_iload_n 2 rfl rfl dX5_isWord_61 ?_
        refine rr_callT (As := [.int 0]) (rest := [.int ((h 14) ((((h 13) 6) + 0) : Int32).toNatClampNeg)]) (kc2 := 0) (ks2 := 0) dX5_isWord_62 okJ_charAt lX5_49 (i9 := 5) rfl rfl rfl (Nat.le_of_ble_eq_true rfl) (Nat.le_of_ble_eq_true rfl) rfl (by omega) (by simp [jj_rk]) (by simp [jj_rk]) ?_
        refine sp_ch_5_0  ?_
        show jj_R _ _ kc ks (jj_S, 782, h, g) 65 [(0, .ref 13), (1, .ref (1000000 + 5)), (2, .int 0)] [.int 104, .int ((h 14) ((((h 13) 6) + 0) : Int32).toNatClampNeg)] Q
        refine rr_icmp_eq dX5_isWord_65 (fun c4 => ?_) (fun c4 => ?_)
        · skip
          refine rr_iinc 2 1 [(0, .ref 13), (1, .ref (1000000 + 5)), (2, .int 1)] dX5_isWord_70 rfl rfl (by decide) rfl ?_
          refine rr_goto dX5_isWord_73 ?_
          refine rr_iload_n 2 rfl rfl dX5_isWord_28 ?_
          refine rr_aload_n 1 rfl rfl dX5_isWord_29 ?_
          refine rr_callT (As := []) (rest := [.int 1]) (kc2 := 0) (ks2 := 0) dX5_isWord_30 okJ_length lX5_44 (i9 := 5) rfl rfl rfl (Nat.le_of_ble_eq_true rfl) (Nat.le_of_ble_eq_true rfl) rfl (by omega) (by simp [jj_rk]) (by simp [jj_rk]) ?_
          refine sp_len_5  ?_
          show jj_R _ _ kc ks (jj_S, 782, h, g) 33 [(0, .ref 13), (1, .ref (1000000 + 5)), (2, .int 1)] [.int 5, .int 1] Q
          refine rr_icmp_ge dX5_isWord_33 (fun c => absurd c (by decide)) (fun _ => ?_)
          refine rr_aload_n 0 rfl rfl dX5_isWord_36 ?_
          refine rr_getI dX5_isWord_37 fX5_34 lo_13 sh_13 rfl ?_
          refine rr_iload_n 2 rfl rfl dX5_isWord_40 ?_
          refine rr_iadd dX5_isWord_41 ?_
          refine rr_aload_n 0 rfl rfl dX5_isWord_42 ?_
          refine rr_getI dX5_isWord_43 fX5_22 lo_13 sh_13 rfl ?_
          refine rr_icmp_ge dX5_isWord_46 (fun c5 => ?_) (fun c5 => ?_)
          · skip
            refine rr_iconst 1 rfl dX5_isWord_76 ?_
            refine rr_nreturn dX5_isWord_77 rfl (by first | rfl | assumption) ?_
            simpa only [vX5_isWord_5, if_pos c1, if_pos c2, if_neg c3, if_pos c4, if_pos c5] using kq
          · skip
            refine rr_aload_n 0 rfl rfl dX5_isWord_49 ?_
            refine rr_getR dX5_isWord_50 fX5_9 lo_13 sh_13 rfl ?_
            refine rr_aload_n 0 rfl rfl dX5_isWord_53 ?_
            refine rr_getI dX5_isWord_54 fX5_34 lo_13 sh_13 rfl ?_
            refine rr_iload_n 2 rfl rfl dX5_isWord_57 ?_
            refine rr_iadd dX5_isWord_58 ?_
            refine rr_baload dX5_isWord_59 lo_14 sh_14 (rd_at (k := 1) rfl (by decide) ho (by assumption)) ?_
            refine rr_aload_n 1 rfl rfl dX5_isWord_60 ?_
            refine rr_iload_n 2 rfl rfl dX5_isWord_61 ?_
            refine rr_callT (As := [.int 1]) (rest := [.int ((h 14) ((((h 13) 6) + 1) : Int32).toNatClampNeg)]) (kc2 := 0) (ks2 := 0) dX5_isWord_62 okJ_charAt lX5_49 (i9 := 5) rfl rfl rfl (Nat.le_of_ble_eq_true rfl) (Nat.le_of_ble_eq_true rfl) rfl (by omega) (by simp [jj_rk]) (by simp [jj_rk]) ?_
            refine sp_ch_5_1  ?_
            show jj_R _ _ kc ks (jj_S, 782, h, g) 65 [(0, .ref 13), (1, .ref (1000000 + 5)), (2, .int 1)] [.int 97, .int ((h 14) ((((h 13) 6) + 1) : Int32).toNatClampNeg)] Q
            refine rr_icmp_eq dX5_isWord_65 (fun c6 => ?_) (fun c6 => ?_)
            · skip
              refine rr_iinc 2 1 [(0, .ref 13), (1, .ref (1000000 + 5)), (2, .int 2)] dX5_isWord_70 rfl rfl (by decide) rfl ?_
              refine rr_goto dX5_isWord_73 ?_
              refine rr_iload_n 2 rfl rfl dX5_isWord_28 ?_
              refine rr_aload_n 1 rfl rfl dX5_isWord_29 ?_
              refine rr_callT (As := []) (rest := [.int 2]) (kc2 := 0) (ks2 := 0) dX5_isWord_30 okJ_length lX5_44 (i9 := 5) rfl rfl rfl (Nat.le_of_ble_eq_true rfl) (Nat.le_of_ble_eq_true rfl) rfl (by omega) (by simp [jj_rk]) (by simp [jj_rk]) ?_
              refine sp_len_5  ?_
              show jj_R _ _ kc ks (jj_S, 782, h, g) 33 [(0, .ref 13), (1, .ref (1000000 + 5)), (2, .int 2)] [.int 5, .int 2] Q
              refine rr_icmp_ge dX5_isWord_33 (fun c => absurd c (by decide)) (fun _ => ?_)
              refine rr_aload_n 0 rfl rfl dX5_isWord_36 ?_
              refine rr_getI dX5_isWord_37 fX5_34 lo_13 sh_13 rfl ?_
              refine rr_iload_n 2 rfl rfl dX5_isWord_40 ?_
              refine rr_iadd dX5_isWord_41 ?_
              refine rr_aload_n 0 rfl rfl dX5_isWord_42 ?_
              refine rr_getI dX5_isWord_43 fX5_22 lo_13 sh_13 rfl ?_
              refine rr_icmp_ge dX5_isWord_46 (fun c7 => ?_) (fun c7 => ?_)
              · skip
                refine rr_iconst 1 rfl dX5_isWord_76 ?_
                refine rr_nreturn dX5_isWord_77 rfl (by first | rfl | assumption) ?_
                simpa only [vX5_isWord_5, if_pos c1, if_pos c2, if_neg c3, if_pos c4, if_neg c5, if_pos c6, if_pos c7] using kq
              · skip
                refine rr_aload_n 0 rfl rfl dX5_isWord_49 ?_
                refine rr_getR dX5_isWord_50 fX5_9 lo_13 sh_13 rfl ?_
                refine rr_aload_n 0 rfl rfl dX5_isWord_53 ?_
                refine rr_getI dX5_isWord_54 fX5_34 lo_13 sh_13 rfl ?_
                refine rr_iload_n 2 rfl rfl dX5_isWord_57 ?_
                refine rr_iadd dX5_isWord_58 ?_
                refine rr_baload dX5_isWord_59 lo_14 sh_14 (rd_at (k := 2) rfl (by decide) ho (by assumption)) ?_
                refine rr_aload_n 1 rfl rfl dX5_isWord_60 ?_
                refine rr_iload_n 2 rfl rfl dX5_isWord_61 ?_
                refine rr_callT (As := [.int 2]) (rest := [.int ((h 14) ((((h 13) 6) + 2) : Int32).toNatClampNeg)]) (kc2 := 0) (ks2 := 0) dX5_isWord_62 okJ_charAt lX5_49 (i9 := 5) rfl rfl rfl (Nat.le_of_ble_eq_true rfl) (Nat.le_of_ble_eq_true rfl) rfl (by omega) (by simp [jj_rk]) (by simp [jj_rk]) ?_
                refine sp_ch_5_2  ?_
                show jj_R _ _ kc ks (jj_S, 782, h, g) 65 [(0, .ref 13), (1, .ref (1000000 + 5)), (2, .int 2)] [.int 115, .int ((h 14) ((((h 13) 6) + 2) : Int32).toNatClampNeg)] Q
                refine rr_icmp_eq dX5_isWord_65 (fun c8 => ?_) (fun c8 => ?_)
                · skip
                  refine rr_iinc 2 1 [(0, .ref 13), (1, .ref (1000000 + 5)), (2, .int 3)] dX5_isWord_70 rfl rfl (by decide) rfl ?_
                  refine rr_goto dX5_isWord_73 ?_
                  refine rr_iload_n 2 rfl rfl dX5_isWord_28 ?_
                  refine rr_aload_n 1 rfl rfl dX5_isWord_29 ?_
                  refine rr_callT (As := []) (rest := [.int 3]) (kc2 := 0) (ks2 := 0) dX5_isWord_30 okJ_length lX5_44 (i9 := 5) rfl rfl rfl (Nat.le_of_ble_eq_true rfl) (Nat.le_of_ble_eq_true rfl) rfl (by omega) (by simp [jj_rk]) (by simp [jj_rk]) ?_
                  refine sp_len_5  ?_
                  show jj_R _ _ kc ks (jj_S, 782, h, g) 33 [(0, .ref 13), (1, .ref (1000000 + 5)), (2, .int 3)] [.int 5, .int 3] Q
                  refine rr_icmp_ge dX5_isWord_33 (fun c => absurd c (by decide)) (fun _ => ?_)
                  refine rr_aload_n 0 rfl rfl dX5_isWord_36 ?_
                  refine rr_getI dX5_isWord_37 fX5_34 lo_13 sh_13 rfl ?_
                  refine rr_iload_n 2 rfl rfl dX5_isWord_40 ?_
                  refine rr_iadd dX5_isWord_41 ?_
                  refine rr_aload_n 0 rfl rfl dX5_isWord_42 ?_
                  refine rr_getI dX5_isWord_43 fX5_22 lo_13 sh_13 rfl ?_
                  refine rr_icmp_ge dX5_isWord_46 (fun c9 => ?_) (fun c9 => ?_)
                  · skip
                    refine rr_iconst 1 rfl dX5_isWord_76 ?_
                    refine rr_nreturn dX5_isWord_77 rfl (by first | rfl | assumption) ?_
                    simpa only [vX5_isWord_5, if_pos c1, if_pos c2, if_neg c3, if_pos c4, if_neg c5, if_pos c6, if_neg c7, if_pos c8, if_pos c9] using kq
                  · skip
                    refine rr_aload_n 0 rfl rfl dX5_isWord_49 ?_
                    refine rr_getR dX5_isWord_50 fX5_9 lo_13 sh_13 rfl ?_
                    refine rr_aload_n 0 rfl rfl dX5_isWord_53 ?_
                    refine rr_getI dX5_isWord_54 fX5_34 lo_13 sh_13 rfl ?_
                    refine rr_iload_n 2 rfl rfl dX5_isWord_57 ?_
                    refine rr_iadd dX5_isWord_58 ?_
                    refine rr_baload dX5_isWord_59 lo_14 sh_14 (rd_at (k := 3) rfl (by decide) ho (by assumption)) ?_
                    refine rr_aload_n 1 rfl rfl dX5_isWord_60 ?_
                    refine rr_iload_n 2 rfl rfl dX5_isWord_61 ?_
                    refine rr_callT (As := [.int 3]) (rest := [.int ((h 14) ((((h 13) 6) + 3) : Int32).toNatClampNeg)]) (kc2 := 0) (ks2 := 0) dX5_isWord_62 okJ_charAt lX5_49 (i9 := 5) rfl rfl rfl (Nat.le_of_ble_eq_true rfl) (Nat.le_of_ble_eq_true rfl) rfl (by omega) (by simp [jj_rk]) (by simp [jj_rk]) ?_
                    refine sp_ch_5_3  ?_
                    show jj_R _ _ kc ks (jj_S, 782, h, g) 65 [(0, .ref 13), (1, .ref (1000000 + 5)), (2, .int 3)] [.int 116, .int ((h 14) ((((h 13) 6) + 3) : Int32).toNatClampNeg)] Q
                    refine rr_icmp_eq dX5_isWord_65 (fun c10 => ?_) (fun c10 => ?_)
                    · skip
                      refine rr_iinc 2 1 [(0, .ref 13), (1, .ref (1000000 + 5)), (2, .int 4)] dX5_isWord_70 rfl rfl (by decide) rfl ?_
                      refine rr_goto dX5_isWord_73 ?_
                      refine rr_iload_n 2 rfl rfl dX5_isWord_28 ?_
                      refine rr_aload_n 1 rfl rfl dX5_isWord_29 ?_
                      refine rr_callT (As := []) (rest := [.int 4]) (kc2 := 0) (ks2 := 0) dX5_isWord_30 okJ_length lX5_44 (i9 := 5) rfl rfl rfl (Nat.le_of_ble_eq_true rfl) (Nat.le_of_ble_eq_true rfl) rfl (by omega) (by simp [jj_rk]) (by simp [jj_rk]) ?_
                      refine sp_len_5  ?_
                      show jj_R _ _ kc ks (jj_S, 782, h, g) 33 [(0, .ref 13), (1, .ref (1000000 + 5)), (2, .int 4)] [.int 5, .int 4] Q
                      refine rr_icmp_ge dX5_isWord_33 (fun c => absurd c (by decide)) (fun _ => ?_)
                      refine rr_aload_n 0 rfl rfl dX5_isWord_36 ?_
                      refine rr_getI dX5_isWord_37 fX5_34 lo_13 sh_13 rfl ?_
                      refine rr_iload_n 2 rfl rfl dX5_isWord_40 ?_
                      refine rr_iadd dX5_isWord_41 ?_
                      refine rr_aload_n 0 rfl rfl dX5_isWord_42 ?_
                      refine rr_getI dX5_isWord_43 fX5_22 lo_13 sh_13 rfl ?_
                      refine rr_icmp_ge dX5_isWord_46 (fun c11 => ?_) (fun c11 => ?_)
                      · skip
                        refine rr_iconst 1 rfl dX5_isWord_76 ?_
                        refine rr_nreturn dX5_isWord_77 rfl (by first | rfl | assumption) ?_
                        simpa only [vX5_isWord_5, if_pos c1, if_pos c2, if_neg c3, if_pos c4, if_neg c5, if_pos c6, if_neg c7, if_pos c8, if_neg c9, if_pos c10, if_pos c11] using kq
                      · skip
                        refine rr_aload_n 0 rfl rfl dX5_isWord_49 ?_
                        refine rr_getR dX5_isWord_50 fX5_9 lo_13 sh_13 rfl ?_
                        refine rr_aload_n 0 rfl rfl dX5_isWord_53 ?_
                        refine rr_getI dX5_isWord_54 fX5_34 lo_13 sh_13 rfl ?_
                        refine rr_iload_n 2 rfl rfl dX5_isWord_57 ?_
                        refine rr_iadd dX5_isWord_58 ?_
                        refine rr_baload dX5_isWord_59 lo_14 sh_14 (rd_at (k := 4) rfl (by decide) ho (by assumption)) ?_
                        refine rr_aload_n 1 rfl rfl dX5_isWord_60 ?_
                        refine rr_iload_n 2 rfl rfl dX5_isWord_61 ?_
                        refine rr_callT (As := [.int 4]) (rest := [.int ((h 14) ((((h 13) 6) + 4) : Int32).toNatClampNeg)]) (kc2 := 0) (ks2 := 0) dX5_isWord_62 okJ_charAt lX5_49 (i9 := 5) rfl rfl rfl (Nat.le_of_ble_eq_true rfl) (Nat.le_of_ble_eq_true rfl) rfl (by omega) (by simp [jj_rk]) (by simp [jj_rk]) ?_
                        refine sp_ch_5_4  ?_
                        show jj_R _ _ kc ks (jj_S, 782, h, g) 65 [(0, .ref 13), (1, .ref (1000000 + 5)), (2, .int 4)] [.int 101, .int ((h 14) ((((h 13) 6) + 4) : Int32).toNatClampNeg)] Q
                        refine rr_icmp_eq dX5_isWord_65 (fun c12 => ?_) (fun c12 => ?_)
                        · skip
                          refine rr_iinc 2 1 [(0, .ref 13), (1, .ref (1000000 + 5)), (2, .int 5)] dX5_isWord_70 rfl rfl (by decide) rfl ?_
                          refine rr_goto dX5_isWord_73 ?_
                          refine rr_iload_n 2 rfl rfl dX5_isWord_28 ?_
                          refine rr_aload_n 1 rfl rfl dX5_isWord_29 ?_
                          refine rr_callT (As := []) (rest := [.int 5]) (kc2 := 0) (ks2 := 0) dX5_isWord_30 okJ_length lX5_44 (i9 := 5) rfl rfl rfl (Nat.le_of_ble_eq_true rfl) (Nat.le_of_ble_eq_true rfl) rfl (by omega) (by simp [jj_rk]) (by simp [jj_rk]) ?_
                          refine sp_len_5  ?_
                          show jj_R _ _ kc ks (jj_S, 782, h, g) 33 [(0, .ref 13), (1, .ref (1000000 + 5)), (2, .int 5)] [.int 5, .int 5] Q
                          refine rr_icmp_ge dX5_isWord_33 (fun _ => ?_) (fun c => absurd (by decide) c)
                          refine rr_iconst 1 rfl dX5_isWord_76 ?_
                          refine rr_nreturn dX5_isWord_77 rfl (by first | rfl | assumption) ?_
                          simpa only [vX5_isWord_5, if_pos c1, if_pos c2, if_neg c3, if_pos c4, if_neg c5, if_pos c6, if_neg c7, if_pos c8, if_neg c9, if_pos c10, if_neg c11, if_pos c12] using kq
                        · skip
                          refine rr_iconst 0 rfl dX5_isWord_68 ?_
                          refine rr_nreturn dX5_isWord_69 rfl (by first | rfl | assumption) ?_
                          simpa only [vX5_isWord_5, if_pos c1, if_pos c2, if_neg c3, if_pos c4, if_neg c5, if_pos c6, if_neg c7, if_pos c8, if_neg c9, if_pos c10, if_neg c11, if_neg c12] using kq
                    · skip
                      refine rr_iconst 0 rfl dX5_isWord_68 ?_
                      refine rr_nreturn dX5_isWord_69 rfl (by first | rfl | assumption) ?_
                      simpa only [vX5_isWord_5, if_pos c1, if_pos c2, if_neg c3, if_pos c4, if_neg c5, if_pos c6, if_neg c7, if_pos c8, if_neg c9, if_neg c10] using kq
                · skip
                  refine rr_iconst 0 rfl dX5_isWord_68 ?_
                  refine rr_nreturn dX5_isWord_69 rfl (by first | rfl | assumption) ?_
                  simpa only [vX5_isWord_5, if_pos c1, if_pos c2, if_neg c3, if_pos c4, if_neg c5, if_pos c6, if_neg c7, if_neg c8] using kq
            · skip
              refine rr_iconst 0 rfl dX5_isWord_68 ?_
              refine rr_nreturn dX5_isWord_69 rfl (by first | rfl | assumption) ?_
              simpa only [vX5_isWord_5, if_pos c1, if_pos c2, if_neg c3, if_pos c4, if_neg c5, if_neg c6] using kq
        · skip
          refine rr_iconst 0 rfl dX5_isWord_68 ?_
          refine rr_nreturn dX5_isWord_69 rfl (by first | rfl | assumption) ?_
          simpa only [vX5_isWord_5, if_pos c1, if_pos c2, if_neg c3, if_neg c4] using kq
    · skip
      refine rr_iconst 0 rfl dX5_isWord_24 ?_
      refine rr_nreturn dX5_isWord_25 rfl (by first | rfl | assumption) ?_
      simpa only [vX5_isWord_5, if_pos c1, if_neg c2] using kq
def vX5_isWord_6 (r13 : Nat → Int32) (r14 : Nat → Int32) : Int32 := (if (r13 4) = 2 then (if ((r13 3) - (r13 6)) = 6 then (if (r13 2) ≤ ((r13 6) + 0) then 1 else (if (r14 (((r13 6) + 0) : Int32).toNatClampNeg) = 98 then (if (r13 2) ≤ ((r13 6) + 1) then 1 else (if (r14 (((r13 6) + 1) : Int32).toNatClampNeg) = 101 then (if (r13 2) ≤ ((r13 6) + 2) then 1 else (if (r14 (((r13 6) + 2) : Int32).toNatClampNeg) = 104 then (if (r13 2) ≤ ((r13 6) + 3) then 1 else (if (r14 (((r13 6) + 3) : Int32).toNatClampNeg) = 105 then (if (r13 2) ≤ ((r13 6) + 4) then 1 else (if (r14 (((r13 6) + 4) : Int32).toNatClampNeg) = 110 then (if (r13 2) ≤ ((r13 6) + 5) then 1 else (if (r14 (((r13 6) + 5) : Int32).toNatClampNeg) = 100 then 1 else 0)) else 0)) else 0)) else 0)) else 0)) else 0)) else 0) else 0)
set_option maxHeartbeats 1000000 in
theorem sp_X5_isWord_6 {d kc ks : Nat} {h : Nat → Nat → Int32} {g : Nat → Nat → Int64} {Q : jj_Rs → jj_St → Prop}  (ho : rdat (h 13)) (kq : Q (.inl (some (.int (vX5_isWord_6 (h 13) (h 14))))) (jj_S, 782, h, g)) : jj_R mX5_isWord (d + 4) kc ks (jj_S, 782, h, g) 0 [(0, .ref 13), (1, .ref (1000000 + 6))] [] Q := by
  refine rr_aload_n 0 rfl rfl dX5_isWord_0 ?_
  refine rr_getI dX5_isWord_1 fX5_37 lo_13 sh_13 rfl ?_
  refine rr_iconst 2 rfl dX5_isWord_4 ?_
  refine rr_icmp_ne dX5_isWord_5 (fun c1 => ?_) (fun c1 => ?_)
  · skip
    refine rr_iconst 0 rfl dX5_isWord_24 ?_
    refine rr_nreturn dX5_isWord_25 rfl (by first | rfl | assumption) ?_
    simpa only [vX5_isWord_6, if_neg c1] using kq
  · skip
    refine rr_aload_n 0 rfl rfl dX5_isWord_8 ?_
    refine rr_getI dX5_isWord_9 fX5_25 lo_13 sh_13 rfl ?_
    refine rr_aload_n 0 rfl rfl dX5_isWord_12 ?_
    refine rr_getI dX5_isWord_13 fX5_34 lo_13 sh_13 rfl ?_
    refine rr_isub dX5_isWord_16 ?_
    refine rr_aload_n 1 rfl rfl dX5_isWord_17 ?_
    refine rr_callT (As := []) (rest := [.int (((h 13) 3) - ((h 13) 6))]) (kc2 := 0) (ks2 := 0) dX5_isWord_18 okJ_length lX5_44 (i9 := 6) rfl rfl rfl (Nat.le_of_ble_eq_true rfl) (Nat.le_of_ble_eq_true rfl) rfl (by omega) (by simp [jj_rk]) (by simp [jj_rk]) ?_
    refine sp_len_6  ?_
    show jj_R _ _ kc ks (jj_S, 782, h, g) 21 [(0, .ref 13), (1, .ref (1000000 + 6))] [.int 6, .int (((h 13) 3) - ((h 13) 6))] Q
    refine rr_icmp_eq dX5_isWord_21 (fun c2 => ?_) (fun c2 => ?_)
    · skip
      refine rr_iconst 0 rfl dX5_isWord_26 ?_
      refine rr_istore_n [(0, .ref 13), (1, .ref (1000000 + 6)), (2, .int 0)] dX5_isWord_27 rfl (by decide) rfl ?_
      refine rr_iload_n 2 rfl rfl dX5_isWord_28 ?_
      refine rr_aload_n 1 rfl rfl dX5_isWord_29 ?_
      refine rr_callT (As := []) (rest := [.int 0]) (kc2 := 0) (ks2 := 0) dX5_isWord_30 okJ_length lX5_44 (i9 := 6) rfl rfl rfl (Nat.le_of_ble_eq_true rfl) (Nat.le_of_ble_eq_true rfl) rfl (by omega) (by simp [jj_rk]) (by simp [jj_rk]) ?_
      refine sp_len_6  ?_
      show jj_R _ _ kc ks (jj_S, 782, h, g) 33 [(0, .ref 13), (1, .ref (1000000 + 6)), (2, .int 0)] [.int 6, .int 0] Q
      refine rr_icmp_ge dX5_isWord_33 (fun c => absurd c (by decide)) (fun _ => ?_)
      refine rr_aload_n 0 rfl rfl dX5_isWord_36 ?_
      refine rr_getI dX5_isWord_37 fX5_34 lo_13 sh_13 rfl ?_
      refine rr_iload_n 2 rfl rfl dX5_isWord_40 ?_
      refine rr_iadd dX5_isWord_41 ?_
      refine rr_aload_n 0 rfl rfl dX5_isWord_42 ?_
      refine rr_getI dX5_isWord_43 fX5_22 lo_13 sh_13 rfl ?_
      refine rr_icmp_ge dX5_isWord_46 (fun c3 => ?_) (fun c3 => ?_)
      · skip
        refine rr_iconst 1 rfl dX5_isWord_76 ?_
        refine rr_nreturn dX5_isWord_77 rfl (by first | rfl | assumption) ?_
        simpa only [vX5_isWord_6, if_pos c1, if_pos c2, if_pos c3] using kq
      · skip
        refine rr_aload_n 0 rfl rfl dX5_isWord_49 ?_
        refine rr_getR dX5_isWord_50 fX5_9 lo_13 sh_13 rfl ?_
        refine rr_aload_n 0 rfl rfl dX5_isWord_53 ?_
        refine rr_getI dX5_isWord_54 fX5_34 lo_13 sh_13 rfl ?_
        refine rr_iload_n 2 rfl rfl dX5_isWord_57 ?_
        refine rr_iadd dX5_isWord_58 ?_
        refine rr_baload dX5_isWord_59 lo_14 sh_14 (rd_at (k := 0) rfl (by decide) ho (by assumption)) ?_
        refine rr_aload_n 1 rfl rfl dX5_isWord_60 ?_
        refine rr_iload_n 2 rfl rfl dX5_isWord_61 ?_
        refine rr_callT (As := [.int 0]) (rest := [.int ((h 14) ((((h 13) 6) + 0) : Int32).toNatClampNeg)]) (kc2 := 0) (ks2 := 0) dX5_isWord_62 okJ_charAt lX5_49 (i9 := 6) rfl rfl rfl (Nat.le_of_ble_eq_true rfl) (Nat.le_of_ble_eq_true rfl) rfl (by omega) (by simp [jj_rk]) (by simp [jj_rk]) ?_
        refine sp_ch_6_0  ?_
        show jj_R _ _ kc ks (jj_S, 782, h, g) 65 [(0, .ref 13), (1, .ref (1000000 + 6)), (2, .int 0)] [.int 98, .int ((h 14) ((((h 13) 6) + 0) : Int32).toNatClampNeg)] Q
        refine rr_icmp_eq dX5_isWord_65 (fun c4 => ?_) (fun c4 => ?_)
        · skip
          refine rr_iinc 2 1 [(0, .ref 13), (1, .ref (1000000 + 6)), (2, .int 1)] dX5_isWord_70 rfl rfl (by decide) rfl ?_
          refine rr_goto dX5_isWord_73 ?_
          refine rr_iload_n 2 rfl rfl dX5_isWord_28 ?_
          refine rr_aload_n 1 rfl rfl dX5_isWord_29 ?_
          refine rr_callT (As := []) (rest := [.int 1]) (kc2 := 0) (ks2 := 0) dX5_isWord_30 okJ_length lX5_44 (i9 := 6) rfl rfl rfl (Nat.le_of_ble_eq_true rfl) (Nat.le_of_ble_eq_true rfl) rfl (by omega) (by simp [jj_rk]) (by simp [jj_rk]) ?_
          refine sp_len_6  ?_
          show jj_R _ _ kc ks (jj_S, 782, h, g) 33 [(0, .ref 13), (1, .ref (1000000 + 6)), (2, .int 1)] [.int 6, .int 1] Q
          refine rr_icmp_ge dX5_isWord_33 (fun c => absurd c (by decide)) (fun _ => ?_)
          refine rr_aload_n 0 rfl rfl dX5_isWord_36 ?_
          refine rr_getI dX5_isWord_37 fX5_34 lo_13 sh_13 rfl ?_
          refine rr_iload_n 2 rfl rfl dX5_isWord_40 ?_
          refine rr_iadd dX5_isWord_41 ?_
          refine rr_aload_n 0 rfl rfl dX5_isWord_42 ?_
          refine rr_getI dX5_isWord_43 fX5_22 lo_13 sh_13 rfl ?_
          refine rr_icmp_ge dX5_isWord_46 (fun c5 => ?_) (fun c5 => ?_)
          · skip
            refine rr_iconst 1 rfl dX5_isWord_76 ?_
            refine rr_nreturn dX5_isWord_77 rfl (by first | rfl | assumption) ?_
            simpa only [vX5_isWord_6, if_pos c1, if_pos c2, if_neg c3, if_pos c4, if_pos c5] using kq
          · skip
            refine rr_aload_n 0 rfl rfl dX5_isWord_49 ?_
            refine rr_getR dX5_isWord_50 fX5_9 lo_13 sh_13 rfl ?_
            refine rr_aload_n 0 rfl rfl dX5_isWord_53 ?_
            refine rr_getI dX5_isWord_54 fX5_34 lo_13 sh_13 rfl ?_
            refine rr_iload_n 2 rfl rfl dX5_isWord_57 ?_
            refine rr_iadd dX5_isWord_58 ?_
            refine rr_baload dX5_isWord_59 lo_14 sh_14 (rd_at (k := 1) rfl (by decide) ho (by assumption)) ?_
            refine rr_aload_n 1 rfl rfl dX5_isWord_60 ?_
            refine rr_iload_n 2 rfl rfl dX5_isWord_61 ?_
            refine rr_callT (As := [.int 1]) (rest := [.int ((h 14) ((((h 13) 6) + 1) : Int32).toNatClampNeg)]) (kc2 := 0) (ks2 := 0) dX5_isWord_62 okJ_charAt lX5_49 (i9 := 6) rfl rfl rfl (Nat.le_of_ble_eq_true rfl) (Nat.le_of_ble_eq_true rfl) rfl (by omega) (by simp [jj_rk]) (by simp [jj_rk]) ?_
            refine sp_ch_6_1  ?_
            show jj_R _ _ kc ks (jj_S, 782, h, g) 65 [(0, .ref 13), (1, .ref (1000000 + 6)), (2, .int 1)] [.int 101, .int ((h 14) ((((h 13) 6) + 1) : Int32).toNatClampNeg)] Q
            refine rr_icmp_eq dX5_isWord_65 (fun c6 => ?_) (fun c6 => ?_)
            · skip
              refine rr_iinc 2 1 [(0, .ref 13), (1, .ref (1000000 + 6)), (2, .int 2)] dX5_isWord_70 rfl rfl (by decide) rfl ?_
              refine rr_goto dX5_isWord_73 ?_
              refine rr_iload_n 2 rfl rfl dX5_isWord_28 ?_
              refine rr_aload_n 1 rfl rfl dX5_isWord_29 ?_
              refine rr_callT (As := []) (rest := [.int 2]) (kc2 := 0) (ks2 := 0) dX5_isWord_30 okJ_length lX5_44 (i9 := 6) rfl rfl rfl (Nat.le_of_ble_eq_true rfl) (Nat.le_of_ble_eq_true rfl) rfl (by omega) (by simp [jj_rk]) (by simp [jj_rk]) ?_
              refine sp_len_6  ?_
              show jj_R _ _ kc ks (jj_S, 782, h, g) 33 [(0, .ref 13), (1, .ref (1000000 + 6)), (2, .int 2)] [.int 6, .int 2] Q
              refine rr_icmp_ge dX5_isWord_33 (fun c => absurd c (by decide)) (fun _ => ?_)
              refine rr_aload_n 0 rfl rfl dX5_isWord_36 ?_
              refine rr_getI dX5_isWord_37 fX5_34 lo_13 sh_13 rfl ?_
              refine rr_iload_n 2 rfl rfl dX5_isWord_40 ?_
              refine rr_iadd dX5_isWord_41 ?_
              refine rr_aload_n 0 rfl rfl dX5_isWord_42 ?_
              refine rr_getI dX5_isWord_43 fX5_22 lo_13 sh_13 rfl ?_
              refine rr_icmp_ge dX5_isWord_46 (fun c7 => ?_) (fun c7 => ?_)
              · skip
                refine rr_iconst 1 rfl dX5_isWord_76 ?_
                refine rr_nreturn dX5_isWord_77 rfl (by first | rfl | assumption) ?_
                simpa only [vX5_isWord_6, if_pos c1, if_pos c2, if_neg c3, if_pos c4, if_neg c5, if_pos c6, if_pos c7] using kq
              · skip
                refine rr_aload_n 0 rfl rfl dX5_isWord_49 ?_
                refine rr_getR dX5_isWord_50 fX5_9 lo_13 sh_13 rfl ?_
                refine rr_aload_n 0 rfl rfl dX5_isWord_53 ?_
                refine rr_getI dX5_isWord_54 fX5_34 lo_13 sh_13 rfl ?_
                refine rr_iload_n 2 rfl rfl dX5_isWord_57 ?_
                refine rr_iadd dX5_isWord_58 ?_
                refine rr_baload dX5_isWord_59 lo_14 sh_14 (rd_at (k := 2) rfl (by decide) ho (by assumption)) ?_
                refine rr_aload_n 1 rfl rfl dX5_isWord_60 ?_
                refine rr_iload_n 2 rfl rfl dX5_isWord_61 ?_
                refine rr_callT (As := [.int 2]) (rest := [.int ((h 14) ((((h 13) 6) + 2) : Int32).toNatClampNeg)]) (kc2 := 0) (ks2 := 0) dX5_isWord_62 okJ_charAt lX5_49 (i9 := 6) rfl rfl rfl (Nat.le_of_ble_eq_true rfl) (Nat.le_of_ble_eq_true rfl) rfl (by omega) (by simp [jj_rk]) (by simp [jj_rk]) ?_
                refine sp_ch_6_2  ?_
                show jj_R _ _ kc ks (jj_S, 782, h, g) 65 [(0, .ref 13), (1, .ref (1000000 + 6)), (2, .int 2)] [.int 104, .int ((h 14) ((((h 13) 6) + 2) : Int32).toNatClampNeg)] Q
                refine rr_icmp_eq dX5_isWord_65 (fun c8 => ?_) (fun c8 => ?_)
                · skip
                  refine rr_iinc 2 1 [(0, .ref 13), (1, .ref (1000000 + 6)), (2, .int 3)] dX5_isWord_70 rfl rfl (by decide) rfl ?_
                  refine rr_goto dX5_isWord_73 ?_
                  refine rr_iload_n 2 rfl rfl dX5_isWord_28 ?_
                  refine rr_aload_n 1 rfl rfl dX5_isWord_29 ?_
                  refine rr_callT (As := []) (rest := [.int 3]) (kc2 := 0) (ks2 := 0) dX5_isWord_30 okJ_length lX5_44 (i9 := 6) rfl rfl rfl (Nat.le_of_ble_eq_true rfl) (Nat.le_of_ble_eq_true rfl) rfl (by omega) (by simp [jj_rk]) (by simp [jj_rk]) ?_
                  refine sp_len_6  ?_
                  show jj_R _ _ kc ks (jj_S, 782, h, g) 33 [(0, .ref 13), (1, .ref (1000000 + 6)), (2, .int 3)] [.int 6, .int 3] Q
                  refine rr_icmp_ge dX5_isWord_33 (fun c => absurd c (by decide)) (fun _ => ?_)
                  refine rr_aload_n 0 rfl rfl dX5_isWord_36 ?_
                  refine rr_getI dX5_isWord_37 fX5_34 lo_13 sh_13 rfl ?_
                  refine rr_iload_n 2 rfl rfl dX5_isWord_40 ?_
                  refine rr_iadd dX5_isWord_41 ?_
                  refine rr_aload_n 0 rfl rfl dX5_isWord_42 ?_
                  refine rr_getI dX5_isWord_43 fX5_22 lo_13 sh_13 rfl ?_
                  refine rr_icmp_ge dX5_isWord_46 (fun c9 => ?_) (fun c9 => ?_)
                  · skip
                    refine rr_iconst 1 rfl dX5_isWord_76 ?_
                    refine rr_nreturn dX5_isWord_77 rfl (by first | rfl | assumption) ?_
                    simpa only [vX5_isWord_6, if_pos c1, if_pos c2, if_neg c3, if_pos c4, if_neg c5, if_pos c6, if_neg c7, if_pos c8, if_pos c9] using kq
                  · skip
                    refine rr_aload_n 0 rfl rfl dX5_isWord_49 ?_
                    refine rr_getR dX5_isWord_50 fX5_9 lo_13 sh_13 rfl ?_
                    refine rr_aload_n 0 rfl rfl dX5_isWord_53 ?_
                    refine rr_getI dX5_isWord_54 fX5_34 lo_13 sh_13 rfl ?_
                    refine rr_iload_n 2 rfl rfl dX5_isWord_57 ?_
                    refine rr_iadd dX5_isWord_58 ?_
                    refine rr_baload dX5_isWord_59 lo_14 sh_14 (rd_at (k := 3) rfl (by decide) ho (by assumption)) ?_
                    refine rr_aload_n 1 rfl rfl dX5_isWord_60 ?_
                    refine rr_iload_n 2 rfl rfl dX5_isWord_61 ?_
                    refine rr_callT (As := [.int 3]) (rest := [.int ((h 14) ((((h 13) 6) + 3) : Int32).toNatClampNeg)]) (kc2 := 0) (ks2 := 0) dX5_isWord_62 okJ_charAt lX5_49 (i9 := 6) rfl rfl rfl (Nat.le_of_ble_eq_true rfl) (Nat.le_of_ble_eq_true rfl) rfl (by omega) (by simp [jj_rk]) (by simp [jj_rk]) ?_
                    refine sp_ch_6_3  ?_
                    show jj_R _ _ kc ks (jj_S, 782, h, g) 65 [(0, .ref 13), (1, .ref (1000000 + 6)), (2, .int 3)] [.int 105, .int ((h 14) ((((h 13) 6) + 3) : Int32).toNatClampNeg)] Q
                    refine rr_icmp_eq dX5_isWord_65 (fun c10 => ?_) (fun c10 => ?_)
                    · skip
                      refine rr_iinc 2 1 [(0, .ref 13), (1, .ref (1000000 + 6)), (2, .int 4)] dX5_isWord_70 rfl rfl (by decide) rfl ?_
                      refine rr_goto dX5_isWord_73 ?_
                      refine rr_iload_n 2 rfl rfl dX5_isWord_28 ?_
                      refine rr_aload_n 1 rfl rfl dX5_isWord_29 ?_
                      refine rr_callT (As := []) (rest := [.int 4]) (kc2 := 0) (ks2 := 0) dX5_isWord_30 okJ_length lX5_44 (i9 := 6) rfl rfl rfl (Nat.le_of_ble_eq_true rfl) (Nat.le_of_ble_eq_true rfl) rfl (by omega) (by simp [jj_rk]) (by simp [jj_rk]) ?_
                      refine sp_len_6  ?_
                      show jj_R _ _ kc ks (jj_S, 782, h, g) 33 [(0, .ref 13), (1, .ref (1000000 + 6)), (2, .int 4)] [.int 6, .int 4] Q
                      refine rr_icmp_ge dX5_isWord_33 (fun c => absurd c (by decide)) (fun _ => ?_)
                      refine rr_aload_n 0 rfl rfl dX5_isWord_36 ?_
                      refine rr_getI dX5_isWord_37 fX5_34 lo_13 sh_13 rfl ?_
                      refine rr_iload_n 2 rfl rfl dX5_isWord_40 ?_
                      refine rr_iadd dX5_isWord_41 ?_
                      refine rr_aload_n 0 rfl rfl dX5_isWord_42 ?_
                      refine rr_getI dX5_isWord_43 fX5_22 lo_13 sh_13 rfl ?_
                      refine rr_icmp_ge dX5_isWord_46 (fun c11 => ?_) (fun c11 => ?_)
                      · skip
                        refine rr_iconst 1 rfl dX5_isWord_76 ?_
                        refine rr_nreturn dX5_isWord_77 rfl (by first | rfl | assumption) ?_
                        simpa only [vX5_isWord_6, if_pos c1, if_pos c2, if_neg c3, if_pos c4, if_neg c5, if_pos c6, if_neg c7, if_pos c8, if_neg c9, if_pos c10, if_pos c11] using kq
                      · skip
                        refine rr_aload_n 0 rfl rfl dX5_isWord_49 ?_
                        refine rr_getR dX5_isWord_50 fX5_9 lo_13 sh_13 rfl ?_
                        refine rr_aload_n 0 rfl rfl dX5_isWord_53 ?_
                        refine rr_getI dX5_isWord_54 fX5_34 lo_13 sh_13 rfl ?_
                        refine rr_iload_n 2 rfl rfl dX5_isWord_57 ?_
                        refine rr_iadd dX5_isWord_58 ?_
                        refine rr_baload dX5_isWord_59 lo_14 sh_14 (rd_at (k := 4) rfl (by decide) ho (by assumption)) ?_
                        refine rr_aload_n 1 rfl rfl dX5_isWord_60 ?_
                        refine rr_iload_n 2 rfl rfl dX5_isWord_61 ?_
                        refine rr_callT (As := [.int 4]) (rest := [.int ((h 14) ((((h 13) 6) + 4) : Int32).toNatClampNeg)]) (kc2 := 0) (ks2 := 0) dX5_isWord_62 okJ_charAt lX5_49 (i9 := 6) rfl rfl rfl (Nat.le_of_ble_eq_true rfl) (Nat.le_of_ble_eq_true rfl) rfl (by omega) (by simp [jj_rk]) (by simp [jj_rk]) ?_
                        refine sp_ch_6_4  ?_
                        show jj_R _ _ kc ks (jj_S, 782, h, g) 65 [(0, .ref 13), (1, .ref (1000000 + 6)), (2, .int 4)] [.int 110, .int ((h 14) ((((h 13) 6) + 4) : Int32).toNatClampNeg)] Q
                        refine rr_icmp_eq dX5_isWord_65 (fun c12 => ?_) (fun c12 => ?_)
                        · skip
                          refine rr_iinc 2 1 [(0, .ref 13), (1, .ref (1000000 + 6)), (2, .int 5)] dX5_isWord_70 rfl rfl (by decide) rfl ?_
                          refine rr_goto dX5_isWord_73 ?_
                          refine rr_iload_n 2 rfl rfl dX5_isWord_28 ?_
                          refine rr_aload_n 1 rfl rfl dX5_isWord_29 ?_
                          refine rr_callT (As := []) (rest := [.int 5]) (kc2 := 0) (ks2 := 0) dX5_isWord_30 okJ_length lX5_44 (i9 := 6) rfl rfl rfl (Nat.le_of_ble_eq_true rfl) (Nat.le_of_ble_eq_true rfl) rfl (by omega) (by simp [jj_rk]) (by simp [jj_rk]) ?_
                          refine sp_len_6  ?_
                          show jj_R _ _ kc ks (jj_S, 782, h, g) 33 [(0, .ref 13), (1, .ref (1000000 + 6)), (2, .int 5)] [.int 6, .int 5] Q
                          refine rr_icmp_ge dX5_isWord_33 (fun c => absurd c (by decide)) (fun _ => ?_)
                          refine rr_aload_n 0 rfl rfl dX5_isWord_36 ?_
                          refine rr_getI dX5_isWord_37 fX5_34 lo_13 sh_13 rfl ?_
                          refine rr_iload_n 2 rfl rfl dX5_isWord_40 ?_
                          refine rr_iadd dX5_isWord_41 ?_
                          refine rr_aload_n 0 rfl rfl dX5_isWord_42 ?_
                          refine rr_getI dX5_isWord_43 fX5_22 lo_13 sh_13 rfl ?_
                          refine rr_icmp_ge dX5_isWord_46 (fun c13 => ?_) (fun c13 => ?_)
                          · skip
                            refine rr_iconst 1 rfl dX5_isWord_76 ?_
                            refine rr_nreturn dX5_isWord_77 rfl (by first | rfl | assumption) ?_
                            simpa only [vX5_isWord_6, if_pos c1, if_pos c2, if_neg c3, if_pos c4, if_neg c5, if_pos c6, if_neg c7, if_pos c8, if_neg c9, if_pos c10, if_neg c11, if_pos c12, if_pos c13] using kq
                          · skip
                            refine rr_aload_n 0 rfl rfl dX5_isWord_49 ?_
                            refine rr_getR dX5_isWord_50 fX5_9 lo_13 sh_13 rfl ?_
                            refine rr_aload_n 0 rfl rfl dX5_isWord_53 ?_
                            refine rr_getI dX5_isWord_54 fX5_34 lo_13 sh_13 rfl ?_
                            refine rr_iload_n 2 rfl rfl dX5_isWord_57 ?_
                            refine rr_iadd dX5_isWord_58 ?_
                            refine rr_baload dX5_isWord_59 lo_14 sh_14 (rd_at (k := 5) rfl (by decide) ho (by assumption)) ?_
                            refine rr_aload_n 1 rfl rfl dX5_isWord_60 ?_
                            refine rr_iload_n 2 rfl rfl dX5_isWord_61 ?_
                            refine rr_callT (As := [.int 5]) (rest := [.int ((h 14) ((((h 13) 6) + 5) : Int32).toNatClampNeg)]) (kc2 := 0) (ks2 := 0) dX5_isWord_62 okJ_charAt lX5_49 (i9 := 6) rfl rfl rfl (Nat.le_of_ble_eq_true rfl) (Nat.le_of_ble_eq_true rfl) rfl (by omega) (by simp [jj_rk]) (by simp [jj_rk]) ?_
                            refine sp_ch_6_5  ?_
                            show jj_R _ _ kc ks (jj_S, 782, h, g) 65 [(0, .ref 13), (1, .ref (1000000 + 6)), (2, .int 5)] [.int 100, .int ((h 14) ((((h 13) 6) + 5) : Int32).toNatClampNeg)] Q
                            refine rr_icmp_eq dX5_isWord_65 (fun c14 => ?_) (fun c14 => ?_)
                            · skip
                              refine rr_iinc 2 1 [(0, .ref 13), (1, .ref (1000000 + 6)), (2, .int 6)] dX5_isWord_70 rfl rfl (by decide) rfl ?_
                              refine rr_goto dX5_isWord_73 ?_
                              refine rr_iload_n 2 rfl rfl dX5_isWord_28 ?_
                              refine rr_aload_n 1 rfl rfl dX5_isWord_29 ?_
                              refine rr_callT (As := []) (rest := [.int 6]) (kc2 := 0) (ks2 := 0) dX5_isWord_30 okJ_length lX5_44 (i9 := 6) rfl rfl rfl (Nat.le_of_ble_eq_true rfl) (Nat.le_of_ble_eq_true rfl) rfl (by omega) (by simp [jj_rk]) (by simp [jj_rk]) ?_
                              refine sp_len_6  ?_
                              show jj_R _ _ kc ks (jj_S, 782, h, g) 33 [(0, .ref 13), (1, .ref (1000000 + 6)), (2, .int 6)] [.int 6, .int 6] Q
                              refine rr_icmp_ge dX5_isWord_33 (fun _ => ?_) (fun c => absurd (by decide) c)
                              refine rr_iconst 1 rfl dX5_isWord_76 ?_
                              refine rr_nreturn dX5_isWord_77 rfl (by first | rfl | assumption) ?_
                              simpa only [vX5_isWord_6, if_pos c1, if_pos c2, if_neg c3, if_pos c4, if_neg c5, if_pos c6, if_neg c7, if_pos c8, if_neg c9, if_pos c10, if_neg c11, if_pos c12, if_neg c13, if_pos c14] using kq
                            · skip
                              refine rr_iconst 0 rfl dX5_isWord_68 ?_
                              refine rr_nreturn dX5_isWord_69 rfl (by first | rfl | assumption) ?_
                              simpa only [vX5_isWord_6, if_pos c1, if_pos c2, if_neg c3, if_pos c4, if_neg c5, if_pos c6, if_neg c7, if_pos c8, if_neg c9, if_pos c10, if_neg c11, if_pos c12, if_neg c13, if_neg c14] using kq
                        · skip
                          refine rr_iconst 0 rfl dX5_isWord_68 ?_
                          refine rr_nreturn dX5_isWord_69 rfl (by first | rfl | assumption) ?_
                          simpa only [vX5_isWord_6, if_pos c1, if_pos c2, if_neg c3, if_pos c4, if_neg c5, if_pos c6, if_neg c7, if_pos c8, if_neg c9, if_pos c10, if_neg c11, if_neg c12] using kq
                    · skip
                      refine rr_iconst 0 rfl dX5_isWord_68 ?_
                      refine rr_nreturn dX5_isWord_69 rfl (by first | rfl | assumption) ?_
                      simpa only [vX5_isWord_6, if_pos c1, if_pos c2, if_neg c3, if_pos c4, if_neg c5, if_pos c6, if_neg c7, if_pos c8, if_neg c9, if_neg c10] using kq
                · skip
                  refine rr_iconst 0 rfl dX5_isWord_68 ?_
                  refine rr_nreturn dX5_isWord_69 rfl (by first | rfl | assumption) ?_
                  simpa only [vX5_isWord_6, if_pos c1, if_pos c2, if_neg c3, if_pos c4, if_neg c5, if_pos c6, if_neg c7, if_neg c8] using kq
            · skip
              refine rr_iconst 0 rfl dX5_isWord_68 ?_
              refine rr_nreturn dX5_isWord_69 rfl (by first | rfl | assumption) ?_
              simpa only [vX5_isWord_6, if_pos c1, if_pos c2, if_neg c3, if_pos c4, if_neg c5, if_neg c6] using kq
        · skip
          refine rr_iconst 0 rfl dX5_isWord_68 ?_
          refine rr_nreturn dX5_isWord_69 rfl (by first | rfl | assumption) ?_
          simpa only [vX5_isWord_6, if_pos c1, if_pos c2, if_neg c3, if_neg c4] using kq
    · skip
      refine rr_iconst 0 rfl dX5_isWord_24 ?_
      refine rr_nreturn dX5_isWord_25 rfl (by first | rfl | assumption) ?_
      simpa only [vX5_isWord_6, if_pos c1, if_neg c2] using kq
def vX5_isWord_7 (r13 : Nat → Int32) (r14 : Nat → Int32) : Int32 := (if (r13 4) = 2 then (if ((r13 3) - (r13 6)) = 6 then (if (r13 2) ≤ ((r13 6) + 0) then 1 else (if (r14 (((r13 6) + 0) : Int32).toNatClampNeg) = 100 then (if (r13 2) ≤ ((r13 6) + 1) then 1 else (if (r14 (((r13 6) + 1) : Int32).toNatClampNeg) = 111 then (if (r13 2) ≤ ((r13 6) + 2) then 1 else (if (r14 (((r13 6) + 2) : Int32).toNatClampNeg) = 117 then (if (r13 2) ≤ ((r13 6) + 3) then 1 else (if (r14 (((r13 6) + 3) : Int32).toNatClampNeg) = 98 then (if (r13 2) ≤ ((r13 6) + 4) then 1 else (if (r14 (((r13 6) + 4) : Int32).toNatClampNeg) = 108 then (if (r13 2) ≤ ((r13 6) + 5) then 1 else (if (r14 (((r13 6) + 5) : Int32).toNatClampNeg) = 101 then 1 else 0)) else 0)) else 0)) else 0)) else 0)) else 0)) else 0) else 0)
set_option maxHeartbeats 1000000 in
theorem sp_X5_isWord_7 {d kc ks : Nat} {h : Nat → Nat → Int32} {g : Nat → Nat → Int64} {Q : jj_Rs → jj_St → Prop}  (ho : rdat (h 13)) (kq : Q (.inl (some (.int (vX5_isWord_7 (h 13) (h 14))))) (jj_S, 782, h, g)) : jj_R mX5_isWord (d + 4) kc ks (jj_S, 782, h, g) 0 [(0, .ref 13), (1, .ref (1000000 + 7))] [] Q := by
  refine rr_aload_n 0 rfl rfl dX5_isWord_0 ?_
  refine rr_getI dX5_isWord_1 fX5_37 lo_13 sh_13 rfl ?_
  refine rr_iconst 2 rfl dX5_isWord_4 ?_
  refine rr_icmp_ne dX5_isWord_5 (fun c1 => ?_) (fun c1 => ?_)
  · skip
    refine rr_iconst 0 rfl dX5_isWord_24 ?_
    refine rr_nreturn dX5_isWord_25 rfl (by first | rfl | assumption) ?_
    simpa only [vX5_isWord_7, if_neg c1] using kq
  · skip
    refine rr_aload_n 0 rfl rfl dX5_isWord_8 ?_
    refine rr_getI dX5_isWord_9 fX5_25 lo_13 sh_13 rfl ?_
    refine rr_aload_n 0 rfl rfl dX5_isWord_12 ?_
    refine rr_getI dX5_isWord_13 fX5_34 lo_13 sh_13 rfl ?_
    refine rr_isub dX5_isWord_16 ?_
    refine rr_aload_n 1 rfl rfl dX5_isWord_17 ?_
    refine rr_callT (As := []) (rest := [.int (((h 13) 3) - ((h 13) 6))]) (kc2 := 0) (ks2 := 0) dX5_isWord_18 okJ_length lX5_44 (i9 := 7) rfl rfl rfl (Nat.le_of_ble_eq_true rfl) (Nat.le_of_ble_eq_true rfl) rfl (by omega) (by simp [jj_rk]) (by simp [jj_rk]) ?_
    refine sp_len_7  ?_
    show jj_R _ _ kc ks (jj_S, 782, h, g) 21 [(0, .ref 13), (1, .ref (1000000 + 7))] [.int 6, .int (((h 13) 3) - ((h 13) 6))] Q
    refine rr_icmp_eq dX5_isWord_21 (fun c2 => ?_) (fun c2 => ?_)
    · skip
      refine rr_iconst 0 rfl dX5_isWord_26 ?_
      refine rr_istore_n [(0, .ref 13), (1, .ref (1000000 + 7)), (2, .int 0)] dX5_isWord_27 rfl (by decide) rfl ?_
      refine rr_iload_n 2 rfl rfl dX5_isWord_28 ?_
      refine rr_aload_n 1 rfl rfl dX5_isWord_29 ?_
      refine rr_callT (As := []) (rest := [.int 0]) (kc2 := 0) (ks2 := 0) dX5_isWord_30 okJ_length lX5_44 (i9 := 7) rfl rfl rfl (Nat.le_of_ble_eq_true rfl) (Nat.le_of_ble_eq_true rfl) rfl (by omega) (by simp [jj_rk]) (by simp [jj_rk]) ?_
      refine sp_len_7  ?_
      show jj_R _ _ kc ks (jj_S, 782, h, g) 33 [(0, .ref 13), (1, .ref (1000000 + 7)), (2, .int 0)] [.int 6, .int 0] Q
      refine rr_icmp_ge dX5_isWord_33 (fun c => absurd c (by decide)) (fun _ => ?_)
      refine rr_aload_n 0 rfl rfl dX5_isWord_36 ?_
      refine rr_getI dX5_isWord_37 fX5_34 lo_13 sh_13 rfl ?_
      refine rr_iload_n 2 rfl rfl dX5_isWord_40 ?_
      refine rr_iadd dX5_isWord_41 ?_
      refine rr_aload_n 0 rfl rfl dX5_isWord_42 ?_
      refine rr_getI dX5_isWord_43 fX5_22 lo_13 sh_13 rfl ?_
      refine rr_icmp_ge dX5_isWord_46 (fun c3 => ?_) (fun c3 => ?_)
      · skip
        refine rr_iconst 1 rfl dX5_isWord_76 ?_
        refine rr_nreturn dX5_isWord_77 rfl (by first | rfl | assumption) ?_
        simpa only [vX5_isWord_7, if_pos c1, if_pos c2, if_pos c3] using kq
      · skip
        refine rr_aload_n 0 rfl rfl dX5_isWord_49 ?_
        refine rr_getR dX5_isWord_50 fX5_9 lo_13 sh_13 rfl ?_
        refine rr_aload_n 0 rfl rfl dX5_isWord_53 ?_
        refine rr_getI dX5_isWord_54 fX5_34 lo_13 sh_13 rfl ?_
        refine rr_iload_n 2 rfl rfl dX5_isWord_57 ?_
        refine rr_iadd dX5_isWord_58 ?_
        refine rr_baload dX5_isWord_59 lo_14 sh_14 (rd_at (k := 0) rfl (by decide) ho (by assumption)) ?_
        refine rr_aload_n 1 rfl rfl dX5_isWord_60 ?_
        refine rr_iload_n 2 rfl rfl dX5_isWord_61 ?_
        refine rr_callT (As := [.int 0]) (rest := [.int ((h 14) ((((h 13) 6) + 0) : Int32).toNatClampNeg)]) (kc2 := 0) (ks2 := 0) dX5_isWord_62 okJ_charAt lX5_49 (i9 := 7) rfl rfl rfl (Nat.le_of_ble_eq_true rfl) (Nat.le_of_ble_eq_true rfl) rfl (by omega) (by simp [jj_rk]) (by simp [jj_rk]) ?_
        refine sp_ch_7_0  ?_
        show jj_R _ _ kc ks (jj_S, 782, h, g) 65 [(0, .ref 13), (1, .ref (1000000 + 7)), (2, .int 0)] [.int 100, .int ((h 14) ((((h 13) 6) + 0) : Int32).toNatClampNeg)] Q
        refine rr_icmp_eq dX5_isWord_65 (fun c4 => ?_) (fun c4 => ?_)
        · skip
          refine rr_iinc 2 1 [(0, .ref 13), (1, .ref (1000000 + 7)), (2, .int 1)] dX5_isWord_70 rfl rfl (by decide) rfl ?_
          refine rr_goto dX5_isWord_73 ?_
          refine rr_iload_n 2 rfl rfl dX5_isWord_28 ?_
          refine rr_aload_n 1 rfl rfl dX5_isWord_29 ?_
          refine rr_callT (As := []) (rest := [.int 1]) (kc2 := 0) (ks2 := 0) dX5_isWord_30 okJ_length lX5_44 (i9 := 7) rfl rfl rfl (Nat.le_of_ble_eq_true rfl) (Nat.le_of_ble_eq_true rfl) rfl (by omega) (by simp [jj_rk]) (by simp [jj_rk]) ?_
          refine sp_len_7  ?_
          show jj_R _ _ kc ks (jj_S, 782, h, g) 33 [(0, .ref 13), (1, .ref (1000000 + 7)), (2, .int 1)] [.int 6, .int 1] Q
          refine rr_icmp_ge dX5_isWord_33 (fun c => absurd c (by decide)) (fun _ => ?_)
          refine rr_aload_n 0 rfl rfl dX5_isWord_36 ?_
          refine rr_getI dX5_isWord_37 fX5_34 lo_13 sh_13 rfl ?_
          refine rr_iload_n 2 rfl rfl dX5_isWord_40 ?_
          refine rr_iadd dX5_isWord_41 ?_
          refine rr_aload_n 0 rfl rfl dX5_isWord_42 ?_
          refine rr_getI dX5_isWord_43 fX5_22 lo_13 sh_13 rfl ?_
          refine rr_icmp_ge dX5_isWord_46 (fun c5 => ?_) (fun c5 => ?_)
          · skip
            refine rr_iconst 1 rfl dX5_isWord_76 ?_
            refine rr_nreturn dX5_isWord_77 rfl (by first | rfl | assumption) ?_
            simpa only [vX5_isWord_7, if_pos c1, if_pos c2, if_neg c3, if_pos c4, if_pos c5] using kq
          · skip
            refine rr_aload_n 0 rfl rfl dX5_isWord_49 ?_
            refine rr_getR dX5_isWord_50 fX5_9 lo_13 sh_13 rfl ?_
            refine rr_aload_n 0 rfl rfl dX5_isWord_53 ?_
            refine rr_getI dX5_isWord_54 fX5_34 lo_13 sh_13 rfl ?_
            refine rr_iload_n 2 rfl rfl dX5_isWord_57 ?_
            refine rr_iadd dX5_isWord_58 ?_
            refine rr_baload dX5_isWord_59 lo_14 sh_14 (rd_at (k := 1) rfl (by decide) ho (by assumption)) ?_
            refine rr_aload_n 1 rfl rfl dX5_isWord_60 ?_
            refine rr_iload_n 2 rfl rfl dX5_isWord_61 ?_
            refine rr_callT (As := [.int 1]) (rest := [.int ((h 14) ((((h 13) 6) + 1) : Int32).toNatClampNeg)]) (kc2 := 0) (ks2 := 0) dX5_isWord_62 okJ_charAt lX5_49 (i9 := 7) rfl rfl rfl (Nat.le_of_ble_eq_true rfl) (Nat.le_of_ble_eq_true rfl) rfl (by omega) (by simp [jj_rk]) (by simp [jj_rk]) ?_
            refine sp_ch_7_1  ?_
            show jj_R _ _ kc ks (jj_S, 782, h, g) 65 [(0, .ref 13), (1, .ref (1000000 + 7)), (2, .int 1)] [.int 111, .int ((h 14) ((((h 13) 6) + 1) : Int32).toNatClampNeg)] Q
            refine rr_icmp_eq dX5_isWord_65 (fun c6 => ?_) (fun c6 => ?_)
            · skip
              refine rr_iinc 2 1 [(0, .ref 13), (1, .ref (1000000 + 7)), (2, .int 2)] dX5_isWord_70 rfl rfl (by decide) rfl ?_
              refine rr_goto dX5_isWord_73 ?_
              refine rr_iload_n 2 rfl rfl dX5_isWord_28 ?_
              refine rr_aload_n 1 rfl rfl dX5_isWord_29 ?_
              refine rr_callT (As := []) (rest := [.int 2]) (kc2 := 0) (ks2 := 0) dX5_isWord_30 okJ_length lX5_44 (i9 := 7) rfl rfl rfl (Nat.le_of_ble_eq_true rfl) (Nat.le_of_ble_eq_true rfl) rfl (by omega) (by simp [jj_rk]) (by simp [jj_rk]) ?_
              refine sp_len_7  ?_
              show jj_R _ _ kc ks (jj_S, 782, h, g) 33 [(0, .ref 13), (1, .ref (1000000 + 7)), (2, .int 2)] [.int 6, .int 2] Q
              refine rr_icmp_ge dX5_isWord_33 (fun c => absurd c (by decide)) (fun _ => ?_)
              refine rr_aload_n 0 rfl rfl dX5_isWord_36 ?_
              refine rr_getI dX5_isWord_37 fX5_34 lo_13 sh_13 rfl ?_
              refine rr_iload_n 2 rfl rfl dX5_isWord_40 ?_
              refine rr_iadd dX5_isWord_41 ?_
              refine rr_aload_n 0 rfl rfl dX5_isWord_42 ?_
              refine rr_getI dX5_isWord_43 fX5_22 lo_13 sh_13 rfl ?_
              refine rr_icmp_ge dX5_isWord_46 (fun c7 => ?_) (fun c7 => ?_)
              · skip
                refine rr_iconst 1 rfl dX5_isWord_76 ?_
                refine rr_nreturn dX5_isWord_77 rfl (by first | rfl | assumption) ?_
                simpa only [vX5_isWord_7, if_pos c1, if_pos c2, if_neg c3, if_pos c4, if_neg c5, if_pos c6, if_pos c7] using kq
              · skip
                refine rr_aload_n 0 rfl rfl dX5_isWord_49 ?_
                refine rr_getR dX5_isWord_50 fX5_9 lo_13 sh_13 rfl ?_
                refine rr_aload_n 0 rfl rfl dX5_isWord_53 ?_
                refine rr_getI dX5_isWord_54 fX5_34 lo_13 sh_13 rfl ?_
                refine rr_iload_n 2 rfl rfl dX5_isWord_57 ?_
                refine rr_iadd dX5_isWord_58 ?_
                refine rr_baload dX5_isWord_59 lo_14 sh_14 (rd_at (k := 2) rfl (by decide) ho (by assumption)) ?_
                refine rr_aload_n 1 rfl rfl dX5_isWord_60 ?_
                refine rr_iload_n 2 rfl rfl dX5_isWord_61 ?_
                refine rr_callT (As := [.int 2]) (rest := [.int ((h 14) ((((h 13) 6) + 2) : Int32).toNatClampNeg)]) (kc2 := 0) (ks2 := 0) dX5_isWord_62 okJ_charAt lX5_49 (i9 := 7) rfl rfl rfl (Nat.le_of_ble_eq_true rfl) (Nat.le_of_ble_eq_true rfl) rfl (by omega) (by simp [jj_rk]) (by simp [jj_rk]) ?_
                refine sp_ch_7_2  ?_
                show jj_R _ _ kc ks (jj_S, 782, h, g) 65 [(0, .ref 13), (1, .ref (1000000 + 7)), (2, .int 2)] [.int 117, .int ((h 14) ((((h 13) 6) + 2) : Int32).toNatClampNeg)] Q
                refine rr_icmp_eq dX5_isWord_65 (fun c8 => ?_) (fun c8 => ?_)
                · skip
                  refine rr_iinc 2 1 [(0, .ref 13), (1, .ref (1000000 + 7)), (2, .int 3)] dX5_isWord_70 rfl rfl (by decide) rfl ?_
                  refine rr_goto dX5_isWord_73 ?_
                  refine rr_iload_n 2 rfl rfl dX5_isWord_28 ?_
                  refine rr_aload_n 1 rfl rfl dX5_isWord_29 ?_
                  refine rr_callT (As := []) (rest := [.int 3]) (kc2 := 0) (ks2 := 0) dX5_isWord_30 okJ_length lX5_44 (i9 := 7) rfl rfl rfl (Nat.le_of_ble_eq_true rfl) (Nat.le_of_ble_eq_true rfl) rfl (by omega) (by simp [jj_rk]) (by simp [jj_rk]) ?_
                  refine sp_len_7  ?_
                  show jj_R _ _ kc ks (jj_S, 782, h, g) 33 [(0, .ref 13), (1, .ref (1000000 + 7)), (2, .int 3)] [.int 6, .int 3] Q
                  refine rr_icmp_ge dX5_isWord_33 (fun c => absurd c (by decide)) (fun _ => ?_)
                  refine rr_aload_n 0 rfl rfl dX5_isWord_36 ?_
                  refine rr_getI dX5_isWord_37 fX5_34 lo_13 sh_13 rfl ?_
                  refine rr_iload_n 2 rfl rfl dX5_isWord_40 ?_
                  refine rr_iadd dX5_isWord_41 ?_
                  refine rr_aload_n 0 rfl rfl dX5_isWord_42 ?_
                  refine rr_getI dX5_isWord_43 fX5_22 lo_13 sh_13 rfl ?_
                  refine rr_icmp_ge dX5_isWord_46 (fun c9 => ?_) (fun c9 => ?_)
                  · skip
                    refine rr_iconst 1 rfl dX5_isWord_76 ?_
                    refine rr_nreturn dX5_isWord_77 rfl (by first | rfl | assumption) ?_
                    simpa only [vX5_isWord_7, if_pos c1, if_pos c2, if_neg c3, if_pos c4, if_neg c5, if_pos c6, if_neg c7, if_pos c8, if_pos c9] using kq
                  · skip
                    refine rr_aload_n 0 rfl rfl dX5_isWord_49 ?_
                    refine rr_getR dX5_isWord_50 fX5_9 lo_13 sh_13 rfl ?_
                    refine rr_aload_n 0 rfl rfl dX5_isWord_53 ?_
                    refine rr_getI dX5_isWord_54 fX5_34 lo_13 sh_13 rfl ?_
                    refine rr_iload_n 2 rfl rfl dX5_isWord_57 ?_
                    refine rr_iadd dX5_isWord_58 ?_
                    refine rr_baload dX5_isWord_59 lo_14 sh_14 (rd_at (k := 3) rfl (by decide) ho (by assumption)) ?_
                    refine rr_aload_n 1 rfl rfl dX5_isWord_60 ?_
                    refine rr_iload_n 2 rfl rfl dX5_isWord_61 ?_
                    refine rr_callT (As := [.int 3]) (rest := [.int ((h 14) ((((h 13) 6) + 3) : Int32).toNatClampNeg)]) (kc2 := 0) (ks2 := 0) dX5_isWord_62 okJ_charAt lX5_49 (i9 := 7) rfl rfl rfl (Nat.le_of_ble_eq_true rfl) (Nat.le_of_ble_eq_true rfl) rfl (by omega) (by simp [jj_rk]) (by simp [jj_rk]) ?_
                    refine sp_ch_7_3  ?_
                    show jj_R _ _ kc ks (jj_S, 782, h, g) 65 [(0, .ref 13), (1, .ref (1000000 + 7)), (2, .int 3)] [.int 98, .int ((h 14) ((((h 13) 6) + 3) : Int32).toNatClampNeg)] Q
                    refine rr_icmp_eq dX5_isWord_65 (fun c10 => ?_) (fun c10 => ?_)
                    · skip
                      refine rr_iinc 2 1 [(0, .ref 13), (1, .ref (1000000 + 7)), (2, .int 4)] dX5_isWord_70 rfl rfl (by decide) rfl ?_
                      refine rr_goto dX5_isWord_73 ?_
                      refine rr_iload_n 2 rfl rfl dX5_isWord_28 ?_
                      refine rr_aload_n 1 rfl rfl dX5_isWord_29 ?_
                      refine rr_callT (As := []) (rest := [.int 4]) (kc2 := 0) (ks2 := 0) dX5_isWord_30 okJ_length lX5_44 (i9 := 7) rfl rfl rfl (Nat.le_of_ble_eq_true rfl) (Nat.le_of_ble_eq_true rfl) rfl (by omega) (by simp [jj_rk]) (by simp [jj_rk]) ?_
                      refine sp_len_7  ?_
                      show jj_R _ _ kc ks (jj_S, 782, h, g) 33 [(0, .ref 13), (1, .ref (1000000 + 7)), (2, .int 4)] [.int 6, .int 4] Q
                      refine rr_icmp_ge dX5_isWord_33 (fun c => absurd c (by decide)) (fun _ => ?_)
                      refine rr_aload_n 0 rfl rfl dX5_isWord_36 ?_
                      refine rr_getI dX5_isWord_37 fX5_34 lo_13 sh_13 rfl ?_
                      refine rr_iload_n 2 rfl rfl dX5_isWord_40 ?_
                      refine rr_iadd dX5_isWord_41 ?_
                      refine rr_aload_n 0 rfl rfl dX5_isWord_42 ?_
                      refine rr_getI dX5_isWord_43 fX5_22 lo_13 sh_13 rfl ?_
                      refine rr_icmp_ge dX5_isWord_46 (fun c11 => ?_) (fun c11 => ?_)
                      · skip
                        refine rr_iconst 1 rfl dX5_isWord_76 ?_
                        refine rr_nreturn dX5_isWord_77 rfl (by first | rfl | assumption) ?_
                        simpa only [vX5_isWord_7, if_pos c1, if_pos c2, if_neg c3, if_pos c4, if_neg c5, if_pos c6, if_neg c7, if_pos c8, if_neg c9, if_pos c10, if_pos c11] using kq
                      · skip
                        refine rr_aload_n 0 rfl rfl dX5_isWord_49 ?_
                        refine rr_getR dX5_isWord_50 fX5_9 lo_13 sh_13 rfl ?_
                        refine rr_aload_n 0 rfl rfl dX5_isWord_53 ?_
                        refine rr_getI dX5_isWord_54 fX5_34 lo_13 sh_13 rfl ?_
                        refine rr_iload_n 2 rfl rfl dX5_isWord_57 ?_
                        refine rr_iadd dX5_isWord_58 ?_
                        refine rr_baload dX5_isWord_59 lo_14 sh_14 (rd_at (k := 4) rfl (by decide) ho (by assumption)) ?_
                        refine rr_aload_n 1 rfl rfl dX5_isWord_60 ?_
                        refine rr_iload_n 2 rfl rfl dX5_isWord_61 ?_
                        refine rr_callT (As := [.int 4]) (rest := [.int ((h 14) ((((h 13) 6) + 4) : Int32).toNatClampNeg)]) (kc2 := 0) (ks2 := 0) dX5_isWord_62 okJ_charAt lX5_49 (i9 := 7) rfl rfl rfl (Nat.le_of_ble_eq_true rfl) (Nat.le_of_ble_eq_true rfl) rfl (by omega) (by simp [jj_rk]) (by simp [jj_rk]) ?_
                        refine sp_ch_7_4  ?_
                        show jj_R _ _ kc ks (jj_S, 782, h, g) 65 [(0, .ref 13), (1, .ref (1000000 + 7)), (2, .int 4)] [.int 108, .int ((h 14) ((((h 13) 6) + 4) : Int32).toNatClampNeg)] Q
                        refine rr_icmp_eq dX5_isWord_65 (fun c12 => ?_) (fun c12 => ?_)
                        · skip
                          refine rr_iinc 2 1 [(0, .ref 13), (1, .ref (1000000 + 7)), (2, .int 5)] dX5_isWord_70 rfl rfl (by decide) rfl ?_
                          refine rr_goto dX5_isWord_73 ?_
                          refine rr_iload_n 2 rfl rfl dX5_isWord_28 ?_
                          refine rr_aload_n 1 rfl rfl dX5_isWord_29 ?_
                          refine rr_callT (As := []) (rest := [.int 5]) (kc2 := 0) (ks2 := 0) dX5_isWord_30 okJ_length lX5_44 (i9 := 7) rfl rfl rfl (Nat.le_of_ble_eq_true rfl) (Nat.le_of_ble_eq_true rfl) rfl (by omega) (by simp [jj_rk]) (by simp [jj_rk]) ?_
                          refine sp_len_7  ?_
                          show jj_R _ _ kc ks (jj_S, 782, h, g) 33 [(0, .ref 13), (1, .ref (1000000 + 7)), (2, .int 5)] [.int 6, .int 5] Q
                          refine rr_icmp_ge dX5_isWord_33 (fun c => absurd c (by decide)) (fun _ => ?_)
                          refine rr_aload_n 0 rfl rfl dX5_isWord_36 ?_
                          refine rr_getI dX5_isWord_37 fX5_34 lo_13 sh_13 rfl ?_
                          refine rr_iload_n 2 rfl rfl dX5_isWord_40 ?_
                          refine rr_iadd dX5_isWord_41 ?_
                          refine rr_aload_n 0 rfl rfl dX5_isWord_42 ?_
                          refine rr_getI dX5_isWord_43 fX5_22 lo_13 sh_13 rfl ?_
                          refine rr_icmp_ge dX5_isWord_46 (fun c13 => ?_) (fun c13 => ?_)
                          · skip
                            refine rr_iconst 1 rfl dX5_isWord_76 ?_
                            refine rr_nreturn dX5_isWord_77 rfl (by first | rfl | assumption) ?_
                            simpa only [vX5_isWord_7, if_pos c1, if_pos c2, if_neg c3, if_pos c4, if_neg c5, if_pos c6, if_neg c7, if_pos c8, if_neg c9, if_pos c10, if_neg c11, if_pos c12, if_pos c13] using kq
                          · skip
                            refine rr_aload_n 0 rfl rfl dX5_isWord_49 ?_
                            refine rr_getR dX5_isWord_50 fX5_9 lo_13 sh_13 rfl ?_
                            refine rr_aload_n 0 rfl rfl dX5_isWord_53 ?_
                            refine rr_getI dX5_isWord_54 fX5_34 lo_13 sh_13 rfl ?_
                            refine rr_iload_n 2 rfl rfl dX5_isWord_57 ?_
                            refine rr_iadd dX5_isWord_58 ?_
                            refine rr_baload dX5_isWord_59 lo_14 sh_14 (rd_at (k := 5) rfl (by decide) ho (by assumption)) ?_
                            refine rr_aload_n 1 rfl rfl dX5_isWord_60 ?_
                            refine rr_iload_n 2 rfl rfl dX5_isWord_61 ?_
                            refine rr_callT (As := [.int 5]) (rest := [.int ((h 14) ((((h 13) 6) + 5) : Int32).toNatClampNeg)]) (kc2 := 0) (ks2 := 0) dX5_isWord_62 okJ_charAt lX5_49 (i9 := 7) rfl rfl rfl (Nat.le_of_ble_eq_true rfl) (Nat.le_of_ble_eq_true rfl) rfl (by omega) (by simp [jj_rk]) (by simp [jj_rk]) ?_
                            refine sp_ch_7_5  ?_
                            show jj_R _ _ kc ks (jj_S, 782, h, g) 65 [(0, .ref 13), (1, .ref (1000000 + 7)), (2, .int 5)] [.int 101, .int ((h 14) ((((h 13) 6) + 5) : Int32).toNatClampNeg)] Q
                            refine rr_icmp_eq dX5_isWord_65 (fun c14 => ?_) (fun c14 => ?_)
                            · skip
                              refine rr_iinc 2 1 [(0, .ref 13), (1, .ref (1000000 + 7)), (2, .int 6)] dX5_isWord_70 rfl rfl (by decide) rfl ?_
                              refine rr_goto dX5_isWord_73 ?_
                              refine rr_iload_n 2 rfl rfl dX5_isWord_28 ?_
                              refine rr_aload_n 1 rfl rfl dX5_isWord_29 ?_
                              refine rr_callT (As := []) (rest := [.int 6]) (kc2 := 0) (ks2 := 0) dX5_isWord_30 okJ_length lX5_44 (i9 := 7) rfl rfl rfl (Nat.le_of_ble_eq_true rfl) (Nat.le_of_ble_eq_true rfl) rfl (by omega) (by simp [jj_rk]) (by simp [jj_rk]) ?_
                              refine sp_len_7  ?_
                              show jj_R _ _ kc ks (jj_S, 782, h, g) 33 [(0, .ref 13), (1, .ref (1000000 + 7)), (2, .int 6)] [.int 6, .int 6] Q
                              refine rr_icmp_ge dX5_isWord_33 (fun _ => ?_) (fun c => absurd (by decide) c)
                              refine rr_iconst 1 rfl dX5_isWord_76 ?_
                              refine rr_nreturn dX5_isWord_77 rfl (by first | rfl | assumption) ?_
                              simpa only [vX5_isWord_7, if_pos c1, if_pos c2, if_neg c3, if_pos c4, if_neg c5, if_pos c6, if_neg c7, if_pos c8, if_neg c9, if_pos c10, if_neg c11, if_pos c12, if_neg c13, if_pos c14] using kq
                            · skip
                              refine rr_iconst 0 rfl dX5_isWord_68 ?_
                              refine rr_nreturn dX5_isWord_69 rfl (by first | rfl | assumption) ?_
                              simpa only [vX5_isWord_7, if_pos c1, if_pos c2, if_neg c3, if_pos c4, if_neg c5, if_pos c6, if_neg c7, if_pos c8, if_neg c9, if_pos c10, if_neg c11, if_pos c12, if_neg c13, if_neg c14] using kq
                        · skip
                          refine rr_iconst 0 rfl dX5_isWord_68 ?_
                          refine rr_nreturn dX5_isWord_69 rfl (by first | rfl | assumption) ?_
                          simpa only [vX5_isWord_7, if_pos c1, if_pos c2, if_neg c3, if_pos c4, if_neg c5, if_pos c6, if_neg c7, if_pos c8, if_neg c9, if_pos c10, if_neg c11, if_neg c12] using kq
                    · skip
                      refine rr_iconst 0 rfl dX5_isWord_68 ?_
                      refine rr_nreturn dX5_isWord_69 rfl (by first | rfl | assumption) ?_
                      simpa only [vX5_isWord_7, if_pos c1, if_pos c2, if_neg c3, if_pos c4, if_neg c5, if_pos c6, if_neg c7, if_pos c8, if_neg c9, if_neg c10] using kq
                · skip
                  refine rr_iconst 0 rfl dX5_isWord_68 ?_
                  refine rr_nreturn dX5_isWord_69 rfl (by first | rfl | assumption) ?_
                  simpa only [vX5_isWord_7, if_pos c1, if_pos c2, if_neg c3, if_pos c4, if_neg c5, if_pos c6, if_neg c7, if_neg c8] using kq
            · skip
              refine rr_iconst 0 rfl dX5_isWord_68 ?_
              refine rr_nreturn dX5_isWord_69 rfl (by first | rfl | assumption) ?_
              simpa only [vX5_isWord_7, if_pos c1, if_pos c2, if_neg c3, if_pos c4, if_neg c5, if_neg c6] using kq
        · skip
          refine rr_iconst 0 rfl dX5_isWord_68 ?_
          refine rr_nreturn dX5_isWord_69 rfl (by first | rfl | assumption) ?_
          simpa only [vX5_isWord_7, if_pos c1, if_pos c2, if_neg c3, if_neg c4] using kq
    · skip
      refine rr_iconst 0 rfl dX5_isWord_24 ?_
      refine rr_nreturn dX5_isWord_25 rfl (by first | rfl | assumption) ?_
      simpa only [vX5_isWord_7, if_pos c1, if_neg c2] using kq
def vX5_isWord_8 (r13 : Nat → Int32) (r14 : Nat → Int32) : Int32 := (if (r13 4) = 2 then (if ((r13 3) - (r13 6)) = 6 then (if (r13 2) ≤ ((r13 6) + 0) then 1 else (if (r14 (((r13 6) + 0) : Int32).toNatClampNeg) = 102 then (if (r13 2) ≤ ((r13 6) + 1) then 1 else (if (r14 (((r13 6) + 1) : Int32).toNatClampNeg) = 114 then (if (r13 2) ≤ ((r13 6) + 2) then 1 else (if (r14 (((r13 6) + 2) : Int32).toNatClampNeg) = 105 then (if (r13 2) ≤ ((r13 6) + 3) then 1 else (if (r14 (((r13 6) + 3) : Int32).toNatClampNeg) = 101 then (if (r13 2) ≤ ((r13 6) + 4) then 1 else (if (r14 (((r13 6) + 4) : Int32).toNatClampNeg) = 110 then (if (r13 2) ≤ ((r13 6) + 5) then 1 else (if (r14 (((r13 6) + 5) : Int32).toNatClampNeg) = 100 then 1 else 0)) else 0)) else 0)) else 0)) else 0)) else 0)) else 0) else 0)
set_option maxHeartbeats 1000000 in
theorem sp_X5_isWord_8 {d kc ks : Nat} {h : Nat → Nat → Int32} {g : Nat → Nat → Int64} {Q : jj_Rs → jj_St → Prop}  (ho : rdat (h 13)) (kq : Q (.inl (some (.int (vX5_isWord_8 (h 13) (h 14))))) (jj_S, 782, h, g)) : jj_R mX5_isWord (d + 4) kc ks (jj_S, 782, h, g) 0 [(0, .ref 13), (1, .ref (1000000 + 8))] [] Q := by
  refine rr_aload_n 0 rfl rfl dX5_isWord_0 ?_
  refine rr_getI dX5_isWord_1 fX5_37 lo_13 sh_13 rfl ?_
  refine rr_iconst 2 rfl dX5_isWord_4 ?_
  refine rr_icmp_ne dX5_isWord_5 (fun c1 => ?_) (fun c1 => ?_)
  · skip
    refine rr_iconst 0 rfl dX5_isWord_24 ?_
    refine rr_nreturn dX5_isWord_25 rfl (by first | rfl | assumption) ?_
    simpa only [vX5_isWord_8, if_neg c1] using kq
  · skip
    refine rr_aload_n 0 rfl rfl dX5_isWord_8 ?_
    refine rr_getI dX5_isWord_9 fX5_25 lo_13 sh_13 rfl ?_
    refine rr_aload_n 0 rfl rfl dX5_isWord_12 ?_
    refine rr_getI dX5_isWord_13 fX5_34 lo_13 sh_13 rfl ?_
    refine rr_isub dX5_isWord_16 ?_
    refine rr_aload_n 1 rfl rfl dX5_isWord_17 ?_
    refine rr_callT (As := []) (rest := [.int (((h 13) 3) - ((h 13) 6))]) (kc2 := 0) (ks2 := 0) dX5_isWord_18 okJ_length lX5_44 (i9 := 8) rfl rfl rfl (Nat.le_of_ble_eq_true rfl) (Nat.le_of_ble_eq_true rfl) rfl (by omega) (by simp [jj_rk]) (by simp [jj_rk]) ?_
    refine sp_len_8  ?_
    show jj_R _ _ kc ks (jj_S, 782, h, g) 21 [(0, .ref 13), (1, .ref (1000000 + 8))] [.int 6, .int (((h 13) 3) - ((h 13) 6))] Q
    refine rr_icmp_eq dX5_isWord_21 (fun c2 => ?_) (fun c2 => ?_)
    · skip
      refine rr_iconst 0 rfl dX5_isWord_26 ?_
      refine rr_istore_n [(0, .ref 13), (1, .ref (1000000 + 8)), (2, .int 0)] dX5_isWord_27 rfl (by decide) rfl ?_
      refine rr_iload_n 2 rfl rfl dX5_isWord_28 ?_
      refine rr_aload_n 1 rfl rfl dX5_isWord_29 ?_
      refine rr_callT (As := []) (rest := [.int 0]) (kc2 := 0) (ks2 := 0) dX5_isWord_30 okJ_length lX5_44 (i9 := 8) rfl rfl rfl (Nat.le_of_ble_eq_true rfl) (Nat.le_of_ble_eq_true rfl) rfl (by omega) (by simp [jj_rk]) (by simp [jj_rk]) ?_
      refine sp_len_8  ?_
      show jj_R _ _ kc ks (jj_S, 782, h, g) 33 [(0, .ref 13), (1, .ref (1000000 + 8)), (2, .int 0)] [.int 6, .int 0] Q
      refine rr_icmp_ge dX5_isWord_33 (fun c => absurd c (by decide)) (fun _ => ?_)
      refine rr_aload_n 0 rfl rfl dX5_isWord_36 ?_
      refine rr_getI dX5_isWord_37 fX5_34 lo_13 sh_13 rfl ?_
      refine rr_iload_n 2 rfl rfl dX5_isWord_40 ?_
      refine rr_iadd dX5_isWord_41 ?_
      refine rr_aload_n 0 rfl rfl dX5_isWord_42 ?_
      refine rr_getI dX5_isWord_43 fX5_22 lo_13 sh_13 rfl ?_
      refine rr_icmp_ge dX5_isWord_46 (fun c3 => ?_) (fun c3 => ?_)
      · skip
        refine rr_iconst 1 rfl dX5_isWord_76 ?_
        refine rr_nreturn dX5_isWord_77 rfl (by first | rfl | assumption) ?_
        simpa only [vX5_isWord_8, if_pos c1, if_pos c2, if_pos c3] using kq
      · skip
        refine rr_aload_n 0 rfl rfl dX5_isWord_49 ?_
        refine rr_getR dX5_isWord_50 fX5_9 lo_13 sh_13 rfl ?_
        refine rr_aload_n 0 rfl rfl dX5_isWord_53 ?_
        refine rr_getI dX5_isWord_54 fX5_34 lo_13 sh_13 rfl ?_
        refine rr_iload_n 2 rfl rfl dX5_isWord_57 ?_
        refine rr_iadd dX5_isWord_58 ?_
        refine rr_baload dX5_isWord_59 lo_14 sh_14 (rd_at (k := 0) rfl (by decide) ho (by assumption)) ?_
        refine rr_aload_n 1 rfl rfl dX5_isWord_60 ?_
        refine rr_iload_n 2 rfl rfl dX5_isWord_61 ?_
        refine rr_callT (As := [.int 0]) (rest := [.int ((h 14) ((((h 13) 6) + 0) : Int32).toNatClampNeg)]) (kc2 := 0) (ks2 := 0) dX5_isWord_62 okJ_charAt lX5_49 (i9 := 8) rfl rfl rfl (Nat.le_of_ble_eq_true rfl) (Nat.le_of_ble_eq_true rfl) rfl (by omega) (by simp [jj_rk]) (by simp [jj_rk]) ?_
        refine sp_ch_8_0  ?_
        show jj_R _ _ kc ks (jj_S, 782, h, g) 65 [(0, .ref 13), (1, .ref (1000000 + 8)), (2, .int 0)] [.int 102, .int ((h 14) ((((h 13) 6) + 0) : Int32).toNatClampNeg)] Q
        refine rr_icmp_eq dX5_isWord_65 (fun c4 => ?_) (fun c4 => ?_)
        · skip
          refine rr_iinc 2 1 [(0, .ref 13), (1, .ref (1000000 + 8)), (2, .int 1)] dX5_isWord_70 rfl rfl (by decide) rfl ?_
          refine rr_goto dX5_isWord_73 ?_
          refine rr_iload_n 2 rfl rfl dX5_isWord_28 ?_
          refine rr_aload_n 1 rfl rfl dX5_isWord_29 ?_
          refine rr_callT (As := []) (rest := [.int 1]) (kc2 := 0) (ks2 := 0) dX5_isWord_30 okJ_length lX5_44 (i9 := 8) rfl rfl rfl (Nat.le_of_ble_eq_true rfl) (Nat.le_of_ble_eq_true rfl) rfl (by omega) (by simp [jj_rk]) (by simp [jj_rk]) ?_
          refine sp_len_8  ?_
          show jj_R _ _ kc ks (jj_S, 782, h, g) 33 [(0, .ref 13), (1, .ref (1000000 + 8)), (2, .int 1)] [.int 6, .int 1] Q
          refine rr_icmp_ge dX5_isWord_33 (fun c => absurd c (by decide)) (fun _ => ?_)
          refine rr_aload_n 0 rfl rfl dX5_isWord_36 ?_
          refine rr_getI dX5_isWord_37 fX5_34 lo_13 sh_13 rfl ?_
          refine rr_iload_n 2 rfl rfl dX5_isWord_40 ?_
          refine rr_iadd dX5_isWord_41 ?_
          refine rr_aload_n 0 rfl rfl dX5_isWord_42 ?_
          refine rr_getI dX5_isWord_43 fX5_22 lo_13 sh_13 rfl ?_
          refine rr_icmp_ge dX5_isWord_46 (fun c5 => ?_) (fun c5 => ?_)
          · skip
            refine rr_iconst 1 rfl dX5_isWord_76 ?_
            refine rr_nreturn dX5_isWord_77 rfl (by first | rfl | assumption) ?_
            simpa only [vX5_isWord_8, if_pos c1, if_pos c2, if_neg c3, if_pos c4, if_pos c5] using kq
          · skip
            refine rr_aload_n 0 rfl rfl dX5_isWord_49 ?_
            refine rr_getR dX5_isWord_50 fX5_9 lo_13 sh_13 rfl ?_
            refine rr_aload_n 0 rfl rfl dX5_isWord_53 ?_
            refine rr_getI dX5_isWord_54 fX5_34 lo_13 sh_13 rfl ?_
            refine rr_iload_n 2 rfl rfl dX5_isWord_57 ?_
            refine rr_iadd dX5_isWord_58 ?_
            refine rr_baload dX5_isWord_59 lo_14 sh_14 (rd_at (k := 1) rfl (by decide) ho (by assumption)) ?_
            refine rr_aload_n 1 rfl rfl dX5_isWord_60 ?_
            refine rr_iload_n 2 rfl rfl dX5_isWord_61 ?_
            refine rr_callT (As := [.int 1]) (rest := [.int ((h 14) ((((h 13) 6) + 1) : Int32).toNatClampNeg)]) (kc2 := 0) (ks2 := 0) dX5_isWord_62 okJ_charAt lX5_49 (i9 := 8) rfl rfl rfl (Nat.le_of_ble_eq_true rfl) (Nat.le_of_ble_eq_true rfl) rfl (by omega) (by simp [jj_rk]) (by simp [jj_rk]) ?_
            refine sp_ch_8_1  ?_
            show jj_R _ _ kc ks (jj_S, 782, h, g) 65 [(0, .ref 13), (1, .ref (1000000 + 8)), (2, .int 1)] [.int 114, .int ((h 14) ((((h 13) 6) + 1) : Int32).toNatClampNeg)] Q
            refine rr_icmp_eq dX5_isWord_65 (fun c6 => ?_) (fun c6 => ?_)
            · skip
              refine rr_iinc 2 1 [(0, .ref 13), (1, .ref (1000000 + 8)), (2, .int 2)] dX5_isWord_70 rfl rfl (by decide) rfl ?_
              refine rr_goto dX5_isWord_73 ?_
              refine rr_iload_n 2 rfl rfl dX5_isWord_28 ?_
              refine rr_aload_n 1 rfl rfl dX5_isWord_29 ?_
              refine rr_callT (As := []) (rest := [.int 2]) (kc2 := 0) (ks2 := 0) dX5_isWord_30 okJ_length lX5_44 (i9 := 8) rfl rfl rfl (Nat.le_of_ble_eq_true rfl) (Nat.le_of_ble_eq_true rfl) rfl (by omega) (by simp [jj_rk]) (by simp [jj_rk]) ?_
              refine sp_len_8  ?_
              show jj_R _ _ kc ks (jj_S, 782, h, g) 33 [(0, .ref 13), (1, .ref (1000000 + 8)), (2, .int 2)] [.int 6, .int 2] Q
              refine rr_icmp_ge dX5_isWord_33 (fun c => absurd c (by decide)) (fun _ => ?_)
              refine rr_aload_n 0 rfl rfl dX5_isWord_36 ?_
              refine rr_getI dX5_isWord_37 fX5_34 lo_13 sh_13 rfl ?_
              refine rr_iload_n 2 rfl rfl dX5_isWord_40 ?_
              refine rr_iadd dX5_isWord_41 ?_
              refine rr_aload_n 0 rfl rfl dX5_isWord_42 ?_
              refine rr_getI dX5_isWord_43 fX5_22 lo_13 sh_13 rfl ?_
              refine rr_icmp_ge dX5_isWord_46 (fun c7 => ?_) (fun c7 => ?_)
              · skip
                refine rr_iconst 1 rfl dX5_isWord_76 ?_
                refine rr_nreturn dX5_isWord_77 rfl (by first | rfl | assumption) ?_
                simpa only [vX5_isWord_8, if_pos c1, if_pos c2, if_neg c3, if_pos c4, if_neg c5, if_pos c6, if_pos c7] using kq
              · skip
                refine rr_aload_n 0 rfl rfl dX5_isWord_49 ?_
                refine rr_getR dX5_isWord_50 fX5_9 lo_13 sh_13 rfl ?_
                refine rr_aload_n 0 rfl rfl dX5_isWord_53 ?_
                refine rr_getI dX5_isWord_54 fX5_34 lo_13 sh_13 rfl ?_
                refine rr_iload_n 2 rfl rfl dX5_isWord_57 ?_
                refine rr_iadd dX5_isWord_58 ?_
                refine rr_baload dX5_isWord_59 lo_14 sh_14 (rd_at (k := 2) rfl (by decide) ho (by assumption)) ?_
                refine rr_aload_n 1 rfl rfl dX5_isWord_60 ?_
                refine rr_iload_n 2 rfl rfl dX5_isWord_61 ?_
                refine rr_callT (As := [.int 2]) (rest := [.int ((h 14) ((((h 13) 6) + 2) : Int32).toNatClampNeg)]) (kc2 := 0) (ks2 := 0) dX5_isWord_62 okJ_charAt lX5_49 (i9 := 8) rfl rfl rfl (Nat.le_of_ble_eq_true rfl) (Nat.le_of_ble_eq_true rfl) rfl (by omega) (by simp [jj_rk]) (by simp [jj_rk]) ?_
                refine sp_ch_8_2  ?_
                show jj_R _ _ kc ks (jj_S, 782, h, g) 65 [(0, .ref 13), (1, .ref (1000000 + 8)), (2, .int 2)] [.int 105, .int ((h 14) ((((h 13) 6) + 2) : Int32).toNatClampNeg)] Q
                refine rr_icmp_eq dX5_isWord_65 (fun c8 => ?_) (fun c8 => ?_)
                · skip
                  refine rr_iinc 2 1 [(0, .ref 13), (1, .ref (1000000 + 8)), (2, .int 3)] dX5_isWord_70 rfl rfl (by decide) rfl ?_
                  refine rr_goto dX5_isWord_73 ?_
                  refine rr_iload_n 2 rfl rfl dX5_isWord_28 ?_
                  refine rr_aload_n 1 rfl rfl dX5_isWord_29 ?_
                  refine rr_callT (As := []) (rest := [.int 3]) (kc2 := 0) (ks2 := 0) dX5_isWord_30 okJ_length lX5_44 (i9 := 8) rfl rfl rfl (Nat.le_of_ble_eq_true rfl) (Nat.le_of_ble_eq_true rfl) rfl (by omega) (by simp [jj_rk]) (by simp [jj_rk]) ?_
                  refine sp_len_8  ?_
                  show jj_R _ _ kc ks (jj_S, 782, h, g) 33 [(0, .ref 13), (1, .ref (1000000 + 8)), (2, .int 3)] [.int 6, .int 3] Q
                  refine rr_icmp_ge dX5_isWord_33 (fun c => absurd c (by decide)) (fun _ => ?_)
                  refine rr_aload_n 0 rfl rfl dX5_isWord_36 ?_
                  refine rr_getI dX5_isWord_37 fX5_34 lo_13 sh_13 rfl ?_
                  refine rr_iload_n 2 rfl rfl dX5_isWord_40 ?_
                  refine rr_iadd dX5_isWord_41 ?_
                  refine rr_aload_n 0 rfl rfl dX5_isWord_42 ?_
                  refine rr_getI dX5_isWord_43 fX5_22 lo_13 sh_13 rfl ?_
                  refine rr_icmp_ge dX5_isWord_46 (fun c9 => ?_) (fun c9 => ?_)
                  · skip
                    refine rr_iconst 1 rfl dX5_isWord_76 ?_
                    refine rr_nreturn dX5_isWord_77 rfl (by first | rfl | assumption) ?_
                    simpa only [vX5_isWord_8, if_pos c1, if_pos c2, if_neg c3, if_pos c4, if_neg c5, if_pos c6, if_neg c7, if_pos c8, if_pos c9] using kq
                  · skip
                    refine rr_aload_n 0 rfl rfl dX5_isWord_49 ?_
                    refine rr_getR dX5_isWord_50 fX5_9 lo_13 sh_13 rfl ?_
                    refine rr_aload_n 0 rfl rfl dX5_isWord_53 ?_
                    refine rr_getI dX5_isWord_54 fX5_34 lo_13 sh_13 rfl ?_
                    refine rr_iload_n 2 rfl rfl dX5_isWord_57 ?_
                    refine rr_iadd dX5_isWord_58 ?_
                    refine rr_baload dX5_isWord_59 lo_14 sh_14 (rd_at (k := 3) rfl (by decide) ho (by assumption)) ?_
                    refine rr_aload_n 1 rfl rfl dX5_isWord_60 ?_
                    refine rr_iload_n 2 rfl rfl dX5_isWord_61 ?_
                    refine rr_callT (As := [.int 3]) (rest := [.int ((h 14) ((((h 13) 6) + 3) : Int32).toNatClampNeg)]) (kc2 := 0) (ks2 := 0) dX5_isWord_62 okJ_charAt lX5_49 (i9 := 8) rfl rfl rfl (Nat.le_of_ble_eq_true rfl) (Nat.le_of_ble_eq_true rfl) rfl (by omega) (by simp [jj_rk]) (by simp [jj_rk]) ?_
                    refine sp_ch_8_3  ?_
                    show jj_R _ _ kc ks (jj_S, 782, h, g) 65 [(0, .ref 13), (1, .ref (1000000 + 8)), (2, .int 3)] [.int 101, .int ((h 14) ((((h 13) 6) + 3) : Int32).toNatClampNeg)] Q
                    refine rr_icmp_eq dX5_isWord_65 (fun c10 => ?_) (fun c10 => ?_)
                    · skip
                      refine rr_iinc 2 1 [(0, .ref 13), (1, .ref (1000000 + 8)), (2, .int 4)] dX5_isWord_70 rfl rfl (by decide) rfl ?_
                      refine rr_goto dX5_isWord_73 ?_
                      refine rr_iload_n 2 rfl rfl dX5_isWord_28 ?_
                      refine rr_aload_n 1 rfl rfl dX5_isWord_29 ?_
                      refine rr_callT (As := []) (rest := [.int 4]) (kc2 := 0) (ks2 := 0) dX5_isWord_30 okJ_length lX5_44 (i9 := 8) rfl rfl rfl (Nat.le_of_ble_eq_true rfl) (Nat.le_of_ble_eq_true rfl) rfl (by omega) (by simp [jj_rk]) (by simp [jj_rk]) ?_
                      refine sp_len_8  ?_
                      show jj_R _ _ kc ks (jj_S, 782, h, g) 33 [(0, .ref 13), (1, .ref (1000000 + 8)), (2, .int 4)] [.int 6, .int 4] Q
                      refine rr_icmp_ge dX5_isWord_33 (fun c => absurd c (by decide)) (fun _ => ?_)
                      refine rr_aload_n 0 rfl rfl dX5_isWord_36 ?_
                      refine rr_getI dX5_isWord_37 fX5_34 lo_13 sh_13 rfl ?_
                      refine rr_iload_n 2 rfl rfl dX5_isWord_40 ?_
                      refine rr_iadd dX5_isWord_41 ?_
                      refine rr_aload_n 0 rfl rfl dX5_isWord_42 ?_
                      refine rr_getI dX5_isWord_43 fX5_22 lo_13 sh_13 rfl ?_
                      refine rr_icmp_ge dX5_isWord_46 (fun c11 => ?_) (fun c11 => ?_)
                      · skip
                        refine rr_iconst 1 rfl dX5_isWord_76 ?_
                        refine rr_nreturn dX5_isWord_77 rfl (by first | rfl | assumption) ?_
                        simpa only [vX5_isWord_8, if_pos c1, if_pos c2, if_neg c3, if_pos c4, if_neg c5, if_pos c6, if_neg c7, if_pos c8, if_neg c9, if_pos c10, if_pos c11] using kq
                      · skip
                        refine rr_aload_n 0 rfl rfl dX5_isWord_49 ?_
                        refine rr_getR dX5_isWord_50 fX5_9 lo_13 sh_13 rfl ?_
                        refine rr_aload_n 0 rfl rfl dX5_isWord_53 ?_
                        refine rr_getI dX5_isWord_54 fX5_34 lo_13 sh_13 rfl ?_
                        refine rr_iload_n 2 rfl rfl dX5_isWord_57 ?_
                        refine rr_iadd dX5_isWord_58 ?_
                        refine rr_baload dX5_isWord_59 lo_14 sh_14 (rd_at (k := 4) rfl (by decide) ho (by assumption)) ?_
                        refine rr_aload_n 1 rfl rfl dX5_isWord_60 ?_
                        refine rr_iload_n 2 rfl rfl dX5_isWord_61 ?_
                        refine rr_callT (As := [.int 4]) (rest := [.int ((h 14) ((((h 13) 6) + 4) : Int32).toNatClampNeg)]) (kc2 := 0) (ks2 := 0) dX5_isWord_62 okJ_charAt lX5_49 (i9 := 8) rfl rfl rfl (Nat.le_of_ble_eq_true rfl) (Nat.le_of_ble_eq_true rfl) rfl (by omega) (by simp [jj_rk]) (by simp [jj_rk]) ?_
                        refine sp_ch_8_4  ?_
                        show jj_R _ _ kc ks (jj_S, 782, h, g) 65 [(0, .ref 13), (1, .ref (1000000 + 8)), (2, .int 4)] [.int 110, .int ((h 14) ((((h 13) 6) + 4) : Int32).toNatClampNeg)] Q
                        refine rr_icmp_eq dX5_isWord_65 (fun c12 => ?_) (fun c12 => ?_)
                        · skip
                          refine rr_iinc 2 1 [(0, .ref 13), (1, .ref (1000000 + 8)), (2, .int 5)] dX5_isWord_70 rfl rfl (by decide) rfl ?_
                          refine rr_goto dX5_isWord_73 ?_
                          refine rr_iload_n 2 rfl rfl dX5_isWord_28 ?_
                          refine rr_aload_n 1 rfl rfl dX5_isWord_29 ?_
                          refine rr_callT (As := []) (rest := [.int 5]) (kc2 := 0) (ks2 := 0) dX5_isWord_30 okJ_length lX5_44 (i9 := 8) rfl rfl rfl (Nat.le_of_ble_eq_true rfl) (Nat.le_of_ble_eq_true rfl) rfl (by omega) (by simp [jj_rk]) (by simp [jj_rk]) ?_
                          refine sp_len_8  ?_
                          show jj_R _ _ kc ks (jj_S, 782, h, g) 33 [(0, .ref 13), (1, .ref (1000000 + 8)), (2, .int 5)] [.int 6, .int 5] Q
                          refine rr_icmp_ge dX5_isWord_33 (fun c => absurd c (by decide)) (fun _ => ?_)
                          refine rr_aload_n 0 rfl rfl dX5_isWord_36 ?_
                          refine rr_getI dX5_isWord_37 fX5_34 lo_13 sh_13 rfl ?_
                          refine rr_iload_n 2 rfl rfl dX5_isWord_40 ?_
                          refine rr_iadd dX5_isWord_41 ?_
                          refine rr_aload_n 0 rfl rfl dX5_isWord_42 ?_
                          refine rr_getI dX5_isWord_43 fX5_22 lo_13 sh_13 rfl ?_
                          refine rr_icmp_ge dX5_isWord_46 (fun c13 => ?_) (fun c13 => ?_)
                          · skip
                            refine rr_iconst 1 rfl dX5_isWord_76 ?_
                            refine rr_nreturn dX5_isWord_77 rfl (by first | rfl | assumption) ?_
                            simpa only [vX5_isWord_8, if_pos c1, if_pos c2, if_neg c3, if_pos c4, if_neg c5, if_pos c6, if_neg c7, if_pos c8, if_neg c9, if_pos c10, if_neg c11, if_pos c12, if_pos c13] using kq
                          · skip
                            refine rr_aload_n 0 rfl rfl dX5_isWord_49 ?_
                            refine rr_getR dX5_isWord_50 fX5_9 lo_13 sh_13 rfl ?_
                            refine rr_aload_n 0 rfl rfl dX5_isWord_53 ?_
                            refine rr_getI dX5_isWord_54 fX5_34 lo_13 sh_13 rfl ?_
                            refine rr_iload_n 2 rfl rfl dX5_isWord_57 ?_
                            refine rr_iadd dX5_isWord_58 ?_
                            refine rr_baload dX5_isWord_59 lo_14 sh_14 (rd_at (k := 5) rfl (by decide) ho (by assumption)) ?_
                            refine rr_aload_n 1 rfl rfl dX5_isWord_60 ?_
                            refine rr_iload_n 2 rfl rfl dX5_isWord_61 ?_
                            refine rr_callT (As := [.int 5]) (rest := [.int ((h 14) ((((h 13) 6) + 5) : Int32).toNatClampNeg)]) (kc2 := 0) (ks2 := 0) dX5_isWord_62 okJ_charAt lX5_49 (i9 := 8) rfl rfl rfl (Nat.le_of_ble_eq_true rfl) (Nat.le_of_ble_eq_true rfl) rfl (by omega) (by simp [jj_rk]) (by simp [jj_rk]) ?_
                            refine sp_ch_8_5  ?_
                            show jj_R _ _ kc ks (jj_S, 782, h, g) 65 [(0, .ref 13), (1, .ref (1000000 + 8)), (2, .int 5)] [.int 100, .int ((h 14) ((((h 13) 6) + 5) : Int32).toNatClampNeg)] Q
                            refine rr_icmp_eq dX5_isWord_65 (fun c14 => ?_) (fun c14 => ?_)
                            · skip
                              refine rr_iinc 2 1 [(0, .ref 13), (1, .ref (1000000 + 8)), (2, .int 6)] dX5_isWord_70 rfl rfl (by decide) rfl ?_
                              refine rr_goto dX5_isWord_73 ?_
                              refine rr_iload_n 2 rfl rfl dX5_isWord_28 ?_
                              refine rr_aload_n 1 rfl rfl dX5_isWord_29 ?_
                              refine rr_callT (As := []) (rest := [.int 6]) (kc2 := 0) (ks2 := 0) dX5_isWord_30 okJ_length lX5_44 (i9 := 8) rfl rfl rfl (Nat.le_of_ble_eq_true rfl) (Nat.le_of_ble_eq_true rfl) rfl (by omega) (by simp [jj_rk]) (by simp [jj_rk]) ?_
                              refine sp_len_8  ?_
                              show jj_R _ _ kc ks (jj_S, 782, h, g) 33 [(0, .ref 13), (1, .ref (1000000 + 8)), (2, .int 6)] [.int 6, .int 6] Q
                              refine rr_icmp_ge dX5_isWord_33 (fun _ => ?_) (fun c => absurd (by decide) c)
                              refine rr_iconst 1 rfl dX5_isWord_76 ?_
                              refine rr_nreturn dX5_isWord_77 rfl (by first | rfl | assumption) ?_
                              simpa only [vX5_isWord_8, if_pos c1, if_pos c2, if_neg c3, if_pos c4, if_neg c5, if_pos c6, if_neg c7, if_pos c8, if_neg c9, if_pos c10, if_neg c11, if_pos c12, if_neg c13, if_pos c14] using kq
                            · skip
                              refine rr_iconst 0 rfl dX5_isWord_68 ?_
                              refine rr_nreturn dX5_isWord_69 rfl (by first | rfl | assumption) ?_
                              simpa only [vX5_isWord_8, if_pos c1, if_pos c2, if_neg c3, if_pos c4, if_neg c5, if_pos c6, if_neg c7, if_pos c8, if_neg c9, if_pos c10, if_neg c11, if_pos c12, if_neg c13, if_neg c14] using kq
                        · skip
                          refine rr_iconst 0 rfl dX5_isWord_68 ?_
                          refine rr_nreturn dX5_isWord_69 rfl (by first | rfl | assumption) ?_
                          simpa only [vX5_isWord_8, if_pos c1, if_pos c2, if_neg c3, if_pos c4, if_neg c5, if_pos c6, if_neg c7, if_pos c8, if_neg c9, if_pos c10, if_neg c11, if_neg c12] using kq
                    · skip
                      refine rr_iconst 0 rfl dX5_isWord_68 ?_
                      refine rr_nreturn dX5_isWord_69 rfl (by first | rfl | assumption) ?_
                      simpa only [vX5_isWord_8, if_pos c1, if_pos c2, if_neg c3, if_pos c4, if_neg c5, if_pos c6, if_neg c7, if_pos c8, if_neg c9, if_neg c10] using kq
                · skip
                  refine rr_iconst 0 rfl dX5_isWord_68 ?_
                  refine rr_nreturn dX5_isWord_69 rfl (by first | rfl | assumption) ?_
                  simpa only [vX5_isWord_8, if_pos c1, if_pos c2, if_neg c3, if_pos c4, if_neg c5, if_pos c6, if_neg c7, if_neg c8] using kq
            · skip
              refine rr_iconst 0 rfl dX5_isWord_68 ?_
              refine rr_nreturn dX5_isWord_69 rfl (by first | rfl | assumption) ?_
              simpa only [vX5_isWord_8, if_pos c1, if_pos c2, if_neg c3, if_pos c4, if_neg c5, if_neg c6] using kq
        · skip
          refine rr_iconst 0 rfl dX5_isWord_68 ?_
          refine rr_nreturn dX5_isWord_69 rfl (by first | rfl | assumption) ?_
          simpa only [vX5_isWord_8, if_pos c1, if_pos c2, if_neg c3, if_neg c4] using kq
    · skip
      refine rr_iconst 0 rfl dX5_isWord_24 ?_
      refine rr_nreturn dX5_isWord_25 rfl (by first | rfl | assumption) ?_
      simpa only [vX5_isWord_8, if_pos c1, if_neg c2] using kq
def vX5_isWord_9 (r13 : Nat → Int32) (r14 : Nat → Int32) : Int32 := (if (r13 4) = 2 then (if ((r13 3) - (r13 6)) = 4 then (if (r13 2) ≤ ((r13 6) + 0) then 1 else (if (r14 (((r13 6) + 0) : Int32).toNatClampNeg) = 115 then (if (r13 2) ≤ ((r13 6) + 1) then 1 else (if (r14 (((r13 6) + 1) : Int32).toNatClampNeg) = 101 then (if (r13 2) ≤ ((r13 6) + 2) then 1 else (if (r14 (((r13 6) + 2) : Int32).toNatClampNeg) = 108 then (if (r13 2) ≤ ((r13 6) + 3) then 1 else (if (r14 (((r13 6) + 3) : Int32).toNatClampNeg) = 102 then 1 else 0)) else 0)) else 0)) else 0)) else 0) else 0)
set_option maxHeartbeats 1000000 in
theorem sp_X5_isWord_9 {d kc ks : Nat} {h : Nat → Nat → Int32} {g : Nat → Nat → Int64} {Q : jj_Rs → jj_St → Prop}  (ho : rdat (h 13)) (kq : Q (.inl (some (.int (vX5_isWord_9 (h 13) (h 14))))) (jj_S, 782, h, g)) : jj_R mX5_isWord (d + 4) kc ks (jj_S, 782, h, g) 0 [(0, .ref 13), (1, .ref (1000000 + 9))] [] Q := by
  refine rr_aload_n 0 rfl rfl dX5_isWord_0 ?_
  refine rr_getI dX5_isWord_1 fX5_37 lo_13 sh_13 rfl ?_
  refine rr_iconst 2 rfl dX5_isWord_4 ?_
  refine rr_icmp_ne dX5_isWord_5 (fun c1 => ?_) (fun c1 => ?_)
  · skip
    refine rr_iconst 0 rfl dX5_isWord_24 ?_
    refine rr_nreturn dX5_isWord_25 rfl (by first | rfl | assumption) ?_
    simpa only [vX5_isWord_9, if_neg c1] using kq
  · skip
    refine rr_aload_n 0 rfl rfl dX5_isWord_8 ?_
    refine rr_getI dX5_isWord_9 fX5_25 lo_13 sh_13 rfl ?_
    refine rr_aload_n 0 rfl rfl dX5_isWord_12 ?_
    refine rr_getI dX5_isWord_13 fX5_34 lo_13 sh_13 rfl ?_
    refine rr_isub dX5_isWord_16 ?_
    refine rr_aload_n 1 rfl rfl dX5_isWord_17 ?_
    refine rr_callT (As := []) (rest := [.int (((h 13) 3) - ((h 13) 6))]) (kc2 := 0) (ks2 := 0) dX5_isWord_18 okJ_length lX5_44 (i9 := 9) rfl rfl rfl (Nat.le_of_ble_eq_true rfl) (Nat.le_of_ble_eq_true rfl) rfl (by omega) (by simp [jj_rk]) (by simp [jj_rk]) ?_
    refine sp_len_9  ?_
    show jj_R _ _ kc ks (jj_S, 782, h, g) 21 [(0, .ref 13), (1, .ref (1000000 + 9))] [.int 4, .int (((h 13) 3) - ((h 13) 6))] Q
    refine rr_icmp_eq dX5_isWord_21 (fun c2 => ?_) (fun c2 => ?_)
    · skip
      refine rr_iconst 0 rfl dX5_isWord_26 ?_
      refine rr_istore_n [(0, .ref 13), (1, .ref (1000000 + 9)), (2, .int 0)] dX5_isWord_27 rfl (by decide) rfl ?_
      refine rr_iload_n 2 rfl rfl dX5_isWord_28 ?_
      refine rr_aload_n 1 rfl rfl dX5_isWord_29 ?_
      refine rr_callT (As := []) (rest := [.int 0]) (kc2 := 0) (ks2 := 0) dX5_isWord_30 okJ_length lX5_44 (i9 := 9) rfl rfl rfl (Nat.le_of_ble_eq_true rfl) (Nat.le_of_ble_eq_true rfl) rfl (by omega) (by simp [jj_rk]) (by simp [jj_rk]) ?_
      refine sp_len_9  ?_
      show jj_R _ _ kc ks (jj_S, 782, h, g) 33 [(0, .ref 13), (1, .ref (1000000 + 9)), (2, .int 0)] [.int 4, .int 0] Q
      refine rr_icmp_ge dX5_isWord_33 (fun c => absurd c (by decide)) (fun _ => ?_)
      refine rr_aload_n 0 rfl rfl dX5_isWord_36 ?_
      refine rr_getI dX5_isWord_37 fX5_34 lo_13 sh_13 rfl ?_
      refine rr_iload_n 2 rfl rfl dX5_isWord_40 ?_
      refine rr_iadd dX5_isWord_41 ?_
      refine rr_aload_n 0 rfl rfl dX5_isWord_42 ?_
      refine rr_getI dX5_isWord_43 fX5_22 lo_13 sh_13 rfl ?_
      refine rr_icmp_ge dX5_isWord_46 (fun c3 => ?_) (fun c3 => ?_)
      · skip
        refine rr_iconst 1 rfl dX5_isWord_76 ?_
        refine rr_nreturn dX5_isWord_77 rfl (by first | rfl | assumption) ?_
        simpa only [vX5_isWord_9, if_pos c1, if_pos c2, if_pos c3] using kq
      · skip
        refine rr_aload_n 0 rfl rfl dX5_isWord_49 ?_
        refine rr_getR dX5_isWord_50 fX5_9 lo_13 sh_13 rfl ?_
        refine rr_aload_n 0 rfl rfl dX5_isWord_53 ?_
        refine rr_getI dX5_isWord_54 fX5_34 lo_13 sh_13 rfl ?_
        refine rr_iload_n 2 rfl rfl dX5_isWord_57 ?_
        refine rr_iadd dX5_isWord_58 ?_
        refine rr_baload dX5_isWord_59 lo_14 sh_14 (rd_at (k := 0) rfl (by decide) ho (by assumption)) ?_
        refine rr_aload_n 1 rfl rfl dX5_isWord_60 ?_
        refine rr_iload_n 2 rfl rfl dX5_isWord_61 ?_
        refine rr_callT (As := [.int 0]) (rest := [.int ((h 14) ((((h 13) 6) + 0) : Int32).toNatClampNeg)]) (kc2 := 0) (ks2 := 0) dX5_isWord_62 okJ_charAt lX5_49 (i9 := 9) rfl rfl rfl (Nat.le_of_ble_eq_true rfl) (Nat.le_of_ble_eq_true rfl) rfl (by omega) (by simp [jj_rk]) (by simp [jj_rk]) ?_
        refine sp_ch_9_0  ?_
        show jj_R _ _ kc ks (jj_S, 782, h, g) 65 [(0, .ref 13), (1, .ref (1000000 + 9)), (2, .int 0)] [.int 115, .int ((h 14) ((((h 13) 6) + 0) : Int32).toNatClampNeg)] Q
        refine rr_icmp_eq dX5_isWord_65 (fun c4 => ?_) (fun c4 => ?_)
        · skip
          refine rr_iinc 2 1 [(0, .ref 13), (1, .ref (1000000 + 9)), (2, .int 1)] dX5_isWord_70 rfl rfl (by decide) rfl ?_
          refine rr_goto dX5_isWord_73 ?_
          refine rr_iload_n 2 rfl rfl dX5_isWord_28 ?_
          refine rr_aload_n 1 rfl rfl dX5_isWord_29 ?_
          refine rr_callT (As := []) (rest := [.int 1]) (kc2 := 0) (ks2 := 0) dX5_isWord_30 okJ_length lX5_44 (i9 := 9) rfl rfl rfl (Nat.le_of_ble_eq_true rfl) (Nat.le_of_ble_eq_true rfl) rfl (by omega) (by simp [jj_rk]) (by simp [jj_rk]) ?_
          refine sp_len_9  ?_
          show jj_R _ _ kc ks (jj_S, 782, h, g) 33 [(0, .ref 13), (1, .ref (1000000 + 9)), (2, .int 1)] [.int 4, .int 1] Q
          refine rr_icmp_ge dX5_isWord_33 (fun c => absurd c (by decide)) (fun _ => ?_)
          refine rr_aload_n 0 rfl rfl dX5_isWord_36 ?_
          refine rr_getI dX5_isWord_37 fX5_34 lo_13 sh_13 rfl ?_
          refine rr_iload_n 2 rfl rfl dX5_isWord_40 ?_
          refine rr_iadd dX5_isWord_41 ?_
          refine rr_aload_n 0 rfl rfl dX5_isWord_42 ?_
          refine rr_getI dX5_isWord_43 fX5_22 lo_13 sh_13 rfl ?_
          refine rr_icmp_ge dX5_isWord_46 (fun c5 => ?_) (fun c5 => ?_)
          · skip
            refine rr_iconst 1 rfl dX5_isWord_76 ?_
            refine rr_nreturn dX5_isWord_77 rfl (by first | rfl | assumption) ?_
            simpa only [vX5_isWord_9, if_pos c1, if_pos c2, if_neg c3, if_pos c4, if_pos c5] using kq
          · skip
            refine rr_aload_n 0 rfl rfl dX5_isWord_49 ?_
            refine rr_getR dX5_isWord_50 fX5_9 lo_13 sh_13 rfl ?_
            refine rr_aload_n 0 rfl rfl dX5_isWord_53 ?_
            refine rr_getI dX5_isWord_54 fX5_34 lo_13 sh_13 rfl ?_
            refine rr_iload_n 2 rfl rfl dX5_isWord_57 ?_
            refine rr_iadd dX5_isWord_58 ?_
            refine rr_baload dX5_isWord_59 lo_14 sh_14 (rd_at (k := 1) rfl (by decide) ho (by assumption)) ?_
            refine rr_aload_n 1 rfl rfl dX5_isWord_60 ?_
            refine rr_iload_n 2 rfl rfl dX5_isWord_61 ?_
            refine rr_callT (As := [.int 1]) (rest := [.int ((h 14) ((((h 13) 6) + 1) : Int32).toNatClampNeg)]) (kc2 := 0) (ks2 := 0) dX5_isWord_62 okJ_charAt lX5_49 (i9 := 9) rfl rfl rfl (Nat.le_of_ble_eq_true rfl) (Nat.le_of_ble_eq_true rfl) rfl (by omega) (by simp [jj_rk]) (by simp [jj_rk]) ?_
            refine sp_ch_9_1  ?_
            show jj_R _ _ kc ks (jj_S, 782, h, g) 65 [(0, .ref 13), (1, .ref (1000000 + 9)), (2, .int 1)] [.int 101, .int ((h 14) ((((h 13) 6) + 1) : Int32).toNatClampNeg)] Q
            refine rr_icmp_eq dX5_isWord_65 (fun c6 => ?_) (fun c6 => ?_)
            · skip
              refine rr_iinc 2 1 [(0, .ref 13), (1, .ref (1000000 + 9)), (2, .int 2)] dX5_isWord_70 rfl rfl (by decide) rfl ?_
              refine rr_goto dX5_isWord_73 ?_
              refine rr_iload_n 2 rfl rfl dX5_isWord_28 ?_
              refine rr_aload_n 1 rfl rfl dX5_isWord_29 ?_
              refine rr_callT (As := []) (rest := [.int 2]) (kc2 := 0) (ks2 := 0) dX5_isWord_30 okJ_length lX5_44 (i9 := 9) rfl rfl rfl (Nat.le_of_ble_eq_true rfl) (Nat.le_of_ble_eq_true rfl) rfl (by omega) (by simp [jj_rk]) (by simp [jj_rk]) ?_
              refine sp_len_9  ?_
              show jj_R _ _ kc ks (jj_S, 782, h, g) 33 [(0, .ref 13), (1, .ref (1000000 + 9)), (2, .int 2)] [.int 4, .int 2] Q
              refine rr_icmp_ge dX5_isWord_33 (fun c => absurd c (by decide)) (fun _ => ?_)
              refine rr_aload_n 0 rfl rfl dX5_isWord_36 ?_
              refine rr_getI dX5_isWord_37 fX5_34 lo_13 sh_13 rfl ?_
              refine rr_iload_n 2 rfl rfl dX5_isWord_40 ?_
              refine rr_iadd dX5_isWord_41 ?_
              refine rr_aload_n 0 rfl rfl dX5_isWord_42 ?_
              refine rr_getI dX5_isWord_43 fX5_22 lo_13 sh_13 rfl ?_
              refine rr_icmp_ge dX5_isWord_46 (fun c7 => ?_) (fun c7 => ?_)
              · skip
                refine rr_iconst 1 rfl dX5_isWord_76 ?_
                refine rr_nreturn dX5_isWord_77 rfl (by first | rfl | assumption) ?_
                simpa only [vX5_isWord_9, if_pos c1, if_pos c2, if_neg c3, if_pos c4, if_neg c5, if_pos c6, if_pos c7] using kq
              · skip
                refine rr_aload_n 0 rfl rfl dX5_isWord_49 ?_
                refine rr_getR dX5_isWord_50 fX5_9 lo_13 sh_13 rfl ?_
                refine rr_aload_n 0 rfl rfl dX5_isWord_53 ?_
                refine rr_getI dX5_isWord_54 fX5_34 lo_13 sh_13 rfl ?_
                refine rr_iload_n 2 rfl rfl dX5_isWord_57 ?_
                refine rr_iadd dX5_isWord_58 ?_
                refine rr_baload dX5_isWord_59 lo_14 sh_14 (rd_at (k := 2) rfl (by decide) ho (by assumption)) ?_
                refine rr_aload_n 1 rfl rfl dX5_isWord_60 ?_
                refine rr_iload_n 2 rfl rfl dX5_isWord_61 ?_
                refine rr_callT (As := [.int 2]) (rest := [.int ((h 14) ((((h 13) 6) + 2) : Int32).toNatClampNeg)]) (kc2 := 0) (ks2 := 0) dX5_isWord_62 okJ_charAt lX5_49 (i9 := 9) rfl rfl rfl (Nat.le_of_ble_eq_true rfl) (Nat.le_of_ble_eq_true rfl) rfl (by omega) (by simp [jj_rk]) (by simp [jj_rk]) ?_
                refine sp_ch_9_2  ?_
                show jj_R _ _ kc ks (jj_S, 782, h, g) 65 [(0, .ref 13), (1, .ref (1000000 + 9)), (2, .int 2)] [.int 108, .int ((h 14) ((((h 13) 6) + 2) : Int32).toNatClampNeg)] Q
                refine rr_icmp_eq dX5_isWord_65 (fun c8 => ?_) (fun c8 => ?_)
                · skip
                  refine rr_iinc 2 1 [(0, .ref 13), (1, .ref (1000000 + 9)), (2, .int 3)] dX5_isWord_70 rfl rfl (by decide) rfl ?_
                  refine rr_goto dX5_isWord_73 ?_
                  refine rr_iload_n 2 rfl rfl dX5_isWord_28 ?_
                  refine rr_aload_n 1 rfl rfl dX5_isWord_29 ?_
                  refine rr_callT (As := []) (rest := [.int 3]) (kc2 := 0) (ks2 := 0) dX5_isWord_30 okJ_length lX5_44 (i9 := 9) rfl rfl rfl (Nat.le_of_ble_eq_true rfl) (Nat.le_of_ble_eq_true rfl) rfl (by omega) (by simp [jj_rk]) (by simp [jj_rk]) ?_
                  refine sp_len_9  ?_
                  show jj_R _ _ kc ks (jj_S, 782, h, g) 33 [(0, .ref 13), (1, .ref (1000000 + 9)), (2, .int 3)] [.int 4, .int 3] Q
                  refine rr_icmp_ge dX5_isWord_33 (fun c => absurd c (by decide)) (fun _ => ?_)
                  refine rr_aload_n 0 rfl rfl dX5_isWord_36 ?_
                  refine rr_getI dX5_isWord_37 fX5_34 lo_13 sh_13 rfl ?_
                  refine rr_iload_n 2 rfl rfl dX5_isWord_40 ?_
                  refine rr_iadd dX5_isWord_41 ?_
                  refine rr_aload_n 0 rfl rfl dX5_isWord_42 ?_
                  refine rr_getI dX5_isWord_43 fX5_22 lo_13 sh_13 rfl ?_
                  refine rr_icmp_ge dX5_isWord_46 (fun c9 => ?_) (fun c9 => ?_)
                  · skip
                    refine rr_iconst 1 rfl dX5_isWord_76 ?_
                    refine rr_nreturn dX5_isWord_77 rfl (by first | rfl | assumption) ?_
                    simpa only [vX5_isWord_9, if_pos c1, if_pos c2, if_neg c3, if_pos c4, if_neg c5, if_pos c6, if_neg c7, if_pos c8, if_pos c9] using kq
                  · skip
                    refine rr_aload_n 0 rfl rfl dX5_isWord_49 ?_
                    refine rr_getR dX5_isWord_50 fX5_9 lo_13 sh_13 rfl ?_
                    refine rr_aload_n 0 rfl rfl dX5_isWord_53 ?_
                    refine rr_getI dX5_isWord_54 fX5_34 lo_13 sh_13 rfl ?_
                    refine rr_iload_n 2 rfl rfl dX5_isWord_57 ?_
                    refine rr_iadd dX5_isWord_58 ?_
                    refine rr_baload dX5_isWord_59 lo_14 sh_14 (rd_at (k := 3) rfl (by decide) ho (by assumption)) ?_
                    refine rr_aload_n 1 rfl rfl dX5_isWord_60 ?_
                    refine rr_iload_n 2 rfl rfl dX5_isWord_61 ?_
                    refine rr_callT (As := [.int 3]) (rest := [.int ((h 14) ((((h 13) 6) + 3) : Int32).toNatClampNeg)]) (kc2 := 0) (ks2 := 0) dX5_isWord_62 okJ_charAt lX5_49 (i9 := 9) rfl rfl rfl (Nat.le_of_ble_eq_true rfl) (Nat.le_of_ble_eq_true rfl) rfl (by omega) (by simp [jj_rk]) (by simp [jj_rk]) ?_
                    refine sp_ch_9_3  ?_
                    show jj_R _ _ kc ks (jj_S, 782, h, g) 65 [(0, .ref 13), (1, .ref (1000000 + 9)), (2, .int 3)] [.int 102, .int ((h 14) ((((h 13) 6) + 3) : Int32).toNatClampNeg)] Q
                    refine rr_icmp_eq dX5_isWord_65 (fun c10 => ?_) (fun c10 => ?_)
                    · skip
                      refine rr_iinc 2 1 [(0, .ref 13), (1, .ref (1000000 + 9)), (2, .int 4)] dX5_isWord_70 rfl rfl (by decide) rfl ?_
                      refine rr_goto dX5_isWord_73 ?_
                      refine rr_iload_n 2 rfl rfl dX5_isWord_28 ?_
                      refine rr_aload_n 1 rfl rfl dX5_isWord_29 ?_
                      refine rr_callT (As := []) (rest := [.int 4]) (kc2 := 0) (ks2 := 0) dX5_isWord_30 okJ_length lX5_44 (i9 := 9) rfl rfl rfl (Nat.le_of_ble_eq_true rfl) (Nat.le_of_ble_eq_true rfl) rfl (by omega) (by simp [jj_rk]) (by simp [jj_rk]) ?_
                      refine sp_len_9  ?_
                      show jj_R _ _ kc ks (jj_S, 782, h, g) 33 [(0, .ref 13), (1, .ref (1000000 + 9)), (2, .int 4)] [.int 4, .int 4] Q
                      refine rr_icmp_ge dX5_isWord_33 (fun _ => ?_) (fun c => absurd (by decide) c)
                      refine rr_iconst 1 rfl dX5_isWord_76 ?_
                      refine rr_nreturn dX5_isWord_77 rfl (by first | rfl | assumption) ?_
                      simpa only [vX5_isWord_9, if_pos c1, if_pos c2, if_neg c3, if_pos c4, if_neg c5, if_pos c6, if_neg c7, if_pos c8, if_neg c9, if_pos c10] using kq
                    · skip
                      refine rr_iconst 0 rfl dX5_isWord_68 ?_
                      refine rr_nreturn dX5_isWord_69 rfl (by first | rfl | assumption) ?_
                      simpa only [vX5_isWord_9, if_pos c1, if_pos c2, if_neg c3, if_pos c4, if_neg c5, if_pos c6, if_neg c7, if_pos c8, if_neg c9, if_neg c10] using kq
                · skip
                  refine rr_iconst 0 rfl dX5_isWord_68 ?_
                  refine rr_nreturn dX5_isWord_69 rfl (by first | rfl | assumption) ?_
                  simpa only [vX5_isWord_9, if_pos c1, if_pos c2, if_neg c3, if_pos c4, if_neg c5, if_pos c6, if_neg c7, if_neg c8] using kq
            · skip
              refine rr_iconst 0 rfl dX5_isWord_68 ?_
              refine rr_nreturn dX5_isWord_69 rfl (by first | rfl | assumption) ?_
              simpa only [vX5_isWord_9, if_pos c1, if_pos c2, if_neg c3, if_pos c4, if_neg c5, if_neg c6] using kq
        · skip
          refine rr_iconst 0 rfl dX5_isWord_68 ?_
          refine rr_nreturn dX5_isWord_69 rfl (by first | rfl | assumption) ?_
          simpa only [vX5_isWord_9, if_pos c1, if_pos c2, if_neg c3, if_neg c4] using kq
    · skip
      refine rr_iconst 0 rfl dX5_isWord_24 ?_
      refine rr_nreturn dX5_isWord_25 rfl (by first | rfl | assumption) ?_
      simpa only [vX5_isWord_9, if_pos c1, if_neg c2] using kq
def vX5_isWord_10 (r13 : Nat → Int32) (r14 : Nat → Int32) : Int32 := (if (r13 4) = 2 then (if ((r13 3) - (r13 6)) = 5 then (if (r13 2) ≤ ((r13 6) + 0) then 1 else (if (r14 (((r13 6) + 0) : Int32).toNatClampNeg) = 115 then (if (r13 2) ≤ ((r13 6) + 1) then 1 else (if (r14 (((r13 6) + 1) : Int32).toNatClampNeg) = 108 then (if (r13 2) ≤ ((r13 6) + 2) then 1 else (if (r14 (((r13 6) + 2) : Int32).toNatClampNeg) = 105 then (if (r13 2) ≤ ((r13 6) + 3) then 1 else (if (r14 (((r13 6) + 3) : Int32).toNatClampNeg) = 112 then (if (r13 2) ≤ ((r13 6) + 4) then 1 else (if (r14 (((r13 6) + 4) : Int32).toNatClampNeg) = 115 then 1 else 0)) else 0)) else 0)) else 0)) else 0)) else 0) else 0)
set_option maxHeartbeats 1000000 in
theorem sp_X5_isWord_10 {d kc ks : Nat} {h : Nat → Nat → Int32} {g : Nat → Nat → Int64} {Q : jj_Rs → jj_St → Prop}  (ho : rdat (h 13)) (kq : Q (.inl (some (.int (vX5_isWord_10 (h 13) (h 14))))) (jj_S, 782, h, g)) : jj_R mX5_isWord (d + 4) kc ks (jj_S, 782, h, g) 0 [(0, .ref 13), (1, .ref (1000000 + 10))] [] Q := by
  refine rr_aload_n 0 rfl rfl dX5_isWord_0 ?_
  refine rr_getI dX5_isWord_1 fX5_37 lo_13 sh_13 rfl ?_
  refine rr_iconst 2 rfl dX5_isWord_4 ?_
  refine rr_icmp_ne dX5_isWord_5 (fun c1 => ?_) (fun c1 => ?_)
  · skip
    refine rr_iconst 0 rfl dX5_isWord_24 ?_
    refine rr_nreturn dX5_isWord_25 rfl (by first | rfl | assumption) ?_
    simpa only [vX5_isWord_10, if_neg c1] using kq
  · skip
    refine rr_aload_n 0 rfl rfl dX5_isWord_8 ?_
    refine rr_getI dX5_isWord_9 fX5_25 lo_13 sh_13 rfl ?_
    refine rr_aload_n 0 rfl rfl dX5_isWord_12 ?_
    refine rr_getI dX5_isWord_13 fX5_34 lo_13 sh_13 rfl ?_
    refine rr_isub dX5_isWord_16 ?_
    refine rr_aload_n 1 rfl rfl dX5_isWord_17 ?_
    refine rr_callT (As := []) (rest := [.int (((h 13) 3) - ((h 13) 6))]) (kc2 := 0) (ks2 := 0) dX5_isWord_18 okJ_length lX5_44 (i9 := 10) rfl rfl rfl (Nat.le_of_ble_eq_true rfl) (Nat.le_of_ble_eq_true rfl) rfl (by omega) (by simp [jj_rk]) (by simp [jj_rk]) ?_
    refine sp_len_10  ?_
    show jj_R _ _ kc ks (jj_S, 782, h, g) 21 [(0, .ref 13), (1, .ref (1000000 + 10))] [.int 5, .int (((h 13) 3) - ((h 13) 6))] Q
    refine rr_icmp_eq dX5_isWord_21 (fun c2 => ?_) (fun c2 => ?_)
    · skip
      refine rr_iconst 0 rfl dX5_isWord_26 ?_
      refine rr_istore_n [(0, .ref 13), (1, .ref (1000000 + 10)), (2, .int 0)] dX5_isWord_27 rfl (by decide) rfl ?_
      refine rr_iload_n 2 rfl rfl dX5_isWord_28 ?_
      refine rr_aload_n 1 rfl rfl dX5_isWord_29 ?_
      refine rr_callT (As := []) (rest := [.int 0]) (kc2 := 0) (ks2 := 0) dX5_isWord_30 okJ_length lX5_44 (i9 := 10) rfl rfl rfl (Nat.le_of_ble_eq_true rfl) (Nat.le_of_ble_eq_true rfl) rfl (by omega) (by simp [jj_rk]) (by simp [jj_rk]) ?_
      refine sp_len_10  ?_
      show jj_R _ _ kc ks (jj_S, 782, h, g) 33 [(0, .ref 13), (1, .ref (1000000 + 10)), (2, .int 0)] [.int 5, .int 0] Q
      refine rr_icmp_ge dX5_isWord_33 (fun c => absurd c (by decide)) (fun _ => ?_)
      refine rr_aload_n 0 rfl rfl dX5_isWord_36 ?_
      refine rr_getI dX5_isWord_37 fX5_34 lo_13 sh_13 rfl ?_
      refine rr_iload_n 2 rfl rfl dX5_isWord_40 ?_
      refine rr_iadd dX5_isWord_41 ?_
      refine rr_aload_n 0 rfl rfl dX5_isWord_42 ?_
      refine rr_getI dX5_isWord_43 fX5_22 lo_13 sh_13 rfl ?_
      refine rr_icmp_ge dX5_isWord_46 (fun c3 => ?_) (fun c3 => ?_)
      · skip
        refine rr_iconst 1 rfl dX5_isWord_76 ?_
        refine rr_nreturn dX5_isWord_77 rfl (by first | rfl | assumption) ?_
        simpa only [vX5_isWord_10, if_pos c1, if_pos c2, if_pos c3] using kq
      · skip
        refine rr_aload_n 0 rfl rfl dX5_isWord_49 ?_
        refine rr_getR dX5_isWord_50 fX5_9 lo_13 sh_13 rfl ?_
        refine rr_aload_n 0 rfl rfl dX5_isWord_53 ?_
        refine rr_getI dX5_isWord_54 fX5_34 lo_13 sh_13 rfl ?_
        refine rr_iload_n 2 rfl rfl dX5_isWord_57 ?_
        refine rr_iadd dX5_isWord_58 ?_
        refine rr_baload dX5_isWord_59 lo_14 sh_14 (rd_at (k := 0) rfl (by decide) ho (by assumption)) ?_
        refine rr_aload_n 1 rfl rfl dX5_isWord_60 ?_
        refine rr_iload_n 2 rfl rfl dX5_isWord_61 ?_
        refine rr_callT (As := [.int 0]) (rest := [.int ((h 14) ((((h 13) 6) + 0) : Int32).toNatClampNeg)]) (kc2 := 0) (ks2 := 0) dX5_isWord_62 okJ_charAt lX5_49 (i9 := 10) rfl rfl rfl (Nat.le_of_ble_eq_true rfl) (Nat.le_of_ble_eq_true rfl) rfl (by omega) (by simp [jj_rk]) (by simp [jj_rk]) ?_
        refine sp_ch_10_0  ?_
        show jj_R _ _ kc ks (jj_S, 782, h, g) 65 [(0, .ref 13), (1, .ref (1000000 + 10)), (2, .int 0)] [.int 115, .int ((h 14) ((((h 13) 6) + 0) : Int32).toNatClampNeg)] Q
        refine rr_icmp_eq dX5_isWord_65 (fun c4 => ?_) (fun c4 => ?_)
        · skip
          refine rr_iinc 2 1 [(0, .ref 13), (1, .ref (1000000 + 10)), (2, .int 1)] dX5_isWord_70 rfl rfl (by decide) rfl ?_
          refine rr_goto dX5_isWord_73 ?_
          refine rr_iload_n 2 rfl rfl dX5_isWord_28 ?_
          refine rr_aload_n 1 rfl rfl dX5_isWord_29 ?_
          refine rr_callT (As := []) (rest := [.int 1]) (kc2 := 0) (ks2 := 0) dX5_isWord_30 okJ_length lX5_44 (i9 := 10) rfl rfl rfl (Nat.le_of_ble_eq_true rfl) (Nat.le_of_ble_eq_true rfl) rfl (by omega) (by simp [jj_rk]) (by simp [jj_rk]) ?_
          refine sp_len_10  ?_
          show jj_R _ _ kc ks (jj_S, 782, h, g) 33 [(0, .ref 13), (1, .ref (1000000 + 10)), (2, .int 1)] [.int 5, .int 1] Q
          refine rr_icmp_ge dX5_isWord_33 (fun c => absurd c (by decide)) (fun _ => ?_)
          refine rr_aload_n 0 rfl rfl dX5_isWord_36 ?_
          refine rr_getI dX5_isWord_37 fX5_34 lo_13 sh_13 rfl ?_
          refine rr_iload_n 2 rfl rfl dX5_isWord_40 ?_
          refine rr_iadd dX5_isWord_41 ?_
          refine rr_aload_n 0 rfl rfl dX5_isWord_42 ?_
          refine rr_getI dX5_isWord_43 fX5_22 lo_13 sh_13 rfl ?_
          refine rr_icmp_ge dX5_isWord_46 (fun c5 => ?_) (fun c5 => ?_)
          · skip
            refine rr_iconst 1 rfl dX5_isWord_76 ?_
            refine rr_nreturn dX5_isWord_77 rfl (by first | rfl | assumption) ?_
            simpa only [vX5_isWord_10, if_pos c1, if_pos c2, if_neg c3, if_pos c4, if_pos c5] using kq
          · skip
            refine rr_aload_n 0 rfl rfl dX5_isWord_49 ?_
            refine rr_getR dX5_isWord_50 fX5_9 lo_13 sh_13 rfl ?_
            refine rr_aload_n 0 rfl rfl dX5_isWord_53 ?_
            refine rr_getI dX5_isWord_54 fX5_34 lo_13 sh_13 rfl ?_
            refine rr_iload_n 2 rfl rfl dX5_isWord_57 ?_
            refine rr_iadd dX5_isWord_58 ?_
            refine rr_baload dX5_isWord_59 lo_14 sh_14 (rd_at (k := 1) rfl (by decide) ho (by assumption)) ?_
            refine rr_aload_n 1 rfl rfl dX5_isWord_60 ?_
            refine rr_iload_n 2 rfl rfl dX5_isWord_61 ?_
            refine rr_callT (As := [.int 1]) (rest := [.int ((h 14) ((((h 13) 6) + 1) : Int32).toNatClampNeg)]) (kc2 := 0) (ks2 := 0) dX5_isWord_62 okJ_charAt lX5_49 (i9 := 10) rfl rfl rfl (Nat.le_of_ble_eq_true rfl) (Nat.le_of_ble_eq_true rfl) rfl (by omega) (by simp [jj_rk]) (by simp [jj_rk]) ?_
            refine sp_ch_10_1  ?_
            show jj_R _ _ kc ks (jj_S, 782, h, g) 65 [(0, .ref 13), (1, .ref (1000000 + 10)), (2, .int 1)] [.int 108, .int ((h 14) ((((h 13) 6) + 1) : Int32).toNatClampNeg)] Q
            refine rr_icmp_eq dX5_isWord_65 (fun c6 => ?_) (fun c6 => ?_)
            · skip
              refine rr_iinc 2 1 [(0, .ref 13), (1, .ref (1000000 + 10)), (2, .int 2)] dX5_isWord_70 rfl rfl (by decide) rfl ?_
              refine rr_goto dX5_isWord_73 ?_
              refine rr_iload_n 2 rfl rfl dX5_isWord_28 ?_
              refine rr_aload_n 1 rfl rfl dX5_isWord_29 ?_
              refine rr_callT (As := []) (rest := [.int 2]) (kc2 := 0) (ks2 := 0) dX5_isWord_30 okJ_length lX5_44 (i9 := 10) rfl rfl rfl (Nat.le_of_ble_eq_true rfl) (Nat.le_of_ble_eq_true rfl) rfl (by omega) (by simp [jj_rk]) (by simp [jj_rk]) ?_
              refine sp_len_10  ?_
              show jj_R _ _ kc ks (jj_S, 782, h, g) 33 [(0, .ref 13), (1, .ref (1000000 + 10)), (2, .int 2)] [.int 5, .int 2] Q
              refine rr_icmp_ge dX5_isWord_33 (fun c => absurd c (by decide)) (fun _ => ?_)
              refine rr_aload_n 0 rfl rfl dX5_isWord_36 ?_
              refine rr_getI dX5_isWord_37 fX5_34 lo_13 sh_13 rfl ?_
              refine rr_iload_n 2 rfl rfl dX5_isWord_40 ?_
              refine rr_iadd dX5_isWord_41 ?_
              refine rr_aload_n 0 rfl rfl dX5_isWord_42 ?_
              refine rr_getI dX5_isWord_43 fX5_22 lo_13 sh_13 rfl ?_
              refine rr_icmp_ge dX5_isWord_46 (fun c7 => ?_) (fun c7 => ?_)
              · skip
                refine rr_iconst 1 rfl dX5_isWord_76 ?_
                refine rr_nreturn dX5_isWord_77 rfl (by first | rfl | assumption) ?_
                simpa only [vX5_isWord_10, if_pos c1, if_pos c2, if_neg c3, if_pos c4, if_neg c5, if_pos c6, if_pos c7] using kq
              · skip
                refine rr_aload_n 0 rfl rfl dX5_isWord_49 ?_
                refine rr_getR dX5_isWord_50 fX5_9 lo_13 sh_13 rfl ?_
                refine rr_aload_n 0 rfl rfl dX5_isWord_53 ?_
                refine rr_getI dX5_isWord_54 fX5_34 lo_13 sh_13 rfl ?_
                refine rr_iload_n 2 rfl rfl dX5_isWord_57 ?_
                refine rr_iadd dX5_isWord_58 ?_
                refine rr_baload dX5_isWord_59 lo_14 sh_14 (rd_at (k := 2) rfl (by decide) ho (by assumption)) ?_
                refine rr_aload_n 1 rfl rfl dX5_isWord_60 ?_
                refine rr_iload_n 2 rfl rfl dX5_isWord_61 ?_
                refine rr_callT (As := [.int 2]) (rest := [.int ((h 14) ((((h 13) 6) + 2) : Int32).toNatClampNeg)]) (kc2 := 0) (ks2 := 0) dX5_isWord_62 okJ_charAt lX5_49 (i9 := 10) rfl rfl rfl (Nat.le_of_ble_eq_true rfl) (Nat.le_of_ble_eq_true rfl) rfl (by omega) (by simp [jj_rk]) (by simp [jj_rk]) ?_
                refine sp_ch_10_2  ?_
                show jj_R _ _ kc ks (jj_S, 782, h, g) 65 [(0, .ref 13), (1, .ref (1000000 + 10)), (2, .int 2)] [.int 105, .int ((h 14) ((((h 13) 6) + 2) : Int32).toNatClampNeg)] Q
                refine rr_icmp_eq dX5_isWord_65 (fun c8 => ?_) (fun c8 => ?_)
                · skip
                  refine rr_iinc 2 1 [(0, .ref 13), (1, .ref (1000000 + 10)), (2, .int 3)] dX5_isWord_70 rfl rfl (by decide) rfl ?_
                  refine rr_goto dX5_isWord_73 ?_
                  refine rr_iload_n 2 rfl rfl dX5_isWord_28 ?_
                  refine rr_aload_n 1 rfl rfl dX5_isWord_29 ?_
                  refine rr_callT (As := []) (rest := [.int 3]) (kc2 := 0) (ks2 := 0) dX5_isWord_30 okJ_length lX5_44 (i9 := 10) rfl rfl rfl (Nat.le_of_ble_eq_true rfl) (Nat.le_of_ble_eq_true rfl) rfl (by omega) (by simp [jj_rk]) (by simp [jj_rk]) ?_
                  refine sp_len_10  ?_
                  show jj_R _ _ kc ks (jj_S, 782, h, g) 33 [(0, .ref 13), (1, .ref (1000000 + 10)), (2, .int 3)] [.int 5, .int 3] Q
                  refine rr_icmp_ge dX5_isWord_33 (fun c => absurd c (by decide)) (fun _ => ?_)
                  refine rr_aload_n 0 rfl rfl dX5_isWord_36 ?_
                  refine rr_getI dX5_isWord_37 fX5_34 lo_13 sh_13 rfl ?_
                  refine rr_iload_n 2 rfl rfl dX5_isWord_40 ?_
                  refine rr_iadd dX5_isWord_41 ?_
                  refine rr_aload_n 0 rfl rfl dX5_isWord_42 ?_
                  refine rr_getI dX5_isWord_43 fX5_22 lo_13 sh_13 rfl ?_
                  refine rr_icmp_ge dX5_isWord_46 (fun c9 => ?_) (fun c9 => ?_)
                  · skip
                    refine rr_iconst 1 rfl dX5_isWord_76 ?_
                    refine rr_nreturn dX5_isWord_77 rfl (by first | rfl | assumption) ?_
                    simpa only [vX5_isWord_10, if_pos c1, if_pos c2, if_neg c3, if_pos c4, if_neg c5, if_pos c6, if_neg c7, if_pos c8, if_pos c9] using kq
                  · skip
                    refine rr_aload_n 0 rfl rfl dX5_isWord_49 ?_
                    refine rr_getR dX5_isWord_50 fX5_9 lo_13 sh_13 rfl ?_
                    refine rr_aload_n 0 rfl rfl dX5_isWord_53 ?_
                    refine rr_getI dX5_isWord_54 fX5_34 lo_13 sh_13 rfl ?_
                    refine rr_iload_n 2 rfl rfl dX5_isWord_57 ?_
                    refine rr_iadd dX5_isWord_58 ?_
                    refine rr_baload dX5_isWord_59 lo_14 sh_14 (rd_at (k := 3) rfl (by decide) ho (by assumption)) ?_
                    refine rr_aload_n 1 rfl rfl dX5_isWord_60 ?_
                    refine rr_iload_n 2 rfl rfl dX5_isWord_61 ?_
                    refine rr_callT (As := [.int 3]) (rest := [.int ((h 14) ((((h 13) 6) + 3) : Int32).toNatClampNeg)]) (kc2 := 0) (ks2 := 0) dX5_isWord_62 okJ_charAt lX5_49 (i9 := 10) rfl rfl rfl (Nat.le_of_ble_eq_true rfl) (Nat.le_of_ble_eq_true rfl) rfl (by omega) (by simp [jj_rk]) (by simp [jj_rk]) ?_
                    refine sp_ch_10_3  ?_
                    show jj_R _ _ kc ks (jj_S, 782, h, g) 65 [(0, .ref 13), (1, .ref (1000000 + 10)), (2, .int 3)] [.int 112, .int ((h 14) ((((h 13) 6) + 3) : Int32).toNatClampNeg)] Q
                    refine rr_icmp_eq dX5_isWord_65 (fun c10 => ?_) (fun c10 => ?_)
                    · skip
                      refine rr_iinc 2 1 [(0, .ref 13), (1, .ref (1000000 + 10)), (2, .int 4)] dX5_isWord_70 rfl rfl (by decide) rfl ?_
                      refine rr_goto dX5_isWord_73 ?_
                      refine rr_iload_n 2 rfl rfl dX5_isWord_28 ?_
                      refine rr_aload_n 1 rfl rfl dX5_isWord_29 ?_
                      refine rr_callT (As := []) (rest := [.int 4]) (kc2 := 0) (ks2 := 0) dX5_isWord_30 okJ_length lX5_44 (i9 := 10) rfl rfl rfl (Nat.le_of_ble_eq_true rfl) (Nat.le_of_ble_eq_true rfl) rfl (by omega) (by simp [jj_rk]) (by simp [jj_rk]) ?_
                      refine sp_len_10  ?_
                      show jj_R _ _ kc ks (jj_S, 782, h, g) 33 [(0, .ref 13), (1, .ref (1000000 + 10)), (2, .int 4)] [.int 5, .int 4] Q
                      refine rr_icmp_ge dX5_isWord_33 (fun c => absurd c (by decide)) (fun _ => ?_)
                      refine rr_aload_n 0 rfl rfl dX5_isWord_36 ?_
                      refine rr_getI dX5_isWord_37 fX5_34 lo_13 sh_13 rfl ?_
                      refine rr_iload_n 2 rfl rfl dX5_isWord_40 ?_
                      refine rr_iadd dX5_isWord_41 ?_
                      refine rr_aload_n 0 rfl rfl dX5_isWord_42 ?_
                      refine rr_getI dX5_isWord_43 fX5_22 lo_13 sh_13 rfl ?_
                      refine rr_icmp_ge dX5_isWord_46 (fun c11 => ?_) (fun c11 => ?_)
                      · skip
                        refine rr_iconst 1 rfl dX5_isWord_76 ?_
                        refine rr_nreturn dX5_isWord_77 rfl (by first | rfl | assumption) ?_
                        simpa only [vX5_isWord_10, if_pos c1, if_pos c2, if_neg c3, if_pos c4, if_neg c5, if_pos c6, if_neg c7, if_pos c8, if_neg c9, if_pos c10, if_pos c11] using kq
                      · skip
                        refine rr_aload_n 0 rfl rfl dX5_isWord_49 ?_
                        refine rr_getR dX5_isWord_50 fX5_9 lo_13 sh_13 rfl ?_
                        refine rr_aload_n 0 rfl rfl dX5_isWord_53 ?_
                        refine rr_getI dX5_isWord_54 fX5_34 lo_13 sh_13 rfl ?_
                        refine rr_iload_n 2 rfl rfl dX5_isWord_57 ?_
                        refine rr_iadd dX5_isWord_58 ?_
                        refine rr_baload dX5_isWord_59 lo_14 sh_14 (rd_at (k := 4) rfl (by decide) ho (by assumption)) ?_
                        refine rr_aload_n 1 rfl rfl dX5_isWord_60 ?_
                        refine rr_iload_n 2 rfl rfl dX5_isWord_61 ?_
                        refine rr_callT (As := [.int 4]) (rest := [.int ((h 14) ((((h 13) 6) + 4) : Int32).toNatClampNeg)]) (kc2 := 0) (ks2 := 0) dX5_isWord_62 okJ_charAt lX5_49 (i9 := 10) rfl rfl rfl (Nat.le_of_ble_eq_true rfl) (Nat.le_of_ble_eq_true rfl) rfl (by omega) (by simp [jj_rk]) (by simp [jj_rk]) ?_
                        refine sp_ch_10_4  ?_
                        show jj_R _ _ kc ks (jj_S, 782, h, g) 65 [(0, .ref 13), (1, .ref (1000000 + 10)), (2, .int 4)] [.int 115, .int ((h 14) ((((h 13) 6) + 4) : Int32).toNatClampNeg)] Q
                        refine rr_icmp_eq dX5_isWord_65 (fun c12 => ?_) (fun c12 => ?_)
                        · skip
                          refine rr_iinc 2 1 [(0, .ref 13), (1, .ref (1000000 + 10)), (2, .int 5)] dX5_isWord_70 rfl rfl (by decide) rfl ?_
                          refine rr_goto dX5_isWord_73 ?_
                          refine rr_iload_n 2 rfl rfl dX5_isWord_28 ?_
                          refine rr_aload_n 1 rfl rfl dX5_isWord_29 ?_
                          refine rr_callT (As := []) (rest := [.int 5]) (kc2 := 0) (ks2 := 0) dX5_isWord_30 okJ_length lX5_44 (i9 := 10) rfl rfl rfl (Nat.le_of_ble_eq_true rfl) (Nat.le_of_ble_eq_true rfl) rfl (by omega) (by simp [jj_rk]) (by simp [jj_rk]) ?_
                          refine sp_len_10  ?_
                          show jj_R _ _ kc ks (jj_S, 782, h, g) 33 [(0, .ref 13), (1, .ref (1000000 + 10)), (2, .int 5)] [.int 5, .int 5] Q
                          refine rr_icmp_ge dX5_isWord_33 (fun _ => ?_) (fun c => absurd (by decide) c)
                          refine rr_iconst 1 rfl dX5_isWord_76 ?_
                          refine rr_nreturn dX5_isWord_77 rfl (by first | rfl | assumption) ?_
                          simpa only [vX5_isWord_10, if_pos c1, if_pos c2, if_neg c3, if_pos c4, if_neg c5, if_pos c6, if_neg c7, if_pos c8, if_neg c9, if_pos c10, if_neg c11, if_pos c12] using kq
                        · skip
                          refine rr_iconst 0 rfl dX5_isWord_68 ?_
                          refine rr_nreturn dX5_isWord_69 rfl (by first | rfl | assumption) ?_
                          simpa only [vX5_isWord_10, if_pos c1, if_pos c2, if_neg c3, if_pos c4, if_neg c5, if_pos c6, if_neg c7, if_pos c8, if_neg c9, if_pos c10, if_neg c11, if_neg c12] using kq
                    · skip
                      refine rr_iconst 0 rfl dX5_isWord_68 ?_
                      refine rr_nreturn dX5_isWord_69 rfl (by first | rfl | assumption) ?_
                      simpa only [vX5_isWord_10, if_pos c1, if_pos c2, if_neg c3, if_pos c4, if_neg c5, if_pos c6, if_neg c7, if_pos c8, if_neg c9, if_neg c10] using kq
                · skip
                  refine rr_iconst 0 rfl dX5_isWord_68 ?_
                  refine rr_nreturn dX5_isWord_69 rfl (by first | rfl | assumption) ?_
                  simpa only [vX5_isWord_10, if_pos c1, if_pos c2, if_neg c3, if_pos c4, if_neg c5, if_pos c6, if_neg c7, if_neg c8] using kq
            · skip
              refine rr_iconst 0 rfl dX5_isWord_68 ?_
              refine rr_nreturn dX5_isWord_69 rfl (by first | rfl | assumption) ?_
              simpa only [vX5_isWord_10, if_pos c1, if_pos c2, if_neg c3, if_pos c4, if_neg c5, if_neg c6] using kq
        · skip
          refine rr_iconst 0 rfl dX5_isWord_68 ?_
          refine rr_nreturn dX5_isWord_69 rfl (by first | rfl | assumption) ?_
          simpa only [vX5_isWord_10, if_pos c1, if_pos c2, if_neg c3, if_neg c4] using kq
    · skip
      refine rr_iconst 0 rfl dX5_isWord_24 ?_
      refine rr_nreturn dX5_isWord_25 rfl (by first | rfl | assumption) ?_
      simpa only [vX5_isWord_10, if_pos c1, if_neg c2] using kq
def vX5_isWord_11 (r13 : Nat → Int32) (r14 : Nat → Int32) : Int32 := (if (r13 4) = 2 then (if ((r13 3) - (r13 6)) = 3 then (if (r13 2) ≤ ((r13 6) + 0) then 1 else (if (r14 (((r13 6) + 0) : Int32).toNatClampNeg) = 100 then (if (r13 2) ≤ ((r13 6) + 1) then 1 else (if (r14 (((r13 6) + 1) : Int32).toNatClampNeg) = 97 then (if (r13 2) ≤ ((r13 6) + 2) then 1 else (if (r14 (((r13 6) + 2) : Int32).toNatClampNeg) = 121 then 1 else 0)) else 0)) else 0)) else 0) else 0)
set_option maxHeartbeats 1000000 in
theorem sp_X5_isWord_11 {d kc ks : Nat} {h : Nat → Nat → Int32} {g : Nat → Nat → Int64} {Q : jj_Rs → jj_St → Prop}  (ho : rdat (h 13)) (kq : Q (.inl (some (.int (vX5_isWord_11 (h 13) (h 14))))) (jj_S, 782, h, g)) : jj_R mX5_isWord (d + 4) kc ks (jj_S, 782, h, g) 0 [(0, .ref 13), (1, .ref (1000000 + 11))] [] Q := by
  refine rr_aload_n 0 rfl rfl dX5_isWord_0 ?_
  refine rr_getI dX5_isWord_1 fX5_37 lo_13 sh_13 rfl ?_
  refine rr_iconst 2 rfl dX5_isWord_4 ?_
  refine rr_icmp_ne dX5_isWord_5 (fun c1 => ?_) (fun c1 => ?_)
  · skip
    refine rr_iconst 0 rfl dX5_isWord_24 ?_
    refine rr_nreturn dX5_isWord_25 rfl (by first | rfl | assumption) ?_
    simpa only [vX5_isWord_11, if_neg c1] using kq
  · skip
    refine rr_aload_n 0 rfl rfl dX5_isWord_8 ?_
    refine rr_getI dX5_isWord_9 fX5_25 lo_13 sh_13 rfl ?_
    refine rr_aload_n 0 rfl rfl dX5_isWord_12 ?_
    refine rr_getI dX5_isWord_13 fX5_34 lo_13 sh_13 rfl ?_
    refine rr_isub dX5_isWord_16 ?_
    refine rr_aload_n 1 rfl rfl dX5_isWord_17 ?_
    refine rr_callT (As := []) (rest := [.int (((h 13) 3) - ((h 13) 6))]) (kc2 := 0) (ks2 := 0) dX5_isWord_18 okJ_length lX5_44 (i9 := 11) rfl rfl rfl (Nat.le_of_ble_eq_true rfl) (Nat.le_of_ble_eq_true rfl) rfl (by omega) (by simp [jj_rk]) (by simp [jj_rk]) ?_
    refine sp_len_11  ?_
    show jj_R _ _ kc ks (jj_S, 782, h, g) 21 [(0, .ref 13), (1, .ref (1000000 + 11))] [.int 3, .int (((h 13) 3) - ((h 13) 6))] Q
    refine rr_icmp_eq dX5_isWord_21 (fun c2 => ?_) (fun c2 => ?_)
    · skip
      refine rr_iconst 0 rfl dX5_isWord_26 ?_
      refine rr_istore_n [(0, .ref 13), (1, .ref (1000000 + 11)), (2, .int 0)] dX5_isWord_27 rfl (by decide) rfl ?_
      refine rr_iload_n 2 rfl rfl dX5_isWord_28 ?_
      refine rr_aload_n 1 rfl rfl dX5_isWord_29 ?_
      refine rr_callT (As := []) (rest := [.int 0]) (kc2 := 0) (ks2 := 0) dX5_isWord_30 okJ_length lX5_44 (i9 := 11) rfl rfl rfl (Nat.le_of_ble_eq_true rfl) (Nat.le_of_ble_eq_true rfl) rfl (by omega) (by simp [jj_rk]) (by simp [jj_rk]) ?_
      refine sp_len_11  ?_
      show jj_R _ _ kc ks (jj_S, 782, h, g) 33 [(0, .ref 13), (1, .ref (1000000 + 11)), (2, .int 0)] [.int 3, .int 0] Q
      refine rr_icmp_ge dX5_isWord_33 (fun c => absurd c (by decide)) (fun _ => ?_)
      refine rr_aload_n 0 rfl rfl dX5_isWord_36 ?_
      refine rr_getI dX5_isWord_37 fX5_34 lo_13 sh_13 rfl ?_
      refine rr_iload_n 2 rfl rfl dX5_isWord_40 ?_
      refine rr_iadd dX5_isWord_41 ?_
      refine rr_aload_n 0 rfl rfl dX5_isWord_42 ?_
      refine rr_getI dX5_isWord_43 fX5_22 lo_13 sh_13 rfl ?_
      refine rr_icmp_ge dX5_isWord_46 (fun c3 => ?_) (fun c3 => ?_)
      · skip
        refine rr_iconst 1 rfl dX5_isWord_76 ?_
        refine rr_nreturn dX5_isWord_77 rfl (by first | rfl | assumption) ?_
        simpa only [vX5_isWord_11, if_pos c1, if_pos c2, if_pos c3] using kq
      · skip
        refine rr_aload_n 0 rfl rfl dX5_isWord_49 ?_
        refine rr_getR dX5_isWord_50 fX5_9 lo_13 sh_13 rfl ?_
        refine rr_aload_n 0 rfl rfl dX5_isWord_53 ?_
        refine rr_getI dX5_isWord_54 fX5_34 lo_13 sh_13 rfl ?_
        refine rr_iload_n 2 rfl rfl dX5_isWord_57 ?_
        refine rr_iadd dX5_isWord_58 ?_
        refine rr_baload dX5_isWord_59 lo_14 sh_14 (rd_at (k := 0) rfl (by decide) ho (by assumption)) ?_
        refine rr_aload_n 1 rfl rfl dX5_isWord_60 ?_
        refine rr_iload_n 2 rfl rfl dX5_isWord_61 ?_
        refine rr_callT (As := [.int 0]) (rest := [.int ((h 14) ((((h 13) 6) + 0) : Int32).toNatClampNeg)]) (kc2 := 0) (ks2 := 0) dX5_isWord_62 okJ_charAt lX5_49 (i9 := 11) rfl rfl rfl (Nat.le_of_ble_eq_true rfl) (Nat.le_of_ble_eq_true rfl) rfl (by omega) (by simp [jj_rk]) (by simp [jj_rk]) ?_
        refine sp_ch_11_0  ?_
        show jj_R _ _ kc ks (jj_S, 782, h, g) 65 [(0, .ref 13), (1, .ref (1000000 + 11)), (2, .int 0)] [.int 100, .int ((h 14) ((((h 13) 6) + 0) : Int32).toNatClampNeg)] Q
        refine rr_icmp_eq dX5_isWord_65 (fun c4 => ?_) (fun c4 => ?_)
        · skip
          refine rr_iinc 2 1 [(0, .ref 13), (1, .ref (1000000 + 11)), (2, .int 1)] dX5_isWord_70 rfl rfl (by decide) rfl ?_
          refine rr_goto dX5_isWord_73 ?_
          refine rr_iload_n 2 rfl rfl dX5_isWord_28 ?_
          refine rr_aload_n 1 rfl rfl dX5_isWord_29 ?_
          refine rr_callT (As := []) (rest := [.int 1]) (kc2 := 0) (ks2 := 0) dX5_isWord_30 okJ_length lX5_44 (i9 := 11) rfl rfl rfl (Nat.le_of_ble_eq_true rfl) (Nat.le_of_ble_eq_true rfl) rfl (by omega) (by simp [jj_rk]) (by simp [jj_rk]) ?_
          refine sp_len_11  ?_
          show jj_R _ _ kc ks (jj_S, 782, h, g) 33 [(0, .ref 13), (1, .ref (1000000 + 11)), (2, .int 1)] [.int 3, .int 1] Q
          refine rr_icmp_ge dX5_isWord_33 (fun c => absurd c (by decide)) (fun _ => ?_)
          refine rr_aload_n 0 rfl rfl dX5_isWord_36 ?_
          refine rr_getI dX5_isWord_37 fX5_34 lo_13 sh_13 rfl ?_
          refine rr_iload_n 2 rfl rfl dX5_isWord_40 ?_
          refine rr_iadd dX5_isWord_41 ?_
          refine rr_aload_n 0 rfl rfl dX5_isWord_42 ?_
          refine rr_getI dX5_isWord_43 fX5_22 lo_13 sh_13 rfl ?_
          refine rr_icmp_ge dX5_isWord_46 (fun c5 => ?_) (fun c5 => ?_)
          · skip
            refine rr_iconst 1 rfl dX5_isWord_76 ?_
            refine rr_nreturn dX5_isWord_77 rfl (by first | rfl | assumption) ?_
            simpa only [vX5_isWord_11, if_pos c1, if_pos c2, if_neg c3, if_pos c4, if_pos c5] using kq
          · skip
            refine rr_aload_n 0 rfl rfl dX5_isWord_49 ?_
            refine rr_getR dX5_isWord_50 fX5_9 lo_13 sh_13 rfl ?_
            refine rr_aload_n 0 rfl rfl dX5_isWord_53 ?_
            refine rr_getI dX5_isWord_54 fX5_34 lo_13 sh_13 rfl ?_
            refine rr_iload_n 2 rfl rfl dX5_isWord_57 ?_
            refine rr_iadd dX5_isWord_58 ?_
            refine rr_baload dX5_isWord_59 lo_14 sh_14 (rd_at (k := 1) rfl (by decide) ho (by assumption)) ?_
            refine rr_aload_n 1 rfl rfl dX5_isWord_60 ?_
            refine rr_iload_n 2 rfl rfl dX5_isWord_61 ?_
            refine rr_callT (As := [.int 1]) (rest := [.int ((h 14) ((((h 13) 6) + 1) : Int32).toNatClampNeg)]) (kc2 := 0) (ks2 := 0) dX5_isWord_62 okJ_charAt lX5_49 (i9 := 11) rfl rfl rfl (Nat.le_of_ble_eq_true rfl) (Nat.le_of_ble_eq_true rfl) rfl (by omega) (by simp [jj_rk]) (by simp [jj_rk]) ?_
            refine sp_ch_11_1  ?_
            show jj_R _ _ kc ks (jj_S, 782, h, g) 65 [(0, .ref 13), (1, .ref (1000000 + 11)), (2, .int 1)] [.int 97, .int ((h 14) ((((h 13) 6) + 1) : Int32).toNatClampNeg)] Q
            refine rr_icmp_eq dX5_isWord_65 (fun c6 => ?_) (fun c6 => ?_)
            · skip
              refine rr_iinc 2 1 [(0, .ref 13), (1, .ref (1000000 + 11)), (2, .int 2)] dX5_isWord_70 rfl rfl (by decide) rfl ?_
              refine rr_goto dX5_isWord_73 ?_
              refine rr_iload_n 2 rfl rfl dX5_isWord_28 ?_
              refine rr_aload_n 1 rfl rfl dX5_isWord_29 ?_
              refine rr_callT (As := []) (rest := [.int 2]) (kc2 := 0) (ks2 := 0) dX5_isWord_30 okJ_length lX5_44 (i9 := 11) rfl rfl rfl (Nat.le_of_ble_eq_true rfl) (Nat.le_of_ble_eq_true rfl) rfl (by omega) (by simp [jj_rk]) (by simp [jj_rk]) ?_
              refine sp_len_11  ?_
              show jj_R _ _ kc ks (jj_S, 782, h, g) 33 [(0, .ref 13), (1, .ref (1000000 + 11)), (2, .int 2)] [.int 3, .int 2] Q
              refine rr_icmp_ge dX5_isWord_33 (fun c => absurd c (by decide)) (fun _ => ?_)
              refine rr_aload_n 0 rfl rfl dX5_isWord_36 ?_
              refine rr_getI dX5_isWord_37 fX5_34 lo_13 sh_13 rfl ?_
              refine rr_iload_n 2 rfl rfl dX5_isWord_40 ?_
              refine rr_iadd dX5_isWord_41 ?_
              refine rr_aload_n 0 rfl rfl dX5_isWord_42 ?_
              refine rr_getI dX5_isWord_43 fX5_22 lo_13 sh_13 rfl ?_
              refine rr_icmp_ge dX5_isWord_46 (fun c7 => ?_) (fun c7 => ?_)
              · skip
                refine rr_iconst 1 rfl dX5_isWord_76 ?_
                refine rr_nreturn dX5_isWord_77 rfl (by first | rfl | assumption) ?_
                simpa only [vX5_isWord_11, if_pos c1, if_pos c2, if_neg c3, if_pos c4, if_neg c5, if_pos c6, if_pos c7] using kq
              · skip
                refine rr_aload_n 0 rfl rfl dX5_isWord_49 ?_
                refine rr_getR dX5_isWord_50 fX5_9 lo_13 sh_13 rfl ?_
                refine rr_aload_n 0 rfl rfl dX5_isWord_53 ?_
                refine rr_getI dX5_isWord_54 fX5_34 lo_13 sh_13 rfl ?_
                refine rr_iload_n 2 rfl rfl dX5_isWord_57 ?_
                refine rr_iadd dX5_isWord_58 ?_
                refine rr_baload dX5_isWord_59 lo_14 sh_14 (rd_at (k := 2) rfl (by decide) ho (by assumption)) ?_
                refine rr_aload_n 1 rfl rfl dX5_isWord_60 ?_
                refine rr_iload_n 2 rfl rfl dX5_isWord_61 ?_
                refine rr_callT (As := [.int 2]) (rest := [.int ((h 14) ((((h 13) 6) + 2) : Int32).toNatClampNeg)]) (kc2 := 0) (ks2 := 0) dX5_isWord_62 okJ_charAt lX5_49 (i9 := 11) rfl rfl rfl (Nat.le_of_ble_eq_true rfl) (Nat.le_of_ble_eq_true rfl) rfl (by omega) (by simp [jj_rk]) (by simp [jj_rk]) ?_
                refine sp_ch_11_2  ?_
                show jj_R _ _ kc ks (jj_S, 782, h, g) 65 [(0, .ref 13), (1, .ref (1000000 + 11)), (2, .int 2)] [.int 121, .int ((h 14) ((((h 13) 6) + 2) : Int32).toNatClampNeg)] Q
                refine rr_icmp_eq dX5_isWord_65 (fun c8 => ?_) (fun c8 => ?_)
                · skip
                  refine rr_iinc 2 1 [(0, .ref 13), (1, .ref (1000000 + 11)), (2, .int 3)] dX5_isWord_70 rfl rfl (by decide) rfl ?_
                  refine rr_goto dX5_isWord_73 ?_
                  refine rr_iload_n 2 rfl rfl dX5_isWord_28 ?_
                  refine rr_aload_n 1 rfl rfl dX5_isWord_29 ?_
                  refine rr_callT (As := []) (rest := [.int 3]) (kc2 := 0) (ks2 := 0) dX5_isWord_30 okJ_length lX5_44 (i9 := 11) rfl rfl rfl (Nat.le_of_ble_eq_true rfl) (Nat.le_of_ble_eq_true rfl) rfl (by omega) (by simp [jj_rk]) (by simp [jj_rk]) ?_
                  refine sp_len_11  ?_
                  show jj_R _ _ kc ks (jj_S, 782, h, g) 33 [(0, .ref 13), (1, .ref (1000000 + 11)), (2, .int 3)] [.int 3, .int 3] Q
                  refine rr_icmp_ge dX5_isWord_33 (fun _ => ?_) (fun c => absurd (by decide) c)
                  refine rr_iconst 1 rfl dX5_isWord_76 ?_
                  refine rr_nreturn dX5_isWord_77 rfl (by first | rfl | assumption) ?_
                  simpa only [vX5_isWord_11, if_pos c1, if_pos c2, if_neg c3, if_pos c4, if_neg c5, if_pos c6, if_neg c7, if_pos c8] using kq
                · skip
                  refine rr_iconst 0 rfl dX5_isWord_68 ?_
                  refine rr_nreturn dX5_isWord_69 rfl (by first | rfl | assumption) ?_
                  simpa only [vX5_isWord_11, if_pos c1, if_pos c2, if_neg c3, if_pos c4, if_neg c5, if_pos c6, if_neg c7, if_neg c8] using kq
            · skip
              refine rr_iconst 0 rfl dX5_isWord_68 ?_
              refine rr_nreturn dX5_isWord_69 rfl (by first | rfl | assumption) ?_
              simpa only [vX5_isWord_11, if_pos c1, if_pos c2, if_neg c3, if_pos c4, if_neg c5, if_neg c6] using kq
        · skip
          refine rr_iconst 0 rfl dX5_isWord_68 ?_
          refine rr_nreturn dX5_isWord_69 rfl (by first | rfl | assumption) ?_
          simpa only [vX5_isWord_11, if_pos c1, if_pos c2, if_neg c3, if_neg c4] using kq
    · skip
      refine rr_iconst 0 rfl dX5_isWord_24 ?_
      refine rr_nreturn dX5_isWord_25 rfl (by first | rfl | assumption) ?_
      simpa only [vX5_isWord_11, if_pos c1, if_neg c2] using kq
def vX5_isWord_12 (r13 : Nat → Int32) (r14 : Nat → Int32) : Int32 := (if (r13 4) = 2 then (if ((r13 3) - (r13 6)) = 5 then (if (r13 2) ≤ ((r13 6) + 0) then 1 else (if (r14 (((r13 6) + 0) : Int32).toNatClampNeg) = 108 then (if (r13 2) ≤ ((r13 6) + 1) then 1 else (if (r14 (((r13 6) + 1) : Int32).toNatClampNeg) = 101 then (if (r13 2) ≤ ((r13 6) + 2) then 1 else (if (r14 (((r13 6) + 2) : Int32).toNatClampNeg) = 97 then (if (r13 2) ≤ ((r13 6) + 3) then 1 else (if (r14 (((r13 6) + 3) : Int32).toNatClampNeg) = 115 then (if (r13 2) ≤ ((r13 6) + 4) then 1 else (if (r14 (((r13 6) + 4) : Int32).toNatClampNeg) = 116 then 1 else 0)) else 0)) else 0)) else 0)) else 0)) else 0) else 0)
set_option maxHeartbeats 1000000 in
theorem sp_X5_isWord_12 {d kc ks : Nat} {h : Nat → Nat → Int32} {g : Nat → Nat → Int64} {Q : jj_Rs → jj_St → Prop}  (ho : rdat (h 13)) (kq : Q (.inl (some (.int (vX5_isWord_12 (h 13) (h 14))))) (jj_S, 782, h, g)) : jj_R mX5_isWord (d + 4) kc ks (jj_S, 782, h, g) 0 [(0, .ref 13), (1, .ref (1000000 + 12))] [] Q := by
  refine rr_aload_n 0 rfl rfl dX5_isWord_0 ?_
  refine rr_getI dX5_isWord_1 fX5_37 lo_13 sh_13 rfl ?_
  refine rr_iconst 2 rfl dX5_isWord_4 ?_
  refine rr_icmp_ne dX5_isWord_5 (fun c1 => ?_) (fun c1 => ?_)
  · skip
    refine rr_iconst 0 rfl dX5_isWord_24 ?_
    refine rr_nreturn dX5_isWord_25 rfl (by first | rfl | assumption) ?_
    simpa only [vX5_isWord_12, if_neg c1] using kq
  · skip
    refine rr_aload_n 0 rfl rfl dX5_isWord_8 ?_
    refine rr_getI dX5_isWord_9 fX5_25 lo_13 sh_13 rfl ?_
    refine rr_aload_n 0 rfl rfl dX5_isWord_12 ?_
    refine rr_getI dX5_isWord_13 fX5_34 lo_13 sh_13 rfl ?_
    refine rr_isub dX5_isWord_16 ?_
    refine rr_aload_n 1 rfl rfl dX5_isWord_17 ?_
    refine rr_callT (As := []) (rest := [.int (((h 13) 3) - ((h 13) 6))]) (kc2 := 0) (ks2 := 0) dX5_isWord_18 okJ_length lX5_44 (i9 := 12) rfl rfl rfl (Nat.le_of_ble_eq_true rfl) (Nat.le_of_ble_eq_true rfl) rfl (by omega) (by simp [jj_rk]) (by simp [jj_rk]) ?_
    refine sp_len_12  ?_
    show jj_R _ _ kc ks (jj_S, 782, h, g) 21 [(0, .ref 13), (1, .ref (1000000 + 12))] [.int 5, .int (((h 13) 3) - ((h 13) 6))] Q
    refine rr_icmp_eq dX5_isWord_21 (fun c2 => ?_) (fun c2 => ?_)
    · skip
      refine rr_iconst 0 rfl dX5_isWord_26 ?_
      refine rr_istore_n [(0, .ref 13), (1, .ref (1000000 + 12)), (2, .int 0)] dX5_isWord_27 rfl (by decide) rfl ?_
      refine rr_iload_n 2 rfl rfl dX5_isWord_28 ?_
      refine rr_aload_n 1 rfl rfl dX5_isWord_29 ?_
      refine rr_callT (As := []) (rest := [.int 0]) (kc2 := 0) (ks2 := 0) dX5_isWord_30 okJ_length lX5_44 (i9 := 12) rfl rfl rfl (Nat.le_of_ble_eq_true rfl) (Nat.le_of_ble_eq_true rfl) rfl (by omega) (by simp [jj_rk]) (by simp [jj_rk]) ?_
      refine sp_len_12  ?_
      show jj_R _ _ kc ks (jj_S, 782, h, g) 33 [(0, .ref 13), (1, .ref (1000000 + 12)), (2, .int 0)] [.int 5, .int 0] Q
      refine rr_icmp_ge dX5_isWord_33 (fun c => absurd c (by decide)) (fun _ => ?_)
      refine rr_aload_n 0 rfl rfl dX5_isWord_36 ?_
      refine rr_getI dX5_isWord_37 fX5_34 lo_13 sh_13 rfl ?_
      refine rr_iload_n 2 rfl rfl dX5_isWord_40 ?_
      refine rr_iadd dX5_isWord_41 ?_
      refine rr_aload_n 0 rfl rfl dX5_isWord_42 ?_
      refine rr_getI dX5_isWord_43 fX5_22 lo_13 sh_13 rfl ?_
      refine rr_icmp_ge dX5_isWord_46 (fun c3 => ?_) (fun c3 => ?_)
      · skip
        refine rr_iconst 1 rfl dX5_isWord_76 ?_
        refine rr_nreturn dX5_isWord_77 rfl (by first | rfl | assumption) ?_
        simpa only [vX5_isWord_12, if_pos c1, if_pos c2, if_pos c3] using kq
      · skip
        refine rr_aload_n 0 rfl rfl dX5_isWord_49 ?_
        refine rr_getR dX5_isWord_50 fX5_9 lo_13 sh_13 rfl ?_
        refine rr_aload_n 0 rfl rfl dX5_isWord_53 ?_
        refine rr_getI dX5_isWord_54 fX5_34 lo_13 sh_13 rfl ?_
        refine rr_iload_n 2 rfl rfl dX5_isWord_57 ?_
        refine rr_iadd dX5_isWord_58 ?_
        refine rr_baload dX5_isWord_59 lo_14 sh_14 (rd_at (k := 0) rfl (by decide) ho (by assumption)) ?_
        refine rr_aload_n 1 rfl rfl dX5_isWord_60 ?_
        refine rr_iload_n 2 rfl rfl dX5_isWord_61 ?_
        refine rr_callT (As := [.int 0]) (rest := [.int ((h 14) ((((h 13) 6) + 0) : Int32).toNatClampNeg)]) (kc2 := 0) (ks2 := 0) dX5_isWord_62 okJ_charAt lX5_49 (i9 := 12) rfl rfl rfl (Nat.le_of_ble_eq_true rfl) (Nat.le_of_ble_eq_true rfl) rfl (by omega) (by simp [jj_rk]) (by simp [jj_rk]) ?_
        refine sp_ch_12_0  ?_
        show jj_R _ _ kc ks (jj_S, 782, h, g) 65 [(0, .ref 13), (1, .ref (1000000 + 12)), (2, .int 0)] [.int 108, .int ((h 14) ((((h 13) 6) + 0) : Int32).toNatClampNeg)] Q
        refine rr_icmp_eq dX5_isWord_65 (fun c4 => ?_) (fun c4 => ?_)
        · skip
          refine rr_iinc 2 1 [(0, .ref 13), (1, .ref (1000000 + 12)), (2, .int 1)] dX5_isWord_70 rfl rfl (by decide) rfl ?_
          refine rr_goto dX5_isWord_73 ?_
          refine rr_iload_n 2 rfl rfl dX5_isWord_28 ?_
          refine rr_aload_n 1 rfl rfl dX5_isWord_29 ?_
          refine rr_callT (As := []) (rest := [.int 1]) (kc2 := 0) (ks2 := 0) dX5_isWord_30 okJ_length lX5_44 (i9 := 12) rfl rfl rfl (Nat.le_of_ble_eq_true rfl) (Nat.le_of_ble_eq_true rfl) rfl (by omega) (by simp [jj_rk]) (by simp [jj_rk]) ?_
          refine sp_len_12  ?_
          show jj_R _ _ kc ks (jj_S, 782, h, g) 33 [(0, .ref 13), (1, .ref (1000000 + 12)), (2, .int 1)] [.int 5, .int 1] Q
          refine rr_icmp_ge dX5_isWord_33 (fun c => absurd c (by decide)) (fun _ => ?_)
          refine rr_aload_n 0 rfl rfl dX5_isWord_36 ?_
          refine rr_getI dX5_isWord_37 fX5_34 lo_13 sh_13 rfl ?_
          refine rr_iload_n 2 rfl rfl dX5_isWord_40 ?_
          refine rr_iadd dX5_isWord_41 ?_
          refine rr_aload_n 0 rfl rfl dX5_isWord_42 ?_
          refine rr_getI dX5_isWord_43 fX5_22 lo_13 sh_13 rfl ?_
          refine rr_icmp_ge dX5_isWord_46 (fun c5 => ?_) (fun c5 => ?_)
          · skip
            refine rr_iconst 1 rfl dX5_isWord_76 ?_
            refine rr_nreturn dX5_isWord_77 rfl (by first | rfl | assumption) ?_
            simpa only [vX5_isWord_12, if_pos c1, if_pos c2, if_neg c3, if_pos c4, if_pos c5] using kq
          · skip
            refine rr_aload_n 0 rfl rfl dX5_isWord_49 ?_
            refine rr_getR dX5_isWord_50 fX5_9 lo_13 sh_13 rfl ?_
            refine rr_aload_n 0 rfl rfl dX5_isWord_53 ?_
            refine rr_getI dX5_isWord_54 fX5_34 lo_13 sh_13 rfl ?_
            refine rr_iload_n 2 rfl rfl dX5_isWord_57 ?_
            refine rr_iadd dX5_isWord_58 ?_
            refine rr_baload dX5_isWord_59 lo_14 sh_14 (rd_at (k := 1) rfl (by decide) ho (by assumption)) ?_
            refine rr_aload_n 1 rfl rfl dX5_isWord_60 ?_
            refine rr_iload_n 2 rfl rfl dX5_isWord_61 ?_
            refine rr_callT (As := [.int 1]) (rest := [.int ((h 14) ((((h 13) 6) + 1) : Int32).toNatClampNeg)]) (kc2 := 0) (ks2 := 0) dX5_isWord_62 okJ_charAt lX5_49 (i9 := 12) rfl rfl rfl (Nat.le_of_ble_eq_true rfl) (Nat.le_of_ble_eq_true rfl) rfl (by omega) (by simp [jj_rk]) (by simp [jj_rk]) ?_
            refine sp_ch_12_1  ?_
            show jj_R _ _ kc ks (jj_S, 782, h, g) 65 [(0, .ref 13), (1, .ref (1000000 + 12)), (2, .int 1)] [.int 101, .int ((h 14) ((((h 13) 6) + 1) : Int32).toNatClampNeg)] Q
            refine rr_icmp_eq dX5_isWord_65 (fun c6 => ?_) (fun c6 => ?_)
            · skip
              refine rr_iinc 2 1 [(0, .ref 13), (1, .ref (1000000 + 12)), (2, .int 2)] dX5_isWord_70 rfl rfl (by decide) rfl ?_
              refine rr_goto dX5_isWord_73 ?_
              refine rr_iload_n 2 rfl rfl dX5_isWord_28 ?_
              refine rr_aload_n 1 rfl rfl dX5_isWord_29 ?_
              refine rr_callT (As := []) (rest := [.int 2]) (kc2 := 0) (ks2 := 0) dX5_isWord_30 okJ_length lX5_44 (i9 := 12) rfl rfl rfl (Nat.le_of_ble_eq_true rfl) (Nat.le_of_ble_eq_true rfl) rfl (by omega) (by simp [jj_rk]) (by simp [jj_rk]) ?_
              refine sp_len_12  ?_
              show jj_R _ _ kc ks (jj_S, 782, h, g) 33 [(0, .ref 13), (1, .ref (1000000 + 12)), (2, .int 2)] [.int 5, .int 2] Q
              refine rr_icmp_ge dX5_isWord_33 (fun c => absurd c (by decide)) (fun _ => ?_)
              refine rr_aload_n 0 rfl rfl dX5_isWord_36 ?_
              refine rr_getI dX5_isWord_37 fX5_34 lo_13 sh_13 rfl ?_
              refine rr_iload_n 2 rfl rfl dX5_isWord_40 ?_
              refine rr_iadd dX5_isWord_41 ?_
              refine rr_aload_n 0 rfl rfl dX5_isWord_42 ?_
              refine rr_getI dX5_isWord_43 fX5_22 lo_13 sh_13 rfl ?_
              refine rr_icmp_ge dX5_isWord_46 (fun c7 => ?_) (fun c7 => ?_)
              · skip
                refine rr_iconst 1 rfl dX5_isWord_76 ?_
                refine rr_nreturn dX5_isWord_77 rfl (by first | rfl | assumption) ?_
                simpa only [vX5_isWord_12, if_pos c1, if_pos c2, if_neg c3, if_pos c4, if_neg c5, if_pos c6, if_pos c7] using kq
              · skip
                refine rr_aload_n 0 rfl rfl dX5_isWord_49 ?_
                refine rr_getR dX5_isWord_50 fX5_9 lo_13 sh_13 rfl ?_
                refine rr_aload_n 0 rfl rfl dX5_isWord_53 ?_
                refine rr_getI dX5_isWord_54 fX5_34 lo_13 sh_13 rfl ?_
                refine rr_iload_n 2 rfl rfl dX5_isWord_57 ?_
                refine rr_iadd dX5_isWord_58 ?_
                refine rr_baload dX5_isWord_59 lo_14 sh_14 (rd_at (k := 2) rfl (by decide) ho (by assumption)) ?_
                refine rr_aload_n 1 rfl rfl dX5_isWord_60 ?_
                refine rr_iload_n 2 rfl rfl dX5_isWord_61 ?_
                refine rr_callT (As := [.int 2]) (rest := [.int ((h 14) ((((h 13) 6) + 2) : Int32).toNatClampNeg)]) (kc2 := 0) (ks2 := 0) dX5_isWord_62 okJ_charAt lX5_49 (i9 := 12) rfl rfl rfl (Nat.le_of_ble_eq_true rfl) (Nat.le_of_ble_eq_true rfl) rfl (by omega) (by simp [jj_rk]) (by simp [jj_rk]) ?_
                refine sp_ch_12_2  ?_
                show jj_R _ _ kc ks (jj_S, 782, h, g) 65 [(0, .ref 13), (1, .ref (1000000 + 12)), (2, .int 2)] [.int 97, .int ((h 14) ((((h 13) 6) + 2) : Int32).toNatClampNeg)] Q
                refine rr_icmp_eq dX5_isWord_65 (fun c8 => ?_) (fun c8 => ?_)
                · skip
                  refine rr_iinc 2 1 [(0, .ref 13), (1, .ref (1000000 + 12)), (2, .int 3)] dX5_isWord_70 rfl rfl (by decide) rfl ?_
                  refine rr_goto dX5_isWord_73 ?_
                  refine rr_iload_n 2 rfl rfl dX5_isWord_28 ?_
                  refine rr_aload_n 1 rfl rfl dX5_isWord_29 ?_
                  refine rr_callT (As := []) (rest := [.int 3]) (kc2 := 0) (ks2 := 0) dX5_isWord_30 okJ_length lX5_44 (i9 := 12) rfl rfl rfl (Nat.le_of_ble_eq_true rfl) (Nat.le_of_ble_eq_true rfl) rfl (by omega) (by simp [jj_rk]) (by simp [jj_rk]) ?_
                  refine sp_len_12  ?_
                  show jj_R _ _ kc ks (jj_S, 782, h, g) 33 [(0, .ref 13), (1, .ref (1000000 + 12)), (2, .int 3)] [.int 5, .int 3] Q
                  refine rr_icmp_ge dX5_isWord_33 (fun c => absurd c (by decide)) (fun _ => ?_)
                  refine rr_aload_n 0 rfl rfl dX5_isWord_36 ?_
                  refine rr_getI dX5_isWord_37 fX5_34 lo_13 sh_13 rfl ?_
                  refine rr_iload_n 2 rfl rfl dX5_isWord_40 ?_
                  refine rr_iadd dX5_isWord_41 ?_
                  refine rr_aload_n 0 rfl rfl dX5_isWord_42 ?_
                  refine rr_getI dX5_isWord_43 fX5_22 lo_13 sh_13 rfl ?_
                  refine rr_icmp_ge dX5_isWord_46 (fun c9 => ?_) (fun c9 => ?_)
                  · skip
                    refine rr_iconst 1 rfl dX5_isWord_76 ?_
                    refine rr_nreturn dX5_isWord_77 rfl (by first | rfl | assumption) ?_
                    simpa only [vX5_isWord_12, if_pos c1, if_pos c2, if_neg c3, if_pos c4, if_neg c5, if_pos c6, if_neg c7, if_pos c8, if_pos c9] using kq
                  · skip
                    refine rr_aload_n 0 rfl rfl dX5_isWord_49 ?_
                    refine rr_getR dX5_isWord_50 fX5_9 lo_13 sh_13 rfl ?_
                    refine rr_aload_n 0 rfl rfl dX5_isWord_53 ?_
                    refine rr_getI dX5_isWord_54 fX5_34 lo_13 sh_13 rfl ?_
                    refine rr_iload_n 2 rfl rfl dX5_isWord_57 ?_
                    refine rr_iadd dX5_isWord_58 ?_
                    refine rr_baload dX5_isWord_59 lo_14 sh_14 (rd_at (k := 3) rfl (by decide) ho (by assumption)) ?_
                    refine rr_aload_n 1 rfl rfl dX5_isWord_60 ?_
                    refine rr_iload_n 2 rfl rfl dX5_isWord_61 ?_
                    refine rr_callT (As := [.int 3]) (rest := [.int ((h 14) ((((h 13) 6) + 3) : Int32).toNatClampNeg)]) (kc2 := 0) (ks2 := 0) dX5_isWord_62 okJ_charAt lX5_49 (i9 := 12) rfl rfl rfl (Nat.le_of_ble_eq_true rfl) (Nat.le_of_ble_eq_true rfl) rfl (by omega) (by simp [jj_rk]) (by simp [jj_rk]) ?_
                    refine sp_ch_12_3  ?_
                    show jj_R _ _ kc ks (jj_S, 782, h, g) 65 [(0, .ref 13), (1, .ref (1000000 + 12)), (2, .int 3)] [.int 115, .int ((h 14) ((((h 13) 6) + 3) : Int32).toNatClampNeg)] Q
                    refine rr_icmp_eq dX5_isWord_65 (fun c10 => ?_) (fun c10 => ?_)
                    · skip
                      refine rr_iinc 2 1 [(0, .ref 13), (1, .ref (1000000 + 12)), (2, .int 4)] dX5_isWord_70 rfl rfl (by decide) rfl ?_
                      refine rr_goto dX5_isWord_73 ?_
                      refine rr_iload_n 2 rfl rfl dX5_isWord_28 ?_
                      refine rr_aload_n 1 rfl rfl dX5_isWord_29 ?_
                      refine rr_callT (As := []) (rest := [.int 4]) (kc2 := 0) (ks2 := 0) dX5_isWord_30 okJ_length lX5_44 (i9 := 12) rfl rfl rfl (Nat.le_of_ble_eq_true rfl) (Nat.le_of_ble_eq_true rfl) rfl (by omega) (by simp [jj_rk]) (by simp [jj_rk]) ?_
                      refine sp_len_12  ?_
                      show jj_R _ _ kc ks (jj_S, 782, h, g) 33 [(0, .ref 13), (1, .ref (1000000 + 12)), (2, .int 4)] [.int 5, .int 4] Q
                      refine rr_icmp_ge dX5_isWord_33 (fun c => absurd c (by decide)) (fun _ => ?_)
                      refine rr_aload_n 0 rfl rfl dX5_isWord_36 ?_
                      refine rr_getI dX5_isWord_37 fX5_34 lo_13 sh_13 rfl ?_
                      refine rr_iload_n 2 rfl rfl dX5_isWord_40 ?_
                      refine rr_iadd dX5_isWord_41 ?_
                      refine rr_aload_n 0 rfl rfl dX5_isWord_42 ?_
                      refine rr_getI dX5_isWord_43 fX5_22 lo_13 sh_13 rfl ?_
                      refine rr_icmp_ge dX5_isWord_46 (fun c11 => ?_) (fun c11 => ?_)
                      · skip
                        refine rr_iconst 1 rfl dX5_isWord_76 ?_
                        refine rr_nreturn dX5_isWord_77 rfl (by first | rfl | assumption) ?_
                        simpa only [vX5_isWord_12, if_pos c1, if_pos c2, if_neg c3, if_pos c4, if_neg c5, if_pos c6, if_neg c7, if_pos c8, if_neg c9, if_pos c10, if_pos c11] using kq
                      · skip
                        refine rr_aload_n 0 rfl rfl dX5_isWord_49 ?_
                        refine rr_getR dX5_isWord_50 fX5_9 lo_13 sh_13 rfl ?_
                        refine rr_aload_n 0 rfl rfl dX5_isWord_53 ?_
                        refine rr_getI dX5_isWord_54 fX5_34 lo_13 sh_13 rfl ?_
                        refine rr_iload_n 2 rfl rfl dX5_isWord_57 ?_
                        refine rr_iadd dX5_isWord_58 ?_
                        refine rr_baload dX5_isWord_59 lo_14 sh_14 (rd_at (k := 4) rfl (by decide) ho (by assumption)) ?_
                        refine rr_aload_n 1 rfl rfl dX5_isWord_60 ?_
                        refine rr_iload_n 2 rfl rfl dX5_isWord_61 ?_
                        refine rr_callT (As := [.int 4]) (rest := [.int ((h 14) ((((h 13) 6) + 4) : Int32).toNatClampNeg)]) (kc2 := 0) (ks2 := 0) dX5_isWord_62 okJ_charAt lX5_49 (i9 := 12) rfl rfl rfl (Nat.le_of_ble_eq_true rfl) (Nat.le_of_ble_eq_true rfl) rfl (by omega) (by simp [jj_rk]) (by simp [jj_rk]) ?_
                        refine sp_ch_12_4  ?_
                        show jj_R _ _ kc ks (jj_S, 782, h, g) 65 [(0, .ref 13), (1, .ref (1000000 + 12)), (2, .int 4)] [.int 116, .int ((h 14) ((((h 13) 6) + 4) : Int32).toNatClampNeg)] Q
                        refine rr_icmp_eq dX5_isWord_65 (fun c12 => ?_) (fun c12 => ?_)
                        · skip
                          refine rr_iinc 2 1 [(0, .ref 13), (1, .ref (1000000 + 12)), (2, .int 5)] dX5_isWord_70 rfl rfl (by decide) rfl ?_
                          refine rr_goto dX5_isWord_73 ?_
                          refine rr_iload_n 2 rfl rfl dX5_isWord_28 ?_
                          refine rr_aload_n 1 rfl rfl dX5_isWord_29 ?_
                          refine rr_callT (As := []) (rest := [.int 5]) (kc2 := 0) (ks2 := 0) dX5_isWord_30 okJ_length lX5_44 (i9 := 12) rfl rfl rfl (Nat.le_of_ble_eq_true rfl) (Nat.le_of_ble_eq_true rfl) rfl (by omega) (by simp [jj_rk]) (by simp [jj_rk]) ?_
                          refine sp_len_12  ?_
                          show jj_R _ _ kc ks (jj_S, 782, h, g) 33 [(0, .ref 13), (1, .ref (1000000 + 12)), (2, .int 5)] [.int 5, .int 5] Q
                          refine rr_icmp_ge dX5_isWord_33 (fun _ => ?_) (fun c => absurd (by decide) c)
                          refine rr_iconst 1 rfl dX5_isWord_76 ?_
                          refine rr_nreturn dX5_isWord_77 rfl (by first | rfl | assumption) ?_
                          simpa only [vX5_isWord_12, if_pos c1, if_pos c2, if_neg c3, if_pos c4, if_neg c5, if_pos c6, if_neg c7, if_pos c8, if_neg c9, if_pos c10, if_neg c11, if_pos c12] using kq
                        · skip
                          refine rr_iconst 0 rfl dX5_isWord_68 ?_
                          refine rr_nreturn dX5_isWord_69 rfl (by first | rfl | assumption) ?_
                          simpa only [vX5_isWord_12, if_pos c1, if_pos c2, if_neg c3, if_pos c4, if_neg c5, if_pos c6, if_neg c7, if_pos c8, if_neg c9, if_pos c10, if_neg c11, if_neg c12] using kq
                    · skip
                      refine rr_iconst 0 rfl dX5_isWord_68 ?_
                      refine rr_nreturn dX5_isWord_69 rfl (by first | rfl | assumption) ?_
                      simpa only [vX5_isWord_12, if_pos c1, if_pos c2, if_neg c3, if_pos c4, if_neg c5, if_pos c6, if_neg c7, if_pos c8, if_neg c9, if_neg c10] using kq
                · skip
                  refine rr_iconst 0 rfl dX5_isWord_68 ?_
                  refine rr_nreturn dX5_isWord_69 rfl (by first | rfl | assumption) ?_
                  simpa only [vX5_isWord_12, if_pos c1, if_pos c2, if_neg c3, if_pos c4, if_neg c5, if_pos c6, if_neg c7, if_neg c8] using kq
            · skip
              refine rr_iconst 0 rfl dX5_isWord_68 ?_
              refine rr_nreturn dX5_isWord_69 rfl (by first | rfl | assumption) ?_
              simpa only [vX5_isWord_12, if_pos c1, if_pos c2, if_neg c3, if_pos c4, if_neg c5, if_neg c6] using kq
        · skip
          refine rr_iconst 0 rfl dX5_isWord_68 ?_
          refine rr_nreturn dX5_isWord_69 rfl (by first | rfl | assumption) ?_
          simpa only [vX5_isWord_12, if_pos c1, if_pos c2, if_neg c3, if_neg c4] using kq
    · skip
      refine rr_iconst 0 rfl dX5_isWord_24 ?_
      refine rr_nreturn dX5_isWord_25 rfl (by first | rfl | assumption) ?_
      simpa only [vX5_isWord_12, if_pos c1, if_neg c2] using kq
def vX5_isWord_13 (r13 : Nat → Int32) (r14 : Nat → Int32) : Int32 := (if (r13 4) = 2 then (if ((r13 3) - (r13 6)) = 4 then (if (r13 2) ≤ ((r13 6) + 0) then 1 else (if (r14 (((r13 6) + 0) : Int32).toNatClampNeg) = 109 then (if (r13 2) ≤ ((r13 6) + 1) then 1 else (if (r14 (((r13 6) + 1) : Int32).toNatClampNeg) = 111 then (if (r13 2) ≤ ((r13 6) + 2) then 1 else (if (r14 (((r13 6) + 2) : Int32).toNatClampNeg) = 115 then (if (r13 2) ≤ ((r13 6) + 3) then 1 else (if (r14 (((r13 6) + 3) : Int32).toNatClampNeg) = 116 then 1 else 0)) else 0)) else 0)) else 0)) else 0) else 0)
set_option maxHeartbeats 1000000 in
theorem sp_X5_isWord_13 {d kc ks : Nat} {h : Nat → Nat → Int32} {g : Nat → Nat → Int64} {Q : jj_Rs → jj_St → Prop}  (ho : rdat (h 13)) (kq : Q (.inl (some (.int (vX5_isWord_13 (h 13) (h 14))))) (jj_S, 782, h, g)) : jj_R mX5_isWord (d + 4) kc ks (jj_S, 782, h, g) 0 [(0, .ref 13), (1, .ref (1000000 + 13))] [] Q := by
  refine rr_aload_n 0 rfl rfl dX5_isWord_0 ?_
  refine rr_getI dX5_isWord_1 fX5_37 lo_13 sh_13 rfl ?_
  refine rr_iconst 2 rfl dX5_isWord_4 ?_
  refine rr_icmp_ne dX5_isWord_5 (fun c1 => ?_) (fun c1 => ?_)
  · skip
    refine rr_iconst 0 rfl dX5_isWord_24 ?_
    refine rr_nreturn dX5_isWord_25 rfl (by first | rfl | assumption) ?_
    simpa only [vX5_isWord_13, if_neg c1] using kq
  · skip
    refine rr_aload_n 0 rfl rfl dX5_isWord_8 ?_
    refine rr_getI dX5_isWord_9 fX5_25 lo_13 sh_13 rfl ?_
    refine rr_aload_n 0 rfl rfl dX5_isWord_12 ?_
    refine rr_getI dX5_isWord_13 fX5_34 lo_13 sh_13 rfl ?_
    refine rr_isub dX5_isWord_16 ?_
    refine rr_aload_n 1 rfl rfl dX5_isWord_17 ?_
    refine rr_callT (As := []) (rest := [.int (((h 13) 3) - ((h 13) 6))]) (kc2 := 0) (ks2 := 0) dX5_isWord_18 okJ_length lX5_44 (i9 := 13) rfl rfl rfl (Nat.le_of_ble_eq_true rfl) (Nat.le_of_ble_eq_true rfl) rfl (by omega) (by simp [jj_rk]) (by simp [jj_rk]) ?_
    refine sp_len_13  ?_
    show jj_R _ _ kc ks (jj_S, 782, h, g) 21 [(0, .ref 13), (1, .ref (1000000 + 13))] [.int 4, .int (((h 13) 3) - ((h 13) 6))] Q
    refine rr_icmp_eq dX5_isWord_21 (fun c2 => ?_) (fun c2 => ?_)
    · skip
      refine rr_iconst 0 rfl dX5_isWord_26 ?_
      refine rr_istore_n [(0, .ref 13), (1, .ref (1000000 + 13)), (2, .int 0)] dX5_isWord_27 rfl (by decide) rfl ?_
      refine rr_iload_n 2 rfl rfl dX5_isWord_28 ?_
      refine rr_aload_n 1 rfl rfl dX5_isWord_29 ?_
      refine rr_callT (As := []) (rest := [.int 0]) (kc2 := 0) (ks2 := 0) dX5_isWord_30 okJ_length lX5_44 (i9 := 13) rfl rfl rfl (Nat.le_of_ble_eq_true rfl) (Nat.le_of_ble_eq_true rfl) rfl (by omega) (by simp [jj_rk]) (by simp [jj_rk]) ?_
      refine sp_len_13  ?_
      show jj_R _ _ kc ks (jj_S, 782, h, g) 33 [(0, .ref 13), (1, .ref (1000000 + 13)), (2, .int 0)] [.int 4, .int 0] Q
      refine rr_icmp_ge dX5_isWord_33 (fun c => absurd c (by decide)) (fun _ => ?_)
      refine rr_aload_n 0 rfl rfl dX5_isWord_36 ?_
      refine rr_getI dX5_isWord_37 fX5_34 lo_13 sh_13 rfl ?_
      refine rr_iload_n 2 rfl rfl dX5_isWord_40 ?_
      refine rr_iadd dX5_isWord_41 ?_
      refine rr_aload_n 0 rfl rfl dX5_isWord_42 ?_
      refine rr_getI dX5_isWord_43 fX5_22 lo_13 sh_13 rfl ?_
      refine rr_icmp_ge dX5_isWord_46 (fun c3 => ?_) (fun c3 => ?_)
      · skip
        refine rr_iconst 1 rfl dX5_isWord_76 ?_
        refine rr_nreturn dX5_isWord_77 rfl (by first | rfl | assumption) ?_
        simpa only [vX5_isWord_13, if_pos c1, if_pos c2, if_pos c3] using kq
      · skip
        refine rr_aload_n 0 rfl rfl dX5_isWord_49 ?_
        refine rr_getR dX5_isWord_50 fX5_9 lo_13 sh_13 rfl ?_
        refine rr_aload_n 0 rfl rfl dX5_isWord_53 ?_
        refine rr_getI dX5_isWord_54 fX5_34 lo_13 sh_13 rfl ?_
        refine rr_iload_n 2 rfl rfl dX5_isWord_57 ?_
        refine rr_iadd dX5_isWord_58 ?_
        refine rr_baload dX5_isWord_59 lo_14 sh_14 (rd_at (k := 0) rfl (by decide) ho (by assumption)) ?_
        refine rr_aload_n 1 rfl rfl dX5_isWord_60 ?_
        refine rr_iload_n 2 rfl rfl dX5_isWord_61 ?_
        refine rr_callT (As := [.int 0]) (rest := [.int ((h 14) ((((h 13) 6) + 0) : Int32).toNatClampNeg)]) (kc2 := 0) (ks2 := 0) dX5_isWord_62 okJ_charAt lX5_49 (i9 := 13) rfl rfl rfl (Nat.le_of_ble_eq_true rfl) (Nat.le_of_ble_eq_true rfl) rfl (by omega) (by simp [jj_rk]) (by simp [jj_rk]) ?_
        refine sp_ch_13_0  ?_
        show jj_R _ _ kc ks (jj_S, 782, h, g) 65 [(0, .ref 13), (1, .ref (1000000 + 13)), (2, .int 0)] [.int 109, .int ((h 14) ((((h 13) 6) + 0) : Int32).toNatClampNeg)] Q
        refine rr_icmp_eq dX5_isWord_65 (fun c4 => ?_) (fun c4 => ?_)
        · skip
          refine rr_iinc 2 1 [(0, .ref 13), (1, .ref (1000000 + 13)), (2, .int 1)] dX5_isWord_70 rfl rfl (by decide) rfl ?_
          refine rr_goto dX5_isWord_73 ?_
          refine rr_iload_n 2 rfl rfl dX5_isWord_28 ?_
          refine rr_aload_n 1 rfl rfl dX5_isWord_29 ?_
          refine rr_callT (As := []) (rest := [.int 1]) (kc2 := 0) (ks2 := 0) dX5_isWord_30 okJ_length lX5_44 (i9 := 13) rfl rfl rfl (Nat.le_of_ble_eq_true rfl) (Nat.le_of_ble_eq_true rfl) rfl (by omega) (by simp [jj_rk]) (by simp [jj_rk]) ?_
          refine sp_len_13  ?_
          show jj_R _ _ kc ks (jj_S, 782, h, g) 33 [(0, .ref 13), (1, .ref (1000000 + 13)), (2, .int 1)] [.int 4, .int 1] Q
          refine rr_icmp_ge dX5_isWord_33 (fun c => absurd c (by decide)) (fun _ => ?_)
          refine rr_aload_n 0 rfl rfl dX5_isWord_36 ?_
          refine rr_getI dX5_isWord_37 fX5_34 lo_13 sh_13 rfl ?_
          refine rr_iload_n 2 rfl rfl dX5_isWord_40 ?_
          refine rr_iadd dX5_isWord_41 ?_
          refine rr_aload_n 0 rfl rfl dX5_isWord_42 ?_
          refine rr_getI dX5_isWord_43 fX5_22 lo_13 sh_13 rfl ?_
          refine rr_icmp_ge dX5_isWord_46 (fun c5 => ?_) (fun c5 => ?_)
          · skip
            refine rr_iconst 1 rfl dX5_isWord_76 ?_
            refine rr_nreturn dX5_isWord_77 rfl (by first | rfl | assumption) ?_
            simpa only [vX5_isWord_13, if_pos c1, if_pos c2, if_neg c3, if_pos c4, if_pos c5] using kq
          · skip
            refine rr_aload_n 0 rfl rfl dX5_isWord_49 ?_
            refine rr_getR dX5_isWord_50 fX5_9 lo_13 sh_13 rfl ?_
            refine rr_aload_n 0 rfl rfl dX5_isWord_53 ?_
            refine rr_getI dX5_isWord_54 fX5_34 lo_13 sh_13 rfl ?_
            refine rr_iload_n 2 rfl rfl dX5_isWord_57 ?_
            refine rr_iadd dX5_isWord_58 ?_
            refine rr_baload dX5_isWord_59 lo_14 sh_14 (rd_at (k := 1) rfl (by decide) ho (by assumption)) ?_
            refine rr_aload_n 1 rfl rfl dX5_isWord_60 ?_
            refine rr_iload_n 2 rfl rfl dX5_isWord_61 ?_
            refine rr_callT (As := [.int 1]) (rest := [.int ((h 14) ((((h 13) 6) + 1) : Int32).toNatClampNeg)]) (kc2 := 0) (ks2 := 0) dX5_isWord_62 okJ_charAt lX5_49 (i9 := 13) rfl rfl rfl (Nat.le_of_ble_eq_true rfl) (Nat.le_of_ble_eq_true rfl) rfl (by omega) (by simp [jj_rk]) (by simp [jj_rk]) ?_
            refine sp_ch_13_1  ?_
            show jj_R _ _ kc ks (jj_S, 782, h, g) 65 [(0, .ref 13), (1, .ref (1000000 + 13)), (2, .int 1)] [.int 111, .int ((h 14) ((((h 13) 6) + 1) : Int32).toNatClampNeg)] Q
            refine rr_icmp_eq dX5_isWord_65 (fun c6 => ?_) (fun c6 => ?_)
            · skip
              refine rr_iinc 2 1 [(0, .ref 13), (1, .ref (1000000 + 13)), (2, .int 2)] dX5_isWord_70 rfl rfl (by decide) rfl ?_
              refine rr_goto dX5_isWord_73 ?_
              refine rr_iload_n 2 rfl rfl dX5_isWord_28 ?_
              refine rr_aload_n 1 rfl rfl dX5_isWord_29 ?_
              refine rr_callT (As := []) (rest := [.int 2]) (kc2 := 0) (ks2 := 0) dX5_isWord_30 okJ_length lX5_44 (i9 := 13) rfl rfl rfl (Nat.le_of_ble_eq_true rfl) (Nat.le_of_ble_eq_true rfl) rfl (by omega) (by simp [jj_rk]) (by simp [jj_rk]) ?_
              refine sp_len_13  ?_
              show jj_R _ _ kc ks (jj_S, 782, h, g) 33 [(0, .ref 13), (1, .ref (1000000 + 13)), (2, .int 2)] [.int 4, .int 2] Q
              refine rr_icmp_ge dX5_isWord_33 (fun c => absurd c (by decide)) (fun _ => ?_)
              refine rr_aload_n 0 rfl rfl dX5_isWord_36 ?_
              refine rr_getI dX5_isWord_37 fX5_34 lo_13 sh_13 rfl ?_
              refine rr_iload_n 2 rfl rfl dX5_isWord_40 ?_
              refine rr_iadd dX5_isWord_41 ?_
              refine rr_aload_n 0 rfl rfl dX5_isWord_42 ?_
              refine rr_getI dX5_isWord_43 fX5_22 lo_13 sh_13 rfl ?_
              refine rr_icmp_ge dX5_isWord_46 (fun c7 => ?_) (fun c7 => ?_)
              · skip
                refine rr_iconst 1 rfl dX5_isWord_76 ?_
                refine rr_nreturn dX5_isWord_77 rfl (by first | rfl | assumption) ?_
                simpa only [vX5_isWord_13, if_pos c1, if_pos c2, if_neg c3, if_pos c4, if_neg c5, if_pos c6, if_pos c7] using kq
              · skip
                refine rr_aload_n 0 rfl rfl dX5_isWord_49 ?_
                refine rr_getR dX5_isWord_50 fX5_9 lo_13 sh_13 rfl ?_
                refine rr_aload_n 0 rfl rfl dX5_isWord_53 ?_
                refine rr_getI dX5_isWord_54 fX5_34 lo_13 sh_13 rfl ?_
                refine rr_iload_n 2 rfl rfl dX5_isWord_57 ?_
                refine rr_iadd dX5_isWord_58 ?_
                refine rr_baload dX5_isWord_59 lo_14 sh_14 (rd_at (k := 2) rfl (by decide) ho (by assumption)) ?_
                refine rr_aload_n 1 rfl rfl dX5_isWord_60 ?_
                refine rr_iload_n 2 rfl rfl dX5_isWord_61 ?_
                refine rr_callT (As := [.int 2]) (rest := [.int ((h 14) ((((h 13) 6) + 2) : Int32).toNatClampNeg)]) (kc2 := 0) (ks2 := 0) dX5_isWord_62 okJ_charAt lX5_49 (i9 := 13) rfl rfl rfl (Nat.le_of_ble_eq_true rfl) (Nat.le_of_ble_eq_true rfl) rfl (by omega) (by simp [jj_rk]) (by simp [jj_rk]) ?_
                refine sp_ch_13_2  ?_
                show jj_R _ _ kc ks (jj_S, 782, h, g) 65 [(0, .ref 13), (1, .ref (1000000 + 13)), (2, .int 2)] [.int 115, .int ((h 14) ((((h 13) 6) + 2) : Int32).toNatClampNeg)] Q
                refine rr_icmp_eq dX5_isWord_65 (fun c8 => ?_) (fun c8 => ?_)
                · skip
                  refine rr_iinc 2 1 [(0, .ref 13), (1, .ref (1000000 + 13)), (2, .int 3)] dX5_isWord_70 rfl rfl (by decide) rfl ?_
                  refine rr_goto dX5_isWord_73 ?_
                  refine rr_iload_n 2 rfl rfl dX5_isWord_28 ?_
                  refine rr_aload_n 1 rfl rfl dX5_isWord_29 ?_
                  refine rr_callT (As := []) (rest := [.int 3]) (kc2 := 0) (ks2 := 0) dX5_isWord_30 okJ_length lX5_44 (i9 := 13) rfl rfl rfl (Nat.le_of_ble_eq_true rfl) (Nat.le_of_ble_eq_true rfl) rfl (by omega) (by simp [jj_rk]) (by simp [jj_rk]) ?_
                  refine sp_len_13  ?_
                  show jj_R _ _ kc ks (jj_S, 782, h, g) 33 [(0, .ref 13), (1, .ref (1000000 + 13)), (2, .int 3)] [.int 4, .int 3] Q
                  refine rr_icmp_ge dX5_isWord_33 (fun c => absurd c (by decide)) (fun _ => ?_)
                  refine rr_aload_n 0 rfl rfl dX5_isWord_36 ?_
                  refine rr_getI dX5_isWord_37 fX5_34 lo_13 sh_13 rfl ?_
                  refine rr_iload_n 2 rfl rfl dX5_isWord_40 ?_
                  refine rr_iadd dX5_isWord_41 ?_
                  refine rr_aload_n 0 rfl rfl dX5_isWord_42 ?_
                  refine rr_getI dX5_isWord_43 fX5_22 lo_13 sh_13 rfl ?_
                  refine rr_icmp_ge dX5_isWord_46 (fun c9 => ?_) (fun c9 => ?_)
                  · skip
                    refine rr_iconst 1 rfl dX5_isWord_76 ?_
                    refine rr_nreturn dX5_isWord_77 rfl (by first | rfl | assumption) ?_
                    simpa only [vX5_isWord_13, if_pos c1, if_pos c2, if_neg c3, if_pos c4, if_neg c5, if_pos c6, if_neg c7, if_pos c8, if_pos c9] using kq
                  · skip
                    refine rr_aload_n 0 rfl rfl dX5_isWord_49 ?_
                    refine rr_getR dX5_isWord_50 fX5_9 lo_13 sh_13 rfl ?_
                    refine rr_aload_n 0 rfl rfl dX5_isWord_53 ?_
                    refine rr_getI dX5_isWord_54 fX5_34 lo_13 sh_13 rfl ?_
                    refine rr_iload_n 2 rfl rfl dX5_isWord_57 ?_
                    refine rr_iadd dX5_isWord_58 ?_
                    refine rr_baload dX5_isWord_59 lo_14 sh_14 (rd_at (k := 3) rfl (by decide) ho (by assumption)) ?_
                    refine rr_aload_n 1 rfl rfl dX5_isWord_60 ?_
                    refine rr_iload_n 2 rfl rfl dX5_isWord_61 ?_
                    refine rr_callT (As := [.int 3]) (rest := [.int ((h 14) ((((h 13) 6) + 3) : Int32).toNatClampNeg)]) (kc2 := 0) (ks2 := 0) dX5_isWord_62 okJ_charAt lX5_49 (i9 := 13) rfl rfl rfl (Nat.le_of_ble_eq_true rfl) (Nat.le_of_ble_eq_true rfl) rfl (by omega) (by simp [jj_rk]) (by simp [jj_rk]) ?_
                    refine sp_ch_13_3  ?_
                    show jj_R _ _ kc ks (jj_S, 782, h, g) 65 [(0, .ref 13), (1, .ref (1000000 + 13)), (2, .int 3)] [.int 116, .int ((h 14) ((((h 13) 6) + 3) : Int32).toNatClampNeg)] Q
                    refine rr_icmp_eq dX5_isWord_65 (fun c10 => ?_) (fun c10 => ?_)
                    · skip
                      refine rr_iinc 2 1 [(0, .ref 13), (1, .ref (1000000 + 13)), (2, .int 4)] dX5_isWord_70 rfl rfl (by decide) rfl ?_
                      refine rr_goto dX5_isWord_73 ?_
                      refine rr_iload_n 2 rfl rfl dX5_isWord_28 ?_
                      refine rr_aload_n 1 rfl rfl dX5_isWord_29 ?_
                      refine rr_callT (As := []) (rest := [.int 4]) (kc2 := 0) (ks2 := 0) dX5_isWord_30 okJ_length lX5_44 (i9 := 13) rfl rfl rfl (Nat.le_of_ble_eq_true rfl) (Nat.le_of_ble_eq_true rfl) rfl (by omega) (by simp [jj_rk]) (by simp [jj_rk]) ?_
                      refine sp_len_13  ?_
                      show jj_R _ _ kc ks (jj_S, 782, h, g) 33 [(0, .ref 13), (1, .ref (1000000 + 13)), (2, .int 4)] [.int 4, .int 4] Q
                      refine rr_icmp_ge dX5_isWord_33 (fun _ => ?_) (fun c => absurd (by decide) c)
                      refine rr_iconst 1 rfl dX5_isWord_76 ?_
                      refine rr_nreturn dX5_isWord_77 rfl (by first | rfl | assumption) ?_
                      simpa only [vX5_isWord_13, if_pos c1, if_pos c2, if_neg c3, if_pos c4, if_neg c5, if_pos c6, if_neg c7, if_pos c8, if_neg c9, if_pos c10] using kq
                    · skip
                      refine rr_iconst 0 rfl dX5_isWord_68 ?_
                      refine rr_nreturn dX5_isWord_69 rfl (by first | rfl | assumption) ?_
                      simpa only [vX5_isWord_13, if_pos c1, if_pos c2, if_neg c3, if_pos c4, if_neg c5, if_pos c6, if_neg c7, if_pos c8, if_neg c9, if_neg c10] using kq
                · skip
                  refine rr_iconst 0 rfl dX5_isWord_68 ?_
                  refine rr_nreturn dX5_isWord_69 rfl (by first | rfl | assumption) ?_
                  simpa only [vX5_isWord_13, if_pos c1, if_pos c2, if_neg c3, if_pos c4, if_neg c5, if_pos c6, if_neg c7, if_neg c8] using kq
            · skip
              refine rr_iconst 0 rfl dX5_isWord_68 ?_
              refine rr_nreturn dX5_isWord_69 rfl (by first | rfl | assumption) ?_
              simpa only [vX5_isWord_13, if_pos c1, if_pos c2, if_neg c3, if_pos c4, if_neg c5, if_neg c6] using kq
        · skip
          refine rr_iconst 0 rfl dX5_isWord_68 ?_
          refine rr_nreturn dX5_isWord_69 rfl (by first | rfl | assumption) ?_
          simpa only [vX5_isWord_13, if_pos c1, if_pos c2, if_neg c3, if_neg c4] using kq
    · skip
      refine rr_iconst 0 rfl dX5_isWord_24 ?_
      refine rr_nreturn dX5_isWord_25 rfl (by first | rfl | assumption) ?_
      simpa only [vX5_isWord_13, if_pos c1, if_neg c2] using kq
def vX5_isWord_14 (r13 : Nat → Int32) (r14 : Nat → Int32) : Int32 := (if (r13 4) = 2 then (if ((r13 3) - (r13 6)) = 3 then (if (r13 2) ≤ ((r13 6) + 0) then 1 else (if (r14 (((r13 6) + 0) : Int32).toNatClampNeg) = 116 then (if (r13 2) ≤ ((r13 6) + 1) then 1 else (if (r14 (((r13 6) + 1) : Int32).toNatClampNeg) = 105 then (if (r13 2) ≤ ((r13 6) + 2) then 1 else (if (r14 (((r13 6) + 2) : Int32).toNatClampNeg) = 101 then 1 else 0)) else 0)) else 0)) else 0) else 0)
set_option maxHeartbeats 1000000 in
theorem sp_X5_isWord_14 {d kc ks : Nat} {h : Nat → Nat → Int32} {g : Nat → Nat → Int64} {Q : jj_Rs → jj_St → Prop}  (ho : rdat (h 13)) (kq : Q (.inl (some (.int (vX5_isWord_14 (h 13) (h 14))))) (jj_S, 782, h, g)) : jj_R mX5_isWord (d + 4) kc ks (jj_S, 782, h, g) 0 [(0, .ref 13), (1, .ref (1000000 + 14))] [] Q := by
  refine rr_aload_n 0 rfl rfl dX5_isWord_0 ?_
  refine rr_getI dX5_isWord_1 fX5_37 lo_13 sh_13 rfl ?_
  refine rr_iconst 2 rfl dX5_isWord_4 ?_
  refine rr_icmp_ne dX5_isWord_5 (fun c1 => ?_) (fun c1 => ?_)
  · skip
    refine rr_iconst 0 rfl dX5_isWord_24 ?_
    refine rr_nreturn dX5_isWord_25 rfl (by first | rfl | assumption) ?_
    simpa only [vX5_isWord_14, if_neg c1] using kq
  · skip
    refine rr_aload_n 0 rfl rfl dX5_isWord_8 ?_
    refine rr_getI dX5_isWord_9 fX5_25 lo_13 sh_13 rfl ?_
    refine rr_aload_n 0 rfl rfl dX5_isWord_12 ?_
    refine rr_getI dX5_isWord_13 fX5_34 lo_13 sh_13 rfl ?_
    refine rr_isub dX5_isWord_16 ?_
    refine rr_aload_n 1 rfl rfl dX5_isWord_17 ?_
    refine rr_callT (As := []) (rest := [.int (((h 13) 3) - ((h 13) 6))]) (kc2 := 0) (ks2 := 0) dX5_isWord_18 okJ_length lX5_44 (i9 := 14) rfl rfl rfl (Nat.le_of_ble_eq_true rfl) (Nat.le_of_ble_eq_true rfl) rfl (by omega) (by simp [jj_rk]) (by simp [jj_rk]) ?_
    refine sp_len_14  ?_
    show jj_R _ _ kc ks (jj_S, 782, h, g) 21 [(0, .ref 13), (1, .ref (1000000 + 14))] [.int 3, .int (((h 13) 3) - ((h 13) 6))] Q
    refine rr_icmp_eq dX5_isWord_21 (fun c2 => ?_) (fun c2 => ?_)
    · skip
      refine rr_iconst 0 rfl dX5_isWord_26 ?_
      refine rr_istore_n [(0, .ref 13), (1, .ref (1000000 + 14)), (2, .int 0)] dX5_isWord_27 rfl (by decide) rfl ?_
      refine rr_iload_n 2 rfl rfl dX5_isWord_28 ?_
      refine rr_aload_n 1 rfl rfl dX5_isWord_29 ?_
      refine rr_callT (As := []) (rest := [.int 0]) (kc2 := 0) (ks2 := 0) dX5_isWord_30 okJ_length lX5_44 (i9 := 14) rfl rfl rfl (Nat.le_of_ble_eq_true rfl) (Nat.le_of_ble_eq_true rfl) rfl (by omega) (by simp [jj_rk]) (by simp [jj_rk]) ?_
      refine sp_len_14  ?_
      show jj_R _ _ kc ks (jj_S, 782, h, g) 33 [(0, .ref 13), (1, .ref (1000000 + 14)), (2, .int 0)] [.int 3, .int 0] Q
      refine rr_icmp_ge dX5_isWord_33 (fun c => absurd c (by decide)) (fun _ => ?_)
      refine rr_aload_n 0 rfl rfl dX5_isWord_36 ?_
      refine rr_getI dX5_isWord_37 fX5_34 lo_13 sh_13 rfl ?_
      refine rr_iload_n 2 rfl rfl dX5_isWord_40 ?_
      refine rr_iadd dX5_isWord_41 ?_
      refine rr_aload_n 0 rfl rfl dX5_isWord_42 ?_
      refine rr_getI dX5_isWord_43 fX5_22 lo_13 sh_13 rfl ?_
      refine rr_icmp_ge dX5_isWord_46 (fun c3 => ?_) (fun c3 => ?_)
      · skip
        refine rr_iconst 1 rfl dX5_isWord_76 ?_
        refine rr_nreturn dX5_isWord_77 rfl (by first | rfl | assumption) ?_
        simpa only [vX5_isWord_14, if_pos c1, if_pos c2, if_pos c3] using kq
      · skip
        refine rr_aload_n 0 rfl rfl dX5_isWord_49 ?_
        refine rr_getR dX5_isWord_50 fX5_9 lo_13 sh_13 rfl ?_
        refine rr_aload_n 0 rfl rfl dX5_isWord_53 ?_
        refine rr_getI dX5_isWord_54 fX5_34 lo_13 sh_13 rfl ?_
        refine rr_iload_n 2 rfl rfl dX5_isWord_57 ?_
        refine rr_iadd dX5_isWord_58 ?_
        refine rr_baload dX5_isWord_59 lo_14 sh_14 (rd_at (k := 0) rfl (by decide) ho (by assumption)) ?_
        refine rr_aload_n 1 rfl rfl dX5_isWord_60 ?_
        refine rr_iload_n 2 rfl rfl dX5_isWord_61 ?_
        refine rr_callT (As := [.int 0]) (rest := [.int ((h 14) ((((h 13) 6) + 0) : Int32).toNatClampNeg)]) (kc2 := 0) (ks2 := 0) dX5_isWord_62 okJ_charAt lX5_49 (i9 := 14) rfl rfl rfl (Nat.le_of_ble_eq_true rfl) (Nat.le_of_ble_eq_true rfl) rfl (by omega) (by simp [jj_rk]) (by simp [jj_rk]) ?_
        refine sp_ch_14_0  ?_
        show jj_R _ _ kc ks (jj_S, 782, h, g) 65 [(0, .ref 13), (1, .ref (1000000 + 14)), (2, .int 0)] [.int 116, .int ((h 14) ((((h 13) 6) + 0) : Int32).toNatClampNeg)] Q
        refine rr_icmp_eq dX5_isWord_65 (fun c4 => ?_) (fun c4 => ?_)
        · skip
          refine rr_iinc 2 1 [(0, .ref 13), (1, .ref (1000000 + 14)), (2, .int 1)] dX5_isWord_70 rfl rfl (by decide) rfl ?_
          refine rr_goto dX5_isWord_73 ?_
          refine rr_iload_n 2 rfl rfl dX5_isWord_28 ?_
          refine rr_aload_n 1 rfl rfl dX5_isWord_29 ?_
          refine rr_callT (As := []) (rest := [.int 1]) (kc2 := 0) (ks2 := 0) dX5_isWord_30 okJ_length lX5_44 (i9 := 14) rfl rfl rfl (Nat.le_of_ble_eq_true rfl) (Nat.le_of_ble_eq_true rfl) rfl (by omega) (by simp [jj_rk]) (by simp [jj_rk]) ?_
          refine sp_len_14  ?_
          show jj_R _ _ kc ks (jj_S, 782, h, g) 33 [(0, .ref 13), (1, .ref (1000000 + 14)), (2, .int 1)] [.int 3, .int 1] Q
          refine rr_icmp_ge dX5_isWord_33 (fun c => absurd c (by decide)) (fun _ => ?_)
          refine rr_aload_n 0 rfl rfl dX5_isWord_36 ?_
          refine rr_getI dX5_isWord_37 fX5_34 lo_13 sh_13 rfl ?_
          refine rr_iload_n 2 rfl rfl dX5_isWord_40 ?_
          refine rr_iadd dX5_isWord_41 ?_
          refine rr_aload_n 0 rfl rfl dX5_isWord_42 ?_
          refine rr_getI dX5_isWord_43 fX5_22 lo_13 sh_13 rfl ?_
          refine rr_icmp_ge dX5_isWord_46 (fun c5 => ?_) (fun c5 => ?_)
          · skip
            refine rr_iconst 1 rfl dX5_isWord_76 ?_
            refine rr_nreturn dX5_isWord_77 rfl (by first | rfl | assumption) ?_
            simpa only [vX5_isWord_14, if_pos c1, if_pos c2, if_neg c3, if_pos c4, if_pos c5] using kq
          · skip
            refine rr_aload_n 0 rfl rfl dX5_isWord_49 ?_
            refine rr_getR dX5_isWord_50 fX5_9 lo_13 sh_13 rfl ?_
            refine rr_aload_n 0 rfl rfl dX5_isWord_53 ?_
            refine rr_getI dX5_isWord_54 fX5_34 lo_13 sh_13 rfl ?_
            refine rr_iload_n 2 rfl rfl dX5_isWord_57 ?_
            refine rr_iadd dX5_isWord_58 ?_
            refine rr_baload dX5_isWord_59 lo_14 sh_14 (rd_at (k := 1) rfl (by decide) ho (by assumption)) ?_
            refine rr_aload_n 1 rfl rfl dX5_isWord_60 ?_
            refine rr_iload_n 2 rfl rfl dX5_isWord_61 ?_
            refine rr_callT (As := [.int 1]) (rest := [.int ((h 14) ((((h 13) 6) + 1) : Int32).toNatClampNeg)]) (kc2 := 0) (ks2 := 0) dX5_isWord_62 okJ_charAt lX5_49 (i9 := 14) rfl rfl rfl (Nat.le_of_ble_eq_true rfl) (Nat.le_of_ble_eq_true rfl) rfl (by omega) (by simp [jj_rk]) (by simp [jj_rk]) ?_
            refine sp_ch_14_1  ?_
            show jj_R _ _ kc ks (jj_S, 782, h, g) 65 [(0, .ref 13), (1, .ref (1000000 + 14)), (2, .int 1)] [.int 105, .int ((h 14) ((((h 13) 6) + 1) : Int32).toNatClampNeg)] Q
            refine rr_icmp_eq dX5_isWord_65 (fun c6 => ?_) (fun c6 => ?_)
            · skip
              refine rr_iinc 2 1 [(0, .ref 13), (1, .ref (1000000 + 14)), (2, .int 2)] dX5_isWord_70 rfl rfl (by decide) rfl ?_
              refine rr_goto dX5_isWord_73 ?_
              refine rr_iload_n 2 rfl rfl dX5_isWord_28 ?_
              refine rr_aload_n 1 rfl rfl dX5_isWord_29 ?_
              refine rr_callT (As := []) (rest := [.int 2]) (kc2 := 0) (ks2 := 0) dX5_isWord_30 okJ_length lX5_44 (i9 := 14) rfl rfl rfl (Nat.le_of_ble_eq_true rfl) (Nat.le_of_ble_eq_true rfl) rfl (by omega) (by simp [jj_rk]) (by simp [jj_rk]) ?_
              refine sp_len_14  ?_
              show jj_R _ _ kc ks (jj_S, 782, h, g) 33 [(0, .ref 13), (1, .ref (1000000 + 14)), (2, .int 2)] [.int 3, .int 2] Q
              refine rr_icmp_ge dX5_isWord_33 (fun c => absurd c (by decide)) (fun _ => ?_)
              refine rr_aload_n 0 rfl rfl dX5_isWord_36 ?_
              refine rr_getI dX5_isWord_37 fX5_34 lo_13 sh_13 rfl ?_
              refine rr_iload_n 2 rfl rfl dX5_isWord_40 ?_
              refine rr_iadd dX5_isWord_41 ?_
              refine rr_aload_n 0 rfl rfl dX5_isWord_42 ?_
              refine rr_getI dX5_isWord_43 fX5_22 lo_13 sh_13 rfl ?_
              refine rr_icmp_ge dX5_isWord_46 (fun c7 => ?_) (fun c7 => ?_)
              · skip
                refine rr_iconst 1 rfl dX5_isWord_76 ?_
                refine rr_nreturn dX5_isWord_77 rfl (by first | rfl | assumption) ?_
                simpa only [vX5_isWord_14, if_pos c1, if_pos c2, if_neg c3, if_pos c4, if_neg c5, if_pos c6, if_pos c7] using kq
              · skip
                refine rr_aload_n 0 rfl rfl dX5_isWord_49 ?_
                refine rr_getR dX5_isWord_50 fX5_9 lo_13 sh_13 rfl ?_
                refine rr_aload_n 0 rfl rfl dX5_isWord_53 ?_
                refine rr_getI dX5_isWord_54 fX5_34 lo_13 sh_13 rfl ?_
                refine rr_iload_n 2 rfl rfl dX5_isWord_57 ?_
                refine rr_iadd dX5_isWord_58 ?_
                refine rr_baload dX5_isWord_59 lo_14 sh_14 (rd_at (k := 2) rfl (by decide) ho (by assumption)) ?_
                refine rr_aload_n 1 rfl rfl dX5_isWord_60 ?_
                refine rr_iload_n 2 rfl rfl dX5_isWord_61 ?_
                refine rr_callT (As := [.int 2]) (rest := [.int ((h 14) ((((h 13) 6) + 2) : Int32).toNatClampNeg)]) (kc2 := 0) (ks2 := 0) dX5_isWord_62 okJ_charAt lX5_49 (i9 := 14) rfl rfl rfl (Nat.le_of_ble_eq_true rfl) (Nat.le_of_ble_eq_true rfl) rfl (by omega) (by simp [jj_rk]) (by simp [jj_rk]) ?_
                refine sp_ch_14_2  ?_
                show jj_R _ _ kc ks (jj_S, 782, h, g) 65 [(0, .ref 13), (1, .ref (1000000 + 14)), (2, .int 2)] [.int 101, .int ((h 14) ((((h 13) 6) + 2) : Int32).toNatClampNeg)] Q
                refine rr_icmp_eq dX5_isWord_65 (fun c8 => ?_) (fun c8 => ?_)
                · skip
                  refine rr_iinc 2 1 [(0, .ref 13), (1, .ref (1000000 + 14)), (2, .int 3)] dX5_isWord_70 rfl rfl (by decide) rfl ?_
                  refine rr_goto dX5_isWord_73 ?_
                  refine rr_iload_n 2 rfl rfl dX5_isWord_28 ?_
                  refine rr_aload_n 1 rfl rfl dX5_isWord_29 ?_
                  refine rr_callT (As := []) (rest := [.int 3]) (kc2 := 0) (ks2 := 0) dX5_isWord_30 okJ_length lX5_44 (i9 := 14) rfl rfl rfl (Nat.le_of_ble_eq_true rfl) (Nat.le_of_ble_eq_true rfl) rfl (by omega) (by simp [jj_rk]) (by simp [jj_rk]) ?_
                  refine sp_len_14  ?_
                  show jj_R _ _ kc ks (jj_S, 782, h, g) 33 [(0, .ref 13), (1, .ref (1000000 + 14)), (2, .int 3)] [.int 3, .int 3] Q
                  refine rr_icmp_ge dX5_isWord_33 (fun _ => ?_) (fun c => absurd (by decide) c)
                  refine rr_iconst 1 rfl dX5_isWord_76 ?_
                  refine rr_nreturn dX5_isWord_77 rfl (by first | rfl | assumption) ?_
                  simpa only [vX5_isWord_14, if_pos c1, if_pos c2, if_neg c3, if_pos c4, if_neg c5, if_pos c6, if_neg c7, if_pos c8] using kq
                · skip
                  refine rr_iconst 0 rfl dX5_isWord_68 ?_
                  refine rr_nreturn dX5_isWord_69 rfl (by first | rfl | assumption) ?_
                  simpa only [vX5_isWord_14, if_pos c1, if_pos c2, if_neg c3, if_pos c4, if_neg c5, if_pos c6, if_neg c7, if_neg c8] using kq
            · skip
              refine rr_iconst 0 rfl dX5_isWord_68 ?_
              refine rr_nreturn dX5_isWord_69 rfl (by first | rfl | assumption) ?_
              simpa only [vX5_isWord_14, if_pos c1, if_pos c2, if_neg c3, if_pos c4, if_neg c5, if_neg c6] using kq
        · skip
          refine rr_iconst 0 rfl dX5_isWord_68 ?_
          refine rr_nreturn dX5_isWord_69 rfl (by first | rfl | assumption) ?_
          simpa only [vX5_isWord_14, if_pos c1, if_pos c2, if_neg c3, if_neg c4] using kq
    · skip
      refine rr_iconst 0 rfl dX5_isWord_24 ?_
      refine rr_nreturn dX5_isWord_25 rfl (by first | rfl | assumption) ?_
      simpa only [vX5_isWord_14, if_pos c1, if_neg c2] using kq
def vX5_isWord_15 (r13 : Nat → Int32) (r14 : Nat → Int32) : Int32 := (if (r13 4) = 2 then (if ((r13 3) - (r13 6)) = 6 then (if (r13 2) ≤ ((r13 6) + 0) then 1 else (if (r14 (((r13 6) + 0) : Int32).toNatClampNeg) = 100 then (if (r13 2) ≤ ((r13 6) + 1) then 1 else (if (r14 (((r13 6) + 1) : Int32).toNatClampNeg) = 111 then (if (r13 2) ≤ ((r13 6) + 2) then 1 else (if (r14 (((r13 6) + 2) : Int32).toNatClampNeg) = 117 then (if (r13 2) ≤ ((r13 6) + 3) then 1 else (if (r14 (((r13 6) + 3) : Int32).toNatClampNeg) = 98 then (if (r13 2) ≤ ((r13 6) + 4) then 1 else (if (r14 (((r13 6) + 4) : Int32).toNatClampNeg) = 108 then (if (r13 2) ≤ ((r13 6) + 5) then 1 else (if (r14 (((r13 6) + 5) : Int32).toNatClampNeg) = 101 then 1 else 0)) else 0)) else 0)) else 0)) else 0)) else 0)) else 0) else 0)
set_option maxHeartbeats 1000000 in
theorem sp_X5_isWord_15 {d kc ks : Nat} {h : Nat → Nat → Int32} {g : Nat → Nat → Int64} {Q : jj_Rs → jj_St → Prop}  (ho : rdat (h 13)) (kq : Q (.inl (some (.int (vX5_isWord_15 (h 13) (h 14))))) (jj_S, 782, h, g)) : jj_R mX5_isWord (d + 4) kc ks (jj_S, 782, h, g) 0 [(0, .ref 13), (1, .ref (1000000 + 15))] [] Q := by
  refine rr_aload_n 0 rfl rfl dX5_isWord_0 ?_
  refine rr_getI dX5_isWord_1 fX5_37 lo_13 sh_13 rfl ?_
  refine rr_iconst 2 rfl dX5_isWord_4 ?_
  refine rr_icmp_ne dX5_isWord_5 (fun c1 => ?_) (fun c1 => ?_)
  · skip
    refine rr_iconst 0 rfl dX5_isWord_24 ?_
    refine rr_nreturn dX5_isWord_25 rfl (by first | rfl | assumption) ?_
    simpa only [vX5_isWord_15, if_neg c1] using kq
  · skip
    refine rr_aload_n 0 rfl rfl dX5_isWord_8 ?_
    refine rr_getI dX5_isWord_9 fX5_25 lo_13 sh_13 rfl ?_
    refine rr_aload_n 0 rfl rfl dX5_isWord_12 ?_
    refine rr_getI dX5_isWord_13 fX5_34 lo_13 sh_13 rfl ?_
    refine rr_isub dX5_isWord_16 ?_
    refine rr_aload_n 1 rfl rfl dX5_isWord_17 ?_
    refine rr_callT (As := []) (rest := [.int (((h 13) 3) - ((h 13) 6))]) (kc2 := 0) (ks2 := 0) dX5_isWord_18 okJ_length lX5_44 (i9 := 15) rfl rfl rfl (Nat.le_of_ble_eq_true rfl) (Nat.le_of_ble_eq_true rfl) rfl (by omega) (by simp [jj_rk]) (by simp [jj_rk]) ?_
    refine sp_len_15  ?_
    show jj_R _ _ kc ks (jj_S, 782, h, g) 21 [(0, .ref 13), (1, .ref (1000000 + 15))] [.int 6, .int (((h 13) 3) - ((h 13) 6))] Q
    refine rr_icmp_eq dX5_isWord_21 (fun c2 => ?_) (fun c2 => ?_)
    · skip
      refine rr_iconst 0 rfl dX5_isWord_26 ?_
      refine rr_istore_n [(0, .ref 13), (1, .ref (1000000 + 15)), (2, .int 0)] dX5_isWord_27 rfl (by decide) rfl ?_
      refine rr_iload_n 2 rfl rfl dX5_isWord_28 ?_
      refine rr_aload_n 1 rfl rfl dX5_isWord_29 ?_
      refine rr_callT (As := []) (rest := [.int 0]) (kc2 := 0) (ks2 := 0) dX5_isWord_30 okJ_length lX5_44 (i9 := 15) rfl rfl rfl (Nat.le_of_ble_eq_true rfl) (Nat.le_of_ble_eq_true rfl) rfl (by omega) (by simp [jj_rk]) (by simp [jj_rk]) ?_
      refine sp_len_15  ?_
      show jj_R _ _ kc ks (jj_S, 782, h, g) 33 [(0, .ref 13), (1, .ref (1000000 + 15)), (2, .int 0)] [.int 6, .int 0] Q
      refine rr_icmp_ge dX5_isWord_33 (fun c => absurd c (by decide)) (fun _ => ?_)
      refine rr_aload_n 0 rfl rfl dX5_isWord_36 ?_
      refine rr_getI dX5_isWord_37 fX5_34 lo_13 sh_13 rfl ?_
      refine rr_iload_n 2 rfl rfl dX5_isWord_40 ?_
      refine rr_iadd dX5_isWord_41 ?_
      refine rr_aload_n 0 rfl rfl dX5_isWord_42 ?_
      refine rr_getI dX5_isWord_43 fX5_22 lo_13 sh_13 rfl ?_
      refine rr_icmp_ge dX5_isWord_46 (fun c3 => ?_) (fun c3 => ?_)
      · skip
        refine rr_iconst 1 rfl dX5_isWord_76 ?_
        refine rr_nreturn dX5_isWord_77 rfl (by first | rfl | assumption) ?_
        simpa only [vX5_isWord_15, if_pos c1, if_pos c2, if_pos c3] using kq
      · skip
        refine rr_aload_n 0 rfl rfl dX5_isWord_49 ?_
        refine rr_getR dX5_isWord_50 fX5_9 lo_13 sh_13 rfl ?_
        refine rr_aload_n 0 rfl rfl dX5_isWord_53 ?_
        refine rr_getI dX5_isWord_54 fX5_34 lo_13 sh_13 rfl ?_
        refine rr_iload_n 2 rfl rfl dX5_isWord_57 ?_
        refine rr_iadd dX5_isWord_58 ?_
        refine rr_baload dX5_isWord_59 lo_14 sh_14 (rd_at (k := 0) rfl (by decide) ho (by assumption)) ?_
        refine rr_aload_n 1 rfl rfl dX5_isWord_60 ?_
        refine rr_iload_n 2 rfl rfl dX5_isWord_61 ?_
        refine rr_callT (As := [.int 0]) (rest := [.int ((h 14) ((((h 13) 6) + 0) : Int32).toNatClampNeg)]) (kc2 := 0) (ks2 := 0) dX5_isWord_62 okJ_charAt lX5_49 (i9 := 15) rfl rfl rfl (Nat.le_of_ble_eq_true rfl) (Nat.le_of_ble_eq_true rfl) rfl (by omega) (by simp [jj_rk]) (by simp [jj_rk]) ?_
        refine sp_ch_15_0  ?_
        show jj_R _ _ kc ks (jj_S, 782, h, g) 65 [(0, .ref 13), (1, .ref (1000000 + 15)), (2, .int 0)] [.int 100, .int ((h 14) ((((h 13) 6) + 0) : Int32).toNatClampNeg)] Q
        refine rr_icmp_eq dX5_isWord_65 (fun c4 => ?_) (fun c4 => ?_)
        · skip
          refine rr_iinc 2 1 [(0, .ref 13), (1, .ref (1000000 + 15)), (2, .int 1)] dX5_isWord_70 rfl rfl (by decide) rfl ?_
          refine rr_goto dX5_isWord_73 ?_
          refine rr_iload_n 2 rfl rfl dX5_isWord_28 ?_
          refine rr_aload_n 1 rfl rfl dX5_isWord_29 ?_
          refine rr_callT (As := []) (rest := [.int 1]) (kc2 := 0) (ks2 := 0) dX5_isWord_30 okJ_length lX5_44 (i9 := 15) rfl rfl rfl (Nat.le_of_ble_eq_true rfl) (Nat.le_of_ble_eq_true rfl) rfl (by omega) (by simp [jj_rk]) (by simp [jj_rk]) ?_
          refine sp_len_15  ?_
          show jj_R _ _ kc ks (jj_S, 782, h, g) 33 [(0, .ref 13), (1, .ref (1000000 + 15)), (2, .int 1)] [.int 6, .int 1] Q
          refine rr_icmp_ge dX5_isWord_33 (fun c => absurd c (by decide)) (fun _ => ?_)
          refine rr_aload_n 0 rfl rfl dX5_isWord_36 ?_
          refine rr_getI dX5_isWord_37 fX5_34 lo_13 sh_13 rfl ?_
          refine rr_iload_n 2 rfl rfl dX5_isWord_40 ?_
          refine rr_iadd dX5_isWord_41 ?_
          refine rr_aload_n 0 rfl rfl dX5_isWord_42 ?_
          refine rr_getI dX5_isWord_43 fX5_22 lo_13 sh_13 rfl ?_
          refine rr_icmp_ge dX5_isWord_46 (fun c5 => ?_) (fun c5 => ?_)
          · skip
            refine rr_iconst 1 rfl dX5_isWord_76 ?_
            refine rr_nreturn dX5_isWord_77 rfl (by first | rfl | assumption) ?_
            simpa only [vX5_isWord_15, if_pos c1, if_pos c2, if_neg c3, if_pos c4, if_pos c5] using kq
          · skip
            refine rr_aload_n 0 rfl rfl dX5_isWord_49 ?_
            refine rr_getR dX5_isWord_50 fX5_9 lo_13 sh_13 rfl ?_
            refine rr_aload_n 0 rfl rfl dX5_isWord_53 ?_
            refine rr_getI dX5_isWord_54 fX5_34 lo_13 sh_13 rfl ?_
            refine rr_iload_n 2 rfl rfl dX5_isWord_57 ?_
            refine rr_iadd dX5_isWord_58 ?_
            refine rr_baload dX5_isWord_59 lo_14 sh_14 (rd_at (k := 1) rfl (by decide) ho (by assumption)) ?_
            refine rr_aload_n 1 rfl rfl dX5_isWord_60 ?_
            refine rr_iload_n 2 rfl rfl dX5_isWord_61 ?_
            refine rr_callT (As := [.int 1]) (rest := [.int ((h 14) ((((h 13) 6) + 1) : Int32).toNatClampNeg)]) (kc2 := 0) (ks2 := 0) dX5_isWord_62 okJ_charAt lX5_49 (i9 := 15) rfl rfl rfl (Nat.le_of_ble_eq_true rfl) (Nat.le_of_ble_eq_true rfl) rfl (by omega) (by simp [jj_rk]) (by simp [jj_rk]) ?_
            refine sp_ch_15_1  ?_
            show jj_R _ _ kc ks (jj_S, 782, h, g) 65 [(0, .ref 13), (1, .ref (1000000 + 15)), (2, .int 1)] [.int 111, .int ((h 14) ((((h 13) 6) + 1) : Int32).toNatClampNeg)] Q
            refine rr_icmp_eq dX5_isWord_65 (fun c6 => ?_) (fun c6 => ?_)
            · skip
              refine rr_iinc 2 1 [(0, .ref 13), (1, .ref (1000000 + 15)), (2, .int 2)] dX5_isWord_70 rfl rfl (by decide) rfl ?_
              refine rr_goto dX5_isWord_73 ?_
              refine rr_iload_n 2 rfl rfl dX5_isWord_28 ?_
              refine rr_aload_n 1 rfl rfl dX5_isWord_29 ?_
              refine rr_callT (As := []) (rest := [.int 2]) (kc2 := 0) (ks2 := 0) dX5_isWord_30 okJ_length lX5_44 (i9 := 15) rfl rfl rfl (Nat.le_of_ble_eq_true rfl) (Nat.le_of_ble_eq_true rfl) rfl (by omega) (by simp [jj_rk]) (by simp [jj_rk]) ?_
              refine sp_len_15  ?_
              show jj_R _ _ kc ks (jj_S, 782, h, g) 33 [(0, .ref 13), (1, .ref (1000000 + 15)), (2, .int 2)] [.int 6, .int 2] Q
              refine rr_icmp_ge dX5_isWord_33 (fun c => absurd c (by decide)) (fun _ => ?_)
              refine rr_aload_n 0 rfl rfl dX5_isWord_36 ?_
              refine rr_getI dX5_isWord_37 fX5_34 lo_13 sh_13 rfl ?_
              refine rr_iload_n 2 rfl rfl dX5_isWord_40 ?_
              refine rr_iadd dX5_isWord_41 ?_
              refine rr_aload_n 0 rfl rfl dX5_isWord_42 ?_
              refine rr_getI dX5_isWord_43 fX5_22 lo_13 sh_13 rfl ?_
              refine rr_icmp_ge dX5_isWord_46 (fun c7 => ?_) (fun c7 => ?_)
              · skip
                refine rr_iconst 1 rfl dX5_isWord_76 ?_
                refine rr_nreturn dX5_isWord_77 rfl (by first | rfl | assumption) ?_
                simpa only [vX5_isWord_15, if_pos c1, if_pos c2, if_neg c3, if_pos c4, if_neg c5, if_pos c6, if_pos c7] using kq
              · skip
                refine rr_aload_n 0 rfl rfl dX5_isWord_49 ?_
                refine rr_getR dX5_isWord_50 fX5_9 lo_13 sh_13 rfl ?_
                refine rr_aload_n 0 rfl rfl dX5_isWord_53 ?_
                refine rr_getI dX5_isWord_54 fX5_34 lo_13 sh_13 rfl ?_
                refine rr_iload_n 2 rfl rfl dX5_isWord_57 ?_
                refine rr_iadd dX5_isWord_58 ?_
                refine rr_baload dX5_isWord_59 lo_14 sh_14 (rd_at (k := 2) rfl (by decide) ho (by assumption)) ?_
                refine rr_aload_n 1 rfl rfl dX5_isWord_60 ?_
                refine rr_iload_n 2 rfl rfl dX5_isWord_61 ?_
                refine rr_callT (As := [.int 2]) (rest := [.int ((h 14) ((((h 13) 6) + 2) : Int32).toNatClampNeg)]) (kc2 := 0) (ks2 := 0) dX5_isWord_62 okJ_charAt lX5_49 (i9 := 15) rfl rfl rfl (Nat.le_of_ble_eq_true rfl) (Nat.le_of_ble_eq_true rfl) rfl (by omega) (by simp [jj_rk]) (by simp [jj_rk]) ?_
                refine sp_ch_15_2  ?_
                show jj_R _ _ kc ks (jj_S, 782, h, g) 65 [(0, .ref 13), (1, .ref (1000000 + 15)), (2, .int 2)] [.int 117, .int ((h 14) ((((h 13) 6) + 2) : Int32).toNatClampNeg)] Q
                refine rr_icmp_eq dX5_isWord_65 (fun c8 => ?_) (fun c8 => ?_)
                · skip
                  refine rr_iinc 2 1 [(0, .ref 13), (1, .ref (1000000 + 15)), (2, .int 3)] dX5_isWord_70 rfl rfl (by decide) rfl ?_
                  refine rr_goto dX5_isWord_73 ?_
                  refine rr_iload_n 2 rfl rfl dX5_isWord_28 ?_
                  refine rr_aload_n 1 rfl rfl dX5_isWord_29 ?_
                  refine rr_callT (As := []) (rest := [.int 3]) (kc2 := 0) (ks2 := 0) dX5_isWord_30 okJ_length lX5_44 (i9 := 15) rfl rfl rfl (Nat.le_of_ble_eq_true rfl) (Nat.le_of_ble_eq_true rfl) rfl (by omega) (by simp [jj_rk]) (by simp [jj_rk]) ?_
                  refine sp_len_15  ?_
                  show jj_R _ _ kc ks (jj_S, 782, h, g) 33 [(0, .ref 13), (1, .ref (1000000 + 15)), (2, .int 3)] [.int 6, .int 3] Q
                  refine rr_icmp_ge dX5_isWord_33 (fun c => absurd c (by decide)) (fun _ => ?_)
                  refine rr_aload_n 0 rfl rfl dX5_isWord_36 ?_
                  refine rr_getI dX5_isWord_37 fX5_34 lo_13 sh_13 rfl ?_
                  refine rr_iload_n 2 rfl rfl dX5_isWord_40 ?_
                  refine rr_iadd dX5_isWord_41 ?_
                  refine rr_aload_n 0 rfl rfl dX5_isWord_42 ?_
                  refine rr_getI dX5_isWord_43 fX5_22 lo_13 sh_13 rfl ?_
                  refine rr_icmp_ge dX5_isWord_46 (fun c9 => ?_) (fun c9 => ?_)
                  · skip
                    refine rr_iconst 1 rfl dX5_isWord_76 ?_
                    refine rr_nreturn dX5_isWord_77 rfl (by first | rfl | assumption) ?_
                    simpa only [vX5_isWord_15, if_pos c1, if_pos c2, if_neg c3, if_pos c4, if_neg c5, if_pos c6, if_neg c7, if_pos c8, if_pos c9] using kq
                  · skip
                    refine rr_aload_n 0 rfl rfl dX5_isWord_49 ?_
                    refine rr_getR dX5_isWord_50 fX5_9 lo_13 sh_13 rfl ?_
                    refine rr_aload_n 0 rfl rfl dX5_isWord_53 ?_
                    refine rr_getI dX5_isWord_54 fX5_34 lo_13 sh_13 rfl ?_
                    refine rr_iload_n 2 rfl rfl dX5_isWord_57 ?_
                    refine rr_iadd dX5_isWord_58 ?_
                    refine rr_baload dX5_isWord_59 lo_14 sh_14 (rd_at (k := 3) rfl (by decide) ho (by assumption)) ?_
                    refine rr_aload_n 1 rfl rfl dX5_isWord_60 ?_
                    refine rr_iload_n 2 rfl rfl dX5_isWord_61 ?_
                    refine rr_callT (As := [.int 3]) (rest := [.int ((h 14) ((((h 13) 6) + 3) : Int32).toNatClampNeg)]) (kc2 := 0) (ks2 := 0) dX5_isWord_62 okJ_charAt lX5_49 (i9 := 15) rfl rfl rfl (Nat.le_of_ble_eq_true rfl) (Nat.le_of_ble_eq_true rfl) rfl (by omega) (by simp [jj_rk]) (by simp [jj_rk]) ?_
                    refine sp_ch_15_3  ?_
                    show jj_R _ _ kc ks (jj_S, 782, h, g) 65 [(0, .ref 13), (1, .ref (1000000 + 15)), (2, .int 3)] [.int 98, .int ((h 14) ((((h 13) 6) + 3) : Int32).toNatClampNeg)] Q
                    refine rr_icmp_eq dX5_isWord_65 (fun c10 => ?_) (fun c10 => ?_)
                    · skip
                      refine rr_iinc 2 1 [(0, .ref 13), (1, .ref (1000000 + 15)), (2, .int 4)] dX5_isWord_70 rfl rfl (by decide) rfl ?_
                      refine rr_goto dX5_isWord_73 ?_
                      refine rr_iload_n 2 rfl rfl dX5_isWord_28 ?_
                      refine rr_aload_n 1 rfl rfl dX5_isWord_29 ?_
                      refine rr_callT (As := []) (rest := [.int 4]) (kc2 := 0) (ks2 := 0) dX5_isWord_30 okJ_length lX5_44 (i9 := 15) rfl rfl rfl (Nat.le_of_ble_eq_true rfl) (Nat.le_of_ble_eq_true rfl) rfl (by omega) (by simp [jj_rk]) (by simp [jj_rk]) ?_
                      refine sp_len_15  ?_
                      show jj_R _ _ kc ks (jj_S, 782, h, g) 33 [(0, .ref 13), (1, .ref (1000000 + 15)), (2, .int 4)] [.int 6, .int 4] Q
                      refine rr_icmp_ge dX5_isWord_33 (fun c => absurd c (by decide)) (fun _ => ?_)
                      refine rr_aload_n 0 rfl rfl dX5_isWord_36 ?_
                      refine rr_getI dX5_isWord_37 fX5_34 lo_13 sh_13 rfl ?_
                      refine rr_iload_n 2 rfl rfl dX5_isWord_40 ?_
                      refine rr_iadd dX5_isWord_41 ?_
                      refine rr_aload_n 0 rfl rfl dX5_isWord_42 ?_
                      refine rr_getI dX5_isWord_43 fX5_22 lo_13 sh_13 rfl ?_
                      refine rr_icmp_ge dX5_isWord_46 (fun c11 => ?_) (fun c11 => ?_)
                      · skip
                        refine rr_iconst 1 rfl dX5_isWord_76 ?_
                        refine rr_nreturn dX5_isWord_77 rfl (by first | rfl | assumption) ?_
                        simpa only [vX5_isWord_15, if_pos c1, if_pos c2, if_neg c3, if_pos c4, if_neg c5, if_pos c6, if_neg c7, if_pos c8, if_neg c9, if_pos c10, if_pos c11] using kq
                      · skip
                        refine rr_aload_n 0 rfl rfl dX5_isWord_49 ?_
                        refine rr_getR dX5_isWord_50 fX5_9 lo_13 sh_13 rfl ?_
                        refine rr_aload_n 0 rfl rfl dX5_isWord_53 ?_
                        refine rr_getI dX5_isWord_54 fX5_34 lo_13 sh_13 rfl ?_
                        refine rr_iload_n 2 rfl rfl dX5_isWord_57 ?_
                        refine rr_iadd dX5_isWord_58 ?_
                        refine rr_baload dX5_isWord_59 lo_14 sh_14 (rd_at (k := 4) rfl (by decide) ho (by assumption)) ?_
                        refine rr_aload_n 1 rfl rfl dX5_isWord_60 ?_
                        refine rr_iload_n 2 rfl rfl dX5_isWord_61 ?_
                        refine rr_callT (As := [.int 4]) (rest := [.int ((h 14) ((((h 13) 6) + 4) : Int32).toNatClampNeg)]) (kc2 := 0) (ks2 := 0) dX5_isWord_62 okJ_charAt lX5_49 (i9 := 15) rfl rfl rfl (Nat.le_of_ble_eq_true rfl) (Nat.le_of_ble_eq_true rfl) rfl (by omega) (by simp [jj_rk]) (by simp [jj_rk]) ?_
                        refine sp_ch_15_4  ?_
                        show jj_R _ _ kc ks (jj_S, 782, h, g) 65 [(0, .ref 13), (1, .ref (1000000 + 15)), (2, .int 4)] [.int 108, .int ((h 14) ((((h 13) 6) + 4) : Int32).toNatClampNeg)] Q
                        refine rr_icmp_eq dX5_isWord_65 (fun c12 => ?_) (fun c12 => ?_)
                        · skip
                          refine rr_iinc 2 1 [(0, .ref 13), (1, .ref (1000000 + 15)), (2, .int 5)] dX5_isWord_70 rfl rfl (by decide) rfl ?_
                          refine rr_goto dX5_isWord_73 ?_
                          refine rr_iload_n 2 rfl rfl dX5_isWord_28 ?_
                          refine rr_aload_n 1 rfl rfl dX5_isWord_29 ?_
                          refine rr_callT (As := []) (rest := [.int 5]) (kc2 := 0) (ks2 := 0) dX5_isWord_30 okJ_length lX5_44 (i9 := 15) rfl rfl rfl (Nat.le_of_ble_eq_true rfl) (Nat.le_of_ble_eq_true rfl) rfl (by omega) (by simp [jj_rk]) (by simp [jj_rk]) ?_
                          refine sp_len_15  ?_
                          show jj_R _ _ kc ks (jj_S, 782, h, g) 33 [(0, .ref 13), (1, .ref (1000000 + 15)), (2, .int 5)] [.int 6, .int 5] Q
                          refine rr_icmp_ge dX5_isWord_33 (fun c => absurd c (by decide)) (fun _ => ?_)
                          refine rr_aload_n 0 rfl rfl dX5_isWord_36 ?_
                          refine rr_getI dX5_isWord_37 fX5_34 lo_13 sh_13 rfl ?_
                          refine rr_iload_n 2 rfl rfl dX5_isWord_40 ?_
                          refine rr_iadd dX5_isWord_41 ?_
                          refine rr_aload_n 0 rfl rfl dX5_isWord_42 ?_
                          refine rr_getI dX5_isWord_43 fX5_22 lo_13 sh_13 rfl ?_
                          refine rr_icmp_ge dX5_isWord_46 (fun c13 => ?_) (fun c13 => ?_)
                          · skip
                            refine rr_iconst 1 rfl dX5_isWord_76 ?_
                            refine rr_nreturn dX5_isWord_77 rfl (by first | rfl | assumption) ?_
                            simpa only [vX5_isWord_15, if_pos c1, if_pos c2, if_neg c3, if_pos c4, if_neg c5, if_pos c6, if_neg c7, if_pos c8, if_neg c9, if_pos c10, if_neg c11, if_pos c12, if_pos c13] using kq
                          · skip
                            refine rr_aload_n 0 rfl rfl dX5_isWord_49 ?_
                            refine rr_getR dX5_isWord_50 fX5_9 lo_13 sh_13 rfl ?_
                            refine rr_aload_n 0 rfl rfl dX5_isWord_53 ?_
                            refine rr_getI dX5_isWord_54 fX5_34 lo_13 sh_13 rfl ?_
                            refine rr_iload_n 2 rfl rfl dX5_isWord_57 ?_
                            refine rr_iadd dX5_isWord_58 ?_
                            refine rr_baload dX5_isWord_59 lo_14 sh_14 (rd_at (k := 5) rfl (by decide) ho (by assumption)) ?_
                            refine rr_aload_n 1 rfl rfl dX5_isWord_60 ?_
                            refine rr_iload_n 2 rfl rfl dX5_isWord_61 ?_
                            refine rr_callT (As := [.int 5]) (rest := [.int ((h 14) ((((h 13) 6) + 5) : Int32).toNatClampNeg)]) (kc2 := 0) (ks2 := 0) dX5_isWord_62 okJ_charAt lX5_49 (i9 := 15) rfl rfl rfl (Nat.le_of_ble_eq_true rfl) (Nat.le_of_ble_eq_true rfl) rfl (by omega) (by simp [jj_rk]) (by simp [jj_rk]) ?_
                            refine sp_ch_15_5  ?_
                            show jj_R _ _ kc ks (jj_S, 782, h, g) 65 [(0, .ref 13), (1, .ref (1000000 + 15)), (2, .int 5)] [.int 101, .int ((h 14) ((((h 13) 6) + 5) : Int32).toNatClampNeg)] Q
                            refine rr_icmp_eq dX5_isWord_65 (fun c14 => ?_) (fun c14 => ?_)
                            · skip
                              refine rr_iinc 2 1 [(0, .ref 13), (1, .ref (1000000 + 15)), (2, .int 6)] dX5_isWord_70 rfl rfl (by decide) rfl ?_
                              refine rr_goto dX5_isWord_73 ?_
                              refine rr_iload_n 2 rfl rfl dX5_isWord_28 ?_
                              refine rr_aload_n 1 rfl rfl dX5_isWord_29 ?_
                              refine rr_callT (As := []) (rest := [.int 6]) (kc2 := 0) (ks2 := 0) dX5_isWord_30 okJ_length lX5_44 (i9 := 15) rfl rfl rfl (Nat.le_of_ble_eq_true rfl) (Nat.le_of_ble_eq_true rfl) rfl (by omega) (by simp [jj_rk]) (by simp [jj_rk]) ?_
                              refine sp_len_15  ?_
                              show jj_R _ _ kc ks (jj_S, 782, h, g) 33 [(0, .ref 13), (1, .ref (1000000 + 15)), (2, .int 6)] [.int 6, .int 6] Q
                              refine rr_icmp_ge dX5_isWord_33 (fun _ => ?_) (fun c => absurd (by decide) c)
                              refine rr_iconst 1 rfl dX5_isWord_76 ?_
                              refine rr_nreturn dX5_isWord_77 rfl (by first | rfl | assumption) ?_
                              simpa only [vX5_isWord_15, if_pos c1, if_pos c2, if_neg c3, if_pos c4, if_neg c5, if_pos c6, if_neg c7, if_pos c8, if_neg c9, if_pos c10, if_neg c11, if_pos c12, if_neg c13, if_pos c14] using kq
                            · skip
                              refine rr_iconst 0 rfl dX5_isWord_68 ?_
                              refine rr_nreturn dX5_isWord_69 rfl (by first | rfl | assumption) ?_
                              simpa only [vX5_isWord_15, if_pos c1, if_pos c2, if_neg c3, if_pos c4, if_neg c5, if_pos c6, if_neg c7, if_pos c8, if_neg c9, if_pos c10, if_neg c11, if_pos c12, if_neg c13, if_neg c14] using kq
                        · skip
                          refine rr_iconst 0 rfl dX5_isWord_68 ?_
                          refine rr_nreturn dX5_isWord_69 rfl (by first | rfl | assumption) ?_
                          simpa only [vX5_isWord_15, if_pos c1, if_pos c2, if_neg c3, if_pos c4, if_neg c5, if_pos c6, if_neg c7, if_pos c8, if_neg c9, if_pos c10, if_neg c11, if_neg c12] using kq
                    · skip
                      refine rr_iconst 0 rfl dX5_isWord_68 ?_
                      refine rr_nreturn dX5_isWord_69 rfl (by first | rfl | assumption) ?_
                      simpa only [vX5_isWord_15, if_pos c1, if_pos c2, if_neg c3, if_pos c4, if_neg c5, if_pos c6, if_neg c7, if_pos c8, if_neg c9, if_neg c10] using kq
                · skip
                  refine rr_iconst 0 rfl dX5_isWord_68 ?_
                  refine rr_nreturn dX5_isWord_69 rfl (by first | rfl | assumption) ?_
                  simpa only [vX5_isWord_15, if_pos c1, if_pos c2, if_neg c3, if_pos c4, if_neg c5, if_pos c6, if_neg c7, if_neg c8] using kq
            · skip
              refine rr_iconst 0 rfl dX5_isWord_68 ?_
              refine rr_nreturn dX5_isWord_69 rfl (by first | rfl | assumption) ?_
              simpa only [vX5_isWord_15, if_pos c1, if_pos c2, if_neg c3, if_pos c4, if_neg c5, if_neg c6] using kq
        · skip
          refine rr_iconst 0 rfl dX5_isWord_68 ?_
          refine rr_nreturn dX5_isWord_69 rfl (by first | rfl | assumption) ?_
          simpa only [vX5_isWord_15, if_pos c1, if_pos c2, if_neg c3, if_neg c4] using kq
    · skip
      refine rr_iconst 0 rfl dX5_isWord_24 ?_
      refine rr_nreturn dX5_isWord_25 rfl (by first | rfl | assumption) ?_
      simpa only [vX5_isWord_15, if_pos c1, if_neg c2] using kq
def vX5_isWord_16 (r13 : Nat → Int32) (r14 : Nat → Int32) : Int32 := (if (r13 4) = 2 then (if ((r13 3) - (r13 6)) = 3 then (if (r13 2) ≤ ((r13 6) + 0) then 1 else (if (r14 (((r13 6) + 0) : Int32).toNatClampNeg) = 99 then (if (r13 2) ≤ ((r13 6) + 1) then 1 else (if (r14 (((r13 6) + 1) : Int32).toNatClampNeg) = 117 then (if (r13 2) ≤ ((r13 6) + 2) then 1 else (if (r14 (((r13 6) + 2) : Int32).toNatClampNeg) = 116 then 1 else 0)) else 0)) else 0)) else 0) else 0)
set_option maxHeartbeats 1000000 in
theorem sp_X5_isWord_16 {d kc ks : Nat} {h : Nat → Nat → Int32} {g : Nat → Nat → Int64} {Q : jj_Rs → jj_St → Prop}  (ho : rdat (h 13)) (kq : Q (.inl (some (.int (vX5_isWord_16 (h 13) (h 14))))) (jj_S, 782, h, g)) : jj_R mX5_isWord (d + 4) kc ks (jj_S, 782, h, g) 0 [(0, .ref 13), (1, .ref (1000000 + 16))] [] Q := by
  refine rr_aload_n 0 rfl rfl dX5_isWord_0 ?_
  refine rr_getI dX5_isWord_1 fX5_37 lo_13 sh_13 rfl ?_
  refine rr_iconst 2 rfl dX5_isWord_4 ?_
  refine rr_icmp_ne dX5_isWord_5 (fun c1 => ?_) (fun c1 => ?_)
  · skip
    refine rr_iconst 0 rfl dX5_isWord_24 ?_
    refine rr_nreturn dX5_isWord_25 rfl (by first | rfl | assumption) ?_
    simpa only [vX5_isWord_16, if_neg c1] using kq
  · skip
    refine rr_aload_n 0 rfl rfl dX5_isWord_8 ?_
    refine rr_getI dX5_isWord_9 fX5_25 lo_13 sh_13 rfl ?_
    refine rr_aload_n 0 rfl rfl dX5_isWord_12 ?_
    refine rr_getI dX5_isWord_13 fX5_34 lo_13 sh_13 rfl ?_
    refine rr_isub dX5_isWord_16 ?_
    refine rr_aload_n 1 rfl rfl dX5_isWord_17 ?_
    refine rr_callT (As := []) (rest := [.int (((h 13) 3) - ((h 13) 6))]) (kc2 := 0) (ks2 := 0) dX5_isWord_18 okJ_length lX5_44 (i9 := 16) rfl rfl rfl (Nat.le_of_ble_eq_true rfl) (Nat.le_of_ble_eq_true rfl) rfl (by omega) (by simp [jj_rk]) (by simp [jj_rk]) ?_
    refine sp_len_16  ?_
    show jj_R _ _ kc ks (jj_S, 782, h, g) 21 [(0, .ref 13), (1, .ref (1000000 + 16))] [.int 3, .int (((h 13) 3) - ((h 13) 6))] Q
    refine rr_icmp_eq dX5_isWord_21 (fun c2 => ?_) (fun c2 => ?_)
    · skip
      refine rr_iconst 0 rfl dX5_isWord_26 ?_
      refine rr_istore_n [(0, .ref 13), (1, .ref (1000000 + 16)), (2, .int 0)] dX5_isWord_27 rfl (by decide) rfl ?_
      refine rr_iload_n 2 rfl rfl dX5_isWord_28 ?_
      refine rr_aload_n 1 rfl rfl dX5_isWord_29 ?_
      refine rr_callT (As := []) (rest := [.int 0]) (kc2 := 0) (ks2 := 0) dX5_isWord_30 okJ_length lX5_44 (i9 := 16) rfl rfl rfl (Nat.le_of_ble_eq_true rfl) (Nat.le_of_ble_eq_true rfl) rfl (by omega) (by simp [jj_rk]) (by simp [jj_rk]) ?_
      refine sp_len_16  ?_
      show jj_R _ _ kc ks (jj_S, 782, h, g) 33 [(0, .ref 13), (1, .ref (1000000 + 16)), (2, .int 0)] [.int 3, .int 0] Q
      refine rr_icmp_ge dX5_isWord_33 (fun c => absurd c (by decide)) (fun _ => ?_)
      refine rr_aload_n 0 rfl rfl dX5_isWord_36 ?_
      refine rr_getI dX5_isWord_37 fX5_34 lo_13 sh_13 rfl ?_
      refine rr_iload_n 2 rfl rfl dX5_isWord_40 ?_
      refine rr_iadd dX5_isWord_41 ?_
      refine rr_aload_n 0 rfl rfl dX5_isWord_42 ?_
      refine rr_getI dX5_isWord_43 fX5_22 lo_13 sh_13 rfl ?_
      refine rr_icmp_ge dX5_isWord_46 (fun c3 => ?_) (fun c3 => ?_)
      · skip
        refine rr_iconst 1 rfl dX5_isWord_76 ?_
        refine rr_nreturn dX5_isWord_77 rfl (by first | rfl | assumption) ?_
        simpa only [vX5_isWord_16, if_pos c1, if_pos c2, if_pos c3] using kq
      · skip
        refine rr_aload_n 0 rfl rfl dX5_isWord_49 ?_
        refine rr_getR dX5_isWord_50 fX5_9 lo_13 sh_13 rfl ?_
        refine rr_aload_n 0 rfl rfl dX5_isWord_53 ?_
        refine rr_getI dX5_isWord_54 fX5_34 lo_13 sh_13 rfl ?_
        refine rr_iload_n 2 rfl rfl dX5_isWord_57 ?_
        refine rr_iadd dX5_isWord_58 ?_
        refine rr_baload dX5_isWord_59 lo_14 sh_14 (rd_at (k := 0) rfl (by decide) ho (by assumption)) ?_
        refine rr_aload_n 1 rfl rfl dX5_isWord_60 ?_
        refine rr_iload_n 2 rfl rfl dX5_isWord_61 ?_
        refine rr_callT (As := [.int 0]) (rest := [.int ((h 14) ((((h 13) 6) + 0) : Int32).toNatClampNeg)]) (kc2 := 0) (ks2 := 0) dX5_isWord_62 okJ_charAt lX5_49 (i9 := 16) rfl rfl rfl (Nat.le_of_ble_eq_true rfl) (Nat.le_of_ble_eq_true rfl) rfl (by omega) (by simp [jj_rk]) (by simp [jj_rk]) ?_
        refine sp_ch_16_0  ?_
        show jj_R _ _ kc ks (jj_S, 782, h, g) 65 [(0, .ref 13), (1, .ref (1000000 + 16)), (2, .int 0)] [.int 99, .int ((h 14) ((((h 13) 6) + 0) : Int32).toNatClampNeg)] Q
        refine rr_icmp_eq dX5_isWord_65 (fun c4 => ?_) (fun c4 => ?_)
        · skip
          refine rr_iinc 2 1 [(0, .ref 13), (1, .ref (1000000 + 16)), (2, .int 1)] dX5_isWord_70 rfl rfl (by decide) rfl ?_
          refine rr_goto dX5_isWord_73 ?_
          refine rr_iload_n 2 rfl rfl dX5_isWord_28 ?_
          refine rr_aload_n 1 rfl rfl dX5_isWord_29 ?_
          refine rr_callT (As := []) (rest := [.int 1]) (kc2 := 0) (ks2 := 0) dX5_isWord_30 okJ_length lX5_44 (i9 := 16) rfl rfl rfl (Nat.le_of_ble_eq_true rfl) (Nat.le_of_ble_eq_true rfl) rfl (by omega) (by simp [jj_rk]) (by simp [jj_rk]) ?_
          refine sp_len_16  ?_
          show jj_R _ _ kc ks (jj_S, 782, h, g) 33 [(0, .ref 13), (1, .ref (1000000 + 16)), (2, .int 1)] [.int 3, .int 1] Q
          refine rr_icmp_ge dX5_isWord_33 (fun c => absurd c (by decide)) (fun _ => ?_)
          refine rr_aload_n 0 rfl rfl dX5_isWord_36 ?_
          refine rr_getI dX5_isWord_37 fX5_34 lo_13 sh_13 rfl ?_
          refine rr_iload_n 2 rfl rfl dX5_isWord_40 ?_
          refine rr_iadd dX5_isWord_41 ?_
          refine rr_aload_n 0 rfl rfl dX5_isWord_42 ?_
          refine rr_getI dX5_isWord_43 fX5_22 lo_13 sh_13 rfl ?_
          refine rr_icmp_ge dX5_isWord_46 (fun c5 => ?_) (fun c5 => ?_)
          · skip
            refine rr_iconst 1 rfl dX5_isWord_76 ?_
            refine rr_nreturn dX5_isWord_77 rfl (by first | rfl | assumption) ?_
            simpa only [vX5_isWord_16, if_pos c1, if_pos c2, if_neg c3, if_pos c4, if_pos c5] using kq
          · skip
            refine rr_aload_n 0 rfl rfl dX5_isWord_49 ?_
            refine rr_getR dX5_isWord_50 fX5_9 lo_13 sh_13 rfl ?_
            refine rr_aload_n 0 rfl rfl dX5_isWord_53 ?_
            refine rr_getI dX5_isWord_54 fX5_34 lo_13 sh_13 rfl ?_
            refine rr_iload_n 2 rfl rfl dX5_isWord_57 ?_
            refine rr_iadd dX5_isWord_58 ?_
            refine rr_baload dX5_isWord_59 lo_14 sh_14 (rd_at (k := 1) rfl (by decide) ho (by assumption)) ?_
            refine rr_aload_n 1 rfl rfl dX5_isWord_60 ?_
            refine rr_iload_n 2 rfl rfl dX5_isWord_61 ?_
            refine rr_callT (As := [.int 1]) (rest := [.int ((h 14) ((((h 13) 6) + 1) : Int32).toNatClampNeg)]) (kc2 := 0) (ks2 := 0) dX5_isWord_62 okJ_charAt lX5_49 (i9 := 16) rfl rfl rfl (Nat.le_of_ble_eq_true rfl) (Nat.le_of_ble_eq_true rfl) rfl (by omega) (by simp [jj_rk]) (by simp [jj_rk]) ?_
            refine sp_ch_16_1  ?_
            show jj_R _ _ kc ks (jj_S, 782, h, g) 65 [(0, .ref 13), (1, .ref (1000000 + 16)), (2, .int 1)] [.int 117, .int ((h 14) ((((h 13) 6) + 1) : Int32).toNatClampNeg)] Q
            refine rr_icmp_eq dX5_isWord_65 (fun c6 => ?_) (fun c6 => ?_)
            · skip
              refine rr_iinc 2 1 [(0, .ref 13), (1, .ref (1000000 + 16)), (2, .int 2)] dX5_isWord_70 rfl rfl (by decide) rfl ?_
              refine rr_goto dX5_isWord_73 ?_
              refine rr_iload_n 2 rfl rfl dX5_isWord_28 ?_
              refine rr_aload_n 1 rfl rfl dX5_isWord_29 ?_
              refine rr_callT (As := []) (rest := [.int 2]) (kc2 := 0) (ks2 := 0) dX5_isWord_30 okJ_length lX5_44 (i9 := 16) rfl rfl rfl (Nat.le_of_ble_eq_true rfl) (Nat.le_of_ble_eq_true rfl) rfl (by omega) (by simp [jj_rk]) (by simp [jj_rk]) ?_
              refine sp_len_16  ?_
              show jj_R _ _ kc ks (jj_S, 782, h, g) 33 [(0, .ref 13), (1, .ref (1000000 + 16)), (2, .int 2)] [.int 3, .int 2] Q
              refine rr_icmp_ge dX5_isWord_33 (fun c => absurd c (by decide)) (fun _ => ?_)
              refine rr_aload_n 0 rfl rfl dX5_isWord_36 ?_
              refine rr_getI dX5_isWord_37 fX5_34 lo_13 sh_13 rfl ?_
              refine rr_iload_n 2 rfl rfl dX5_isWord_40 ?_
              refine rr_iadd dX5_isWord_41 ?_
              refine rr_aload_n 0 rfl rfl dX5_isWord_42 ?_
              refine rr_getI dX5_isWord_43 fX5_22 lo_13 sh_13 rfl ?_
              refine rr_icmp_ge dX5_isWord_46 (fun c7 => ?_) (fun c7 => ?_)
              · skip
                refine rr_iconst 1 rfl dX5_isWord_76 ?_
                refine rr_nreturn dX5_isWord_77 rfl (by first | rfl | assumption) ?_
                simpa only [vX5_isWord_16, if_pos c1, if_pos c2, if_neg c3, if_pos c4, if_neg c5, if_pos c6, if_pos c7] using kq
              · skip
                refine rr_aload_n 0 rfl rfl dX5_isWord_49 ?_
                refine rr_getR dX5_isWord_50 fX5_9 lo_13 sh_13 rfl ?_
                refine rr_aload_n 0 rfl rfl dX5_isWord_53 ?_
                refine rr_getI dX5_isWord_54 fX5_34 lo_13 sh_13 rfl ?_
                refine rr_iload_n 2 rfl rfl dX5_isWord_57 ?_
                refine rr_iadd dX5_isWord_58 ?_
                refine rr_baload dX5_isWord_59 lo_14 sh_14 (rd_at (k := 2) rfl (by decide) ho (by assumption)) ?_
                refine rr_aload_n 1 rfl rfl dX5_isWord_60 ?_
                refine rr_iload_n 2 rfl rfl dX5_isWord_61 ?_
                refine rr_callT (As := [.int 2]) (rest := [.int ((h 14) ((((h 13) 6) + 2) : Int32).toNatClampNeg)]) (kc2 := 0) (ks2 := 0) dX5_isWord_62 okJ_charAt lX5_49 (i9 := 16) rfl rfl rfl (Nat.le_of_ble_eq_true rfl) (Nat.le_of_ble_eq_true rfl) rfl (by omega) (by simp [jj_rk]) (by simp [jj_rk]) ?_
                refine sp_ch_16_2  ?_
                show jj_R _ _ kc ks (jj_S, 782, h, g) 65 [(0, .ref 13), (1, .ref (1000000 + 16)), (2, .int 2)] [.int 116, .int ((h 14) ((((h 13) 6) + 2) : Int32).toNatClampNeg)] Q
                refine rr_icmp_eq dX5_isWord_65 (fun c8 => ?_) (fun c8 => ?_)
                · skip
                  refine rr_iinc 2 1 [(0, .ref 13), (1, .ref (1000000 + 16)), (2, .int 3)] dX5_isWord_70 rfl rfl (by decide) rfl ?_
                  refine rr_goto dX5_isWord_73 ?_
                  refine rr_iload_n 2 rfl rfl dX5_isWord_28 ?_
                  refine rr_aload_n 1 rfl rfl dX5_isWord_29 ?_
                  refine rr_callT (As := []) (rest := [.int 3]) (kc2 := 0) (ks2 := 0) dX5_isWord_30 okJ_length lX5_44 (i9 := 16) rfl rfl rfl (Nat.le_of_ble_eq_true rfl) (Nat.le_of_ble_eq_true rfl) rfl (by omega) (by simp [jj_rk]) (by simp [jj_rk]) ?_
                  refine sp_len_16  ?_
                  show jj_R _ _ kc ks (jj_S, 782, h, g) 33 [(0, .ref 13), (1, .ref (1000000 + 16)), (2, .int 3)] [.int 3, .int 3] Q
                  refine rr_icmp_ge dX5_isWord_33 (fun _ => ?_) (fun c => absurd (by decide) c)
                  refine rr_iconst 1 rfl dX5_isWord_76 ?_
                  refine rr_nreturn dX5_isWord_77 rfl (by first | rfl | assumption) ?_
                  simpa only [vX5_isWord_16, if_pos c1, if_pos c2, if_neg c3, if_pos c4, if_neg c5, if_pos c6, if_neg c7, if_pos c8] using kq
                · skip
                  refine rr_iconst 0 rfl dX5_isWord_68 ?_
                  refine rr_nreturn dX5_isWord_69 rfl (by first | rfl | assumption) ?_
                  simpa only [vX5_isWord_16, if_pos c1, if_pos c2, if_neg c3, if_pos c4, if_neg c5, if_pos c6, if_neg c7, if_neg c8] using kq
            · skip
              refine rr_iconst 0 rfl dX5_isWord_68 ?_
              refine rr_nreturn dX5_isWord_69 rfl (by first | rfl | assumption) ?_
              simpa only [vX5_isWord_16, if_pos c1, if_pos c2, if_neg c3, if_pos c4, if_neg c5, if_neg c6] using kq
        · skip
          refine rr_iconst 0 rfl dX5_isWord_68 ?_
          refine rr_nreturn dX5_isWord_69 rfl (by first | rfl | assumption) ?_
          simpa only [vX5_isWord_16, if_pos c1, if_pos c2, if_neg c3, if_neg c4] using kq
    · skip
      refine rr_iconst 0 rfl dX5_isWord_24 ?_
      refine rr_nreturn dX5_isWord_25 rfl (by first | rfl | assumption) ?_
      simpa only [vX5_isWord_16, if_pos c1, if_neg c2] using kq
def vX5_isWord_17 (r13 : Nat → Int32) (r14 : Nat → Int32) : Int32 := (if (r13 4) = 2 then (if ((r13 3) - (r13 6)) = 4 then (if (r13 2) ≤ ((r13 6) + 0) then 1 else (if (r14 (((r13 6) + 0) : Int32).toNatClampNeg) = 109 then (if (r13 2) ≤ ((r13 6) + 1) then 1 else (if (r14 (((r13 6) + 1) : Int32).toNatClampNeg) = 101 then (if (r13 2) ≤ ((r13 6) + 2) then 1 else (if (r14 (((r13 6) + 2) : Int32).toNatClampNeg) = 110 then (if (r13 2) ≤ ((r13 6) + 3) then 1 else (if (r14 (((r13 6) + 3) : Int32).toNatClampNeg) = 100 then 1 else 0)) else 0)) else 0)) else 0)) else 0) else 0)
set_option maxHeartbeats 1000000 in
theorem sp_X5_isWord_17 {d kc ks : Nat} {h : Nat → Nat → Int32} {g : Nat → Nat → Int64} {Q : jj_Rs → jj_St → Prop}  (ho : rdat (h 13)) (kq : Q (.inl (some (.int (vX5_isWord_17 (h 13) (h 14))))) (jj_S, 782, h, g)) : jj_R mX5_isWord (d + 4) kc ks (jj_S, 782, h, g) 0 [(0, .ref 13), (1, .ref (1000000 + 17))] [] Q := by
  refine rr_aload_n 0 rfl rfl dX5_isWord_0 ?_
  refine rr_getI dX5_isWord_1 fX5_37 lo_13 sh_13 rfl ?_
  refine rr_iconst 2 rfl dX5_isWord_4 ?_
  refine rr_icmp_ne dX5_isWord_5 (fun c1 => ?_) (fun c1 => ?_)
  · skip
    refine rr_iconst 0 rfl dX5_isWord_24 ?_
    refine rr_nreturn dX5_isWord_25 rfl (by first | rfl | assumption) ?_
    simpa only [vX5_isWord_17, if_neg c1] using kq
  · skip
    refine rr_aload_n 0 rfl rfl dX5_isWord_8 ?_
    refine rr_getI dX5_isWord_9 fX5_25 lo_13 sh_13 rfl ?_
    refine rr_aload_n 0 rfl rfl dX5_isWord_12 ?_
    refine rr_getI dX5_isWord_13 fX5_34 lo_13 sh_13 rfl ?_
    refine rr_isub dX5_isWord_16 ?_
    refine rr_aload_n 1 rfl rfl dX5_isWord_17 ?_
    refine rr_callT (As := []) (rest := [.int (((h 13) 3) - ((h 13) 6))]) (kc2 := 0) (ks2 := 0) dX5_isWord_18 okJ_length lX5_44 (i9 := 17) rfl rfl rfl (Nat.le_of_ble_eq_true rfl) (Nat.le_of_ble_eq_true rfl) rfl (by omega) (by simp [jj_rk]) (by simp [jj_rk]) ?_
    refine sp_len_17  ?_
    show jj_R _ _ kc ks (jj_S, 782, h, g) 21 [(0, .ref 13), (1, .ref (1000000 + 17))] [.int 4, .int (((h 13) 3) - ((h 13) 6))] Q
    refine rr_icmp_eq dX5_isWord_21 (fun c2 => ?_) (fun c2 => ?_)
    · skip
      refine rr_iconst 0 rfl dX5_isWord_26 ?_
      refine rr_istore_n [(0, .ref 13), (1, .ref (1000000 + 17)), (2, .int 0)] dX5_isWord_27 rfl (by decide) rfl ?_
      refine rr_iload_n 2 rfl rfl dX5_isWord_28 ?_
      refine rr_aload_n 1 rfl rfl dX5_isWord_29 ?_
      refine rr_callT (As := []) (rest := [.int 0]) (kc2 := 0) (ks2 := 0) dX5_isWord_30 okJ_length lX5_44 (i9 := 17) rfl rfl rfl (Nat.le_of_ble_eq_true rfl) (Nat.le_of_ble_eq_true rfl) rfl (by omega) (by simp [jj_rk]) (by simp [jj_rk]) ?_
      refine sp_len_17  ?_
      show jj_R _ _ kc ks (jj_S, 782, h, g) 33 [(0, .ref 13), (1, .ref (1000000 + 17)), (2, .int 0)] [.int 4, .int 0] Q
      refine rr_icmp_ge dX5_isWord_33 (fun c => absurd c (by decide)) (fun _ => ?_)
      refine rr_aload_n 0 rfl rfl dX5_isWord_36 ?_
      refine rr_getI dX5_isWord_37 fX5_34 lo_13 sh_13 rfl ?_
      refine rr_iload_n 2 rfl rfl dX5_isWord_40 ?_
      refine rr_iadd dX5_isWord_41 ?_
      refine rr_aload_n 0 rfl rfl dX5_isWord_42 ?_
      refine rr_getI dX5_isWord_43 fX5_22 lo_13 sh_13 rfl ?_
      refine rr_icmp_ge dX5_isWord_46 (fun c3 => ?_) (fun c3 => ?_)
      · skip
        refine rr_iconst 1 rfl dX5_isWord_76 ?_
        refine rr_nreturn dX5_isWord_77 rfl (by first | rfl | assumption) ?_
        simpa only [vX5_isWord_17, if_pos c1, if_pos c2, if_pos c3] using kq
      · skip
        refine rr_aload_n 0 rfl rfl dX5_isWord_49 ?_
        refine rr_getR dX5_isWord_50 fX5_9 lo_13 sh_13 rfl ?_
        refine rr_aload_n 0 rfl rfl dX5_isWord_53 ?_
        refine rr_getI dX5_isWord_54 fX5_34 lo_13 sh_13 rfl ?_
        refine rr_iload_n 2 rfl rfl dX5_isWord_57 ?_
        refine rr_iadd dX5_isWord_58 ?_
        refine rr_baload dX5_isWord_59 lo_14 sh_14 (rd_at (k := 0) rfl (by decide) ho (by assumption)) ?_
        refine rr_aload_n 1 rfl rfl dX5_isWord_60 ?_
        refine rr_iload_n 2 rfl rfl dX5_isWord_61 ?_
        refine rr_callT (As := [.int 0]) (rest := [.int ((h 14) ((((h 13) 6) + 0) : Int32).toNatClampNeg)]) (kc2 := 0) (ks2 := 0) dX5_isWord_62 okJ_charAt lX5_49 (i9 := 17) rfl rfl rfl (Nat.le_of_ble_eq_true rfl) (Nat.le_of_ble_eq_true rfl) rfl (by omega) (by simp [jj_rk]) (by simp [jj_rk]) ?_
        refine sp_ch_17_0  ?_
        show jj_R _ _ kc ks (jj_S, 782, h, g) 65 [(0, .ref 13), (1, .ref (1000000 + 17)), (2, .int 0)] [.int 109, .int ((h 14) ((((h 13) 6) + 0) : Int32).toNatClampNeg)] Q
        refine rr_icmp_eq dX5_isWord_65 (fun c4 => ?_) (fun c4 => ?_)
        · skip
          refine rr_iinc 2 1 [(0, .ref 13), (1, .ref (1000000 + 17)), (2, .int 1)] dX5_isWord_70 rfl rfl (by decide) rfl ?_
          refine rr_goto dX5_isWord_73 ?_
          refine rr_iload_n 2 rfl rfl dX5_isWord_28 ?_
          refine rr_aload_n 1 rfl rfl dX5_isWord_29 ?_
          refine rr_callT (As := []) (rest := [.int 1]) (kc2 := 0) (ks2 := 0) dX5_isWord_30 okJ_length lX5_44 (i9 := 17) rfl rfl rfl (Nat.le_of_ble_eq_true rfl) (Nat.le_of_ble_eq_true rfl) rfl (by omega) (by simp [jj_rk]) (by simp [jj_rk]) ?_
          refine sp_len_17  ?_
          show jj_R _ _ kc ks (jj_S, 782, h, g) 33 [(0, .ref 13), (1, .ref (1000000 + 17)), (2, .int 1)] [.int 4, .int 1] Q
          refine rr_icmp_ge dX5_isWord_33 (fun c => absurd c (by decide)) (fun _ => ?_)
          refine rr_aload_n 0 rfl rfl dX5_isWord_36 ?_
          refine rr_getI dX5_isWord_37 fX5_34 lo_13 sh_13 rfl ?_
          refine rr_iload_n 2 rfl rfl dX5_isWord_40 ?_
          refine rr_iadd dX5_isWord_41 ?_
          refine rr_aload_n 0 rfl rfl dX5_isWord_42 ?_
          refine rr_getI dX5_isWord_43 fX5_22 lo_13 sh_13 rfl ?_
          refine rr_icmp_ge dX5_isWord_46 (fun c5 => ?_) (fun c5 => ?_)
          · skip
            refine rr_iconst 1 rfl dX5_isWord_76 ?_
            refine rr_nreturn dX5_isWord_77 rfl (by first | rfl | assumption) ?_
            simpa only [vX5_isWord_17, if_pos c1, if_pos c2, if_neg c3, if_pos c4, if_pos c5] using kq
          · skip
            refine rr_aload_n 0 rfl rfl dX5_isWord_49 ?_
            refine rr_getR dX5_isWord_50 fX5_9 lo_13 sh_13 rfl ?_
            refine rr_aload_n 0 rfl rfl dX5_isWord_53 ?_
            refine rr_getI dX5_isWord_54 fX5_34 lo_13 sh_13 rfl ?_
            refine rr_iload_n 2 rfl rfl dX5_isWord_57 ?_
            refine rr_iadd dX5_isWord_58 ?_
            refine rr_baload dX5_isWord_59 lo_14 sh_14 (rd_at (k := 1) rfl (by decide) ho (by assumption)) ?_
            refine rr_aload_n 1 rfl rfl dX5_isWord_60 ?_
            refine rr_iload_n 2 rfl rfl dX5_isWord_61 ?_
            refine rr_callT (As := [.int 1]) (rest := [.int ((h 14) ((((h 13) 6) + 1) : Int32).toNatClampNeg)]) (kc2 := 0) (ks2 := 0) dX5_isWord_62 okJ_charAt lX5_49 (i9 := 17) rfl rfl rfl (Nat.le_of_ble_eq_true rfl) (Nat.le_of_ble_eq_true rfl) rfl (by omega) (by simp [jj_rk]) (by simp [jj_rk]) ?_
            refine sp_ch_17_1  ?_
            show jj_R _ _ kc ks (jj_S, 782, h, g) 65 [(0, .ref 13), (1, .ref (1000000 + 17)), (2, .int 1)] [.int 101, .int ((h 14) ((((h 13) 6) + 1) : Int32).toNatClampNeg)] Q
            refine rr_icmp_eq dX5_isWord_65 (fun c6 => ?_) (fun c6 => ?_)
            · skip
              refine rr_iinc 2 1 [(0, .ref 13), (1, .ref (1000000 + 17)), (2, .int 2)] dX5_isWord_70 rfl rfl (by decide) rfl ?_
              refine rr_goto dX5_isWord_73 ?_
              refine rr_iload_n 2 rfl rfl dX5_isWord_28 ?_
              refine rr_aload_n 1 rfl rfl dX5_isWord_29 ?_
              refine rr_callT (As := []) (rest := [.int 2]) (kc2 := 0) (ks2 := 0) dX5_isWord_30 okJ_length lX5_44 (i9 := 17) rfl rfl rfl (Nat.le_of_ble_eq_true rfl) (Nat.le_of_ble_eq_true rfl) rfl (by omega) (by simp [jj_rk]) (by simp [jj_rk]) ?_
              refine sp_len_17  ?_
              show jj_R _ _ kc ks (jj_S, 782, h, g) 33 [(0, .ref 13), (1, .ref (1000000 + 17)), (2, .int 2)] [.int 4, .int 2] Q
              refine rr_icmp_ge dX5_isWord_33 (fun c => absurd c (by decide)) (fun _ => ?_)
              refine rr_aload_n 0 rfl rfl dX5_isWord_36 ?_
              refine rr_getI dX5_isWord_37 fX5_34 lo_13 sh_13 rfl ?_
              refine rr_iload_n 2 rfl rfl dX5_isWord_40 ?_
              refine rr_iadd dX5_isWord_41 ?_
              refine rr_aload_n 0 rfl rfl dX5_isWord_42 ?_
              refine rr_getI dX5_isWord_43 fX5_22 lo_13 sh_13 rfl ?_
              refine rr_icmp_ge dX5_isWord_46 (fun c7 => ?_) (fun c7 => ?_)
              · skip
                refine rr_iconst 1 rfl dX5_isWord_76 ?_
                refine rr_nreturn dX5_isWord_77 rfl (by first | rfl | assumption) ?_
                simpa only [vX5_isWord_17, if_pos c1, if_pos c2, if_neg c3, if_pos c4, if_neg c5, if_pos c6, if_pos c7] using kq
              · skip
                refine rr_aload_n 0 rfl rfl dX5_isWord_49 ?_
                refine rr_getR dX5_isWord_50 fX5_9 lo_13 sh_13 rfl ?_
                refine rr_aload_n 0 rfl rfl dX5_isWord_53 ?_
                refine rr_getI dX5_isWord_54 fX5_34 lo_13 sh_13 rfl ?_
                refine rr_iload_n 2 rfl rfl dX5_isWord_57 ?_
                refine rr_iadd dX5_isWord_58 ?_
                refine rr_baload dX5_isWord_59 lo_14 sh_14 (rd_at (k := 2) rfl (by decide) ho (by assumption)) ?_
                refine rr_aload_n 1 rfl rfl dX5_isWord_60 ?_
                refine rr_iload_n 2 rfl rfl dX5_isWord_61 ?_
                refine rr_callT (As := [.int 2]) (rest := [.int ((h 14) ((((h 13) 6) + 2) : Int32).toNatClampNeg)]) (kc2 := 0) (ks2 := 0) dX5_isWord_62 okJ_charAt lX5_49 (i9 := 17) rfl rfl rfl (Nat.le_of_ble_eq_true rfl) (Nat.le_of_ble_eq_true rfl) rfl (by omega) (by simp [jj_rk]) (by simp [jj_rk]) ?_
                refine sp_ch_17_2  ?_
                show jj_R _ _ kc ks (jj_S, 782, h, g) 65 [(0, .ref 13), (1, .ref (1000000 + 17)), (2, .int 2)] [.int 110, .int ((h 14) ((((h 13) 6) + 2) : Int32).toNatClampNeg)] Q
                refine rr_icmp_eq dX5_isWord_65 (fun c8 => ?_) (fun c8 => ?_)
                · skip
                  refine rr_iinc 2 1 [(0, .ref 13), (1, .ref (1000000 + 17)), (2, .int 3)] dX5_isWord_70 rfl rfl (by decide) rfl ?_
                  refine rr_goto dX5_isWord_73 ?_
                  refine rr_iload_n 2 rfl rfl dX5_isWord_28 ?_
                  refine rr_aload_n 1 rfl rfl dX5_isWord_29 ?_
                  refine rr_callT (As := []) (rest := [.int 3]) (kc2 := 0) (ks2 := 0) dX5_isWord_30 okJ_length lX5_44 (i9 := 17) rfl rfl rfl (Nat.le_of_ble_eq_true rfl) (Nat.le_of_ble_eq_true rfl) rfl (by omega) (by simp [jj_rk]) (by simp [jj_rk]) ?_
                  refine sp_len_17  ?_
                  show jj_R _ _ kc ks (jj_S, 782, h, g) 33 [(0, .ref 13), (1, .ref (1000000 + 17)), (2, .int 3)] [.int 4, .int 3] Q
                  refine rr_icmp_ge dX5_isWord_33 (fun c => absurd c (by decide)) (fun _ => ?_)
                  refine rr_aload_n 0 rfl rfl dX5_isWord_36 ?_
                  refine rr_getI dX5_isWord_37 fX5_34 lo_13 sh_13 rfl ?_
                  refine rr_iload_n 2 rfl rfl dX5_isWord_40 ?_
                  refine rr_iadd dX5_isWord_41 ?_
                  refine rr_aload_n 0 rfl rfl dX5_isWord_42 ?_
                  refine rr_getI dX5_isWord_43 fX5_22 lo_13 sh_13 rfl ?_
                  refine rr_icmp_ge dX5_isWord_46 (fun c9 => ?_) (fun c9 => ?_)
                  · skip
                    refine rr_iconst 1 rfl dX5_isWord_76 ?_
                    refine rr_nreturn dX5_isWord_77 rfl (by first | rfl | assumption) ?_
                    simpa only [vX5_isWord_17, if_pos c1, if_pos c2, if_neg c3, if_pos c4, if_neg c5, if_pos c6, if_neg c7, if_pos c8, if_pos c9] using kq
                  · skip
                    refine rr_aload_n 0 rfl rfl dX5_isWord_49 ?_
                    refine rr_getR dX5_isWord_50 fX5_9 lo_13 sh_13 rfl ?_
                    refine rr_aload_n 0 rfl rfl dX5_isWord_53 ?_
                    refine rr_getI dX5_isWord_54 fX5_34 lo_13 sh_13 rfl ?_
                    refine rr_iload_n 2 rfl rfl dX5_isWord_57 ?_
                    refine rr_iadd dX5_isWord_58 ?_
                    refine rr_baload dX5_isWord_59 lo_14 sh_14 (rd_at (k := 3) rfl (by decide) ho (by assumption)) ?_
                    refine rr_aload_n 1 rfl rfl dX5_isWord_60 ?_
                    refine rr_iload_n 2 rfl rfl dX5_isWord_61 ?_
                    refine rr_callT (As := [.int 3]) (rest := [.int ((h 14) ((((h 13) 6) + 3) : Int32).toNatClampNeg)]) (kc2 := 0) (ks2 := 0) dX5_isWord_62 okJ_charAt lX5_49 (i9 := 17) rfl rfl rfl (Nat.le_of_ble_eq_true rfl) (Nat.le_of_ble_eq_true rfl) rfl (by omega) (by simp [jj_rk]) (by simp [jj_rk]) ?_
                    refine sp_ch_17_3  ?_
                    show jj_R _ _ kc ks (jj_S, 782, h, g) 65 [(0, .ref 13), (1, .ref (1000000 + 17)), (2, .int 3)] [.int 100, .int ((h 14) ((((h 13) 6) + 3) : Int32).toNatClampNeg)] Q
                    refine rr_icmp_eq dX5_isWord_65 (fun c10 => ?_) (fun c10 => ?_)
                    · skip
                      refine rr_iinc 2 1 [(0, .ref 13), (1, .ref (1000000 + 17)), (2, .int 4)] dX5_isWord_70 rfl rfl (by decide) rfl ?_
                      refine rr_goto dX5_isWord_73 ?_
                      refine rr_iload_n 2 rfl rfl dX5_isWord_28 ?_
                      refine rr_aload_n 1 rfl rfl dX5_isWord_29 ?_
                      refine rr_callT (As := []) (rest := [.int 4]) (kc2 := 0) (ks2 := 0) dX5_isWord_30 okJ_length lX5_44 (i9 := 17) rfl rfl rfl (Nat.le_of_ble_eq_true rfl) (Nat.le_of_ble_eq_true rfl) rfl (by omega) (by simp [jj_rk]) (by simp [jj_rk]) ?_
                      refine sp_len_17  ?_
                      show jj_R _ _ kc ks (jj_S, 782, h, g) 33 [(0, .ref 13), (1, .ref (1000000 + 17)), (2, .int 4)] [.int 4, .int 4] Q
                      refine rr_icmp_ge dX5_isWord_33 (fun _ => ?_) (fun c => absurd (by decide) c)
                      refine rr_iconst 1 rfl dX5_isWord_76 ?_
                      refine rr_nreturn dX5_isWord_77 rfl (by first | rfl | assumption) ?_
                      simpa only [vX5_isWord_17, if_pos c1, if_pos c2, if_neg c3, if_pos c4, if_neg c5, if_pos c6, if_neg c7, if_pos c8, if_neg c9, if_pos c10] using kq
                    · skip
                      refine rr_iconst 0 rfl dX5_isWord_68 ?_
                      refine rr_nreturn dX5_isWord_69 rfl (by first | rfl | assumption) ?_
                      simpa only [vX5_isWord_17, if_pos c1, if_pos c2, if_neg c3, if_pos c4, if_neg c5, if_pos c6, if_neg c7, if_pos c8, if_neg c9, if_neg c10] using kq
                · skip
                  refine rr_iconst 0 rfl dX5_isWord_68 ?_
                  refine rr_nreturn dX5_isWord_69 rfl (by first | rfl | assumption) ?_
                  simpa only [vX5_isWord_17, if_pos c1, if_pos c2, if_neg c3, if_pos c4, if_neg c5, if_pos c6, if_neg c7, if_neg c8] using kq
            · skip
              refine rr_iconst 0 rfl dX5_isWord_68 ?_
              refine rr_nreturn dX5_isWord_69 rfl (by first | rfl | assumption) ?_
              simpa only [vX5_isWord_17, if_pos c1, if_pos c2, if_neg c3, if_pos c4, if_neg c5, if_neg c6] using kq
        · skip
          refine rr_iconst 0 rfl dX5_isWord_68 ?_
          refine rr_nreturn dX5_isWord_69 rfl (by first | rfl | assumption) ?_
          simpa only [vX5_isWord_17, if_pos c1, if_pos c2, if_neg c3, if_neg c4] using kq
    · skip
      refine rr_iconst 0 rfl dX5_isWord_24 ?_
      refine rr_nreturn dX5_isWord_25 rfl (by first | rfl | assumption) ?_
      simpa only [vX5_isWord_17, if_pos c1, if_neg c2] using kq
def vX5_isWord_18 (r13 : Nat → Int32) (r14 : Nat → Int32) : Int32 := (if (r13 4) = 2 then (if ((r13 3) - (r13 6)) = 4 then (if (r13 2) ≤ ((r13 6) + 0) then 1 else (if (r14 (((r13 6) + 0) : Int32).toNatClampNeg) = 117 then (if (r13 2) ≤ ((r13 6) + 1) then 1 else (if (r14 (((r13 6) + 1) : Int32).toNatClampNeg) = 110 then (if (r13 2) ≤ ((r13 6) + 2) then 1 else (if (r14 (((r13 6) + 2) : Int32).toNatClampNeg) = 100 then (if (r13 2) ≤ ((r13 6) + 3) then 1 else (if (r14 (((r13 6) + 3) : Int32).toNatClampNeg) = 111 then 1 else 0)) else 0)) else 0)) else 0)) else 0) else 0)
set_option maxHeartbeats 1000000 in
theorem sp_X5_isWord_18 {d kc ks : Nat} {h : Nat → Nat → Int32} {g : Nat → Nat → Int64} {Q : jj_Rs → jj_St → Prop}  (ho : rdat (h 13)) (kq : Q (.inl (some (.int (vX5_isWord_18 (h 13) (h 14))))) (jj_S, 782, h, g)) : jj_R mX5_isWord (d + 4) kc ks (jj_S, 782, h, g) 0 [(0, .ref 13), (1, .ref (1000000 + 18))] [] Q := by
  refine rr_aload_n 0 rfl rfl dX5_isWord_0 ?_
  refine rr_getI dX5_isWord_1 fX5_37 lo_13 sh_13 rfl ?_
  refine rr_iconst 2 rfl dX5_isWord_4 ?_
  refine rr_icmp_ne dX5_isWord_5 (fun c1 => ?_) (fun c1 => ?_)
  · skip
    refine rr_iconst 0 rfl dX5_isWord_24 ?_
    refine rr_nreturn dX5_isWord_25 rfl (by first | rfl | assumption) ?_
    simpa only [vX5_isWord_18, if_neg c1] using kq
  · skip
    refine rr_aload_n 0 rfl rfl dX5_isWord_8 ?_
    refine rr_getI dX5_isWord_9 fX5_25 lo_13 sh_13 rfl ?_
    refine rr_aload_n 0 rfl rfl dX5_isWord_12 ?_
    refine rr_getI dX5_isWord_13 fX5_34 lo_13 sh_13 rfl ?_
    refine rr_isub dX5_isWord_16 ?_
    refine rr_aload_n 1 rfl rfl dX5_isWord_17 ?_
    refine rr_callT (As := []) (rest := [.int (((h 13) 3) - ((h 13) 6))]) (kc2 := 0) (ks2 := 0) dX5_isWord_18 okJ_length lX5_44 (i9 := 18) rfl rfl rfl (Nat.le_of_ble_eq_true rfl) (Nat.le_of_ble_eq_true rfl) rfl (by omega) (by simp [jj_rk]) (by simp [jj_rk]) ?_
    refine sp_len_18  ?_
    show jj_R _ _ kc ks (jj_S, 782, h, g) 21 [(0, .ref 13), (1, .ref (1000000 + 18))] [.int 4, .int (((h 13) 3) - ((h 13) 6))] Q
    refine rr_icmp_eq dX5_isWord_21 (fun c2 => ?_) (fun c2 => ?_)
    · skip
      refine rr_iconst 0 rfl dX5_isWord_26 ?_
      refine rr_istore_n [(0, .ref 13), (1, .ref (1000000 + 18)), (2, .int 0)] dX5_isWord_27 rfl (by decide) rfl ?_
      refine rr_iload_n 2 rfl rfl dX5_isWord_28 ?_
      refine rr_aload_n 1 rfl rfl dX5_isWord_29 ?_
      refine rr_callT (As := []) (rest := [.int 0]) (kc2 := 0) (ks2 := 0) dX5_isWord_30 okJ_length lX5_44 (i9 := 18) rfl rfl rfl (Nat.le_of_ble_eq_true rfl) (Nat.le_of_ble_eq_true rfl) rfl (by omega) (by simp [jj_rk]) (by simp [jj_rk]) ?_
      refine sp_len_18  ?_
      show jj_R _ _ kc ks (jj_S, 782, h, g) 33 [(0, .ref 13), (1, .ref (1000000 + 18)), (2, .int 0)] [.int 4, .int 0] Q
      refine rr_icmp_ge dX5_isWord_33 (fun c => absurd c (by decide)) (fun _ => ?_)
      refine rr_aload_n 0 rfl rfl dX5_isWord_36 ?_
      refine rr_getI dX5_isWord_37 fX5_34 lo_13 sh_13 rfl ?_
      refine rr_iload_n 2 rfl rfl dX5_isWord_40 ?_
      refine rr_iadd dX5_isWord_41 ?_
      refine rr_aload_n 0 rfl rfl dX5_isWord_42 ?_
      refine rr_getI dX5_isWord_43 fX5_22 lo_13 sh_13 rfl ?_
      refine rr_icmp_ge dX5_isWord_46 (fun c3 => ?_) (fun c3 => ?_)
      · skip
        refine rr_iconst 1 rfl dX5_isWord_76 ?_
        refine rr_nreturn dX5_isWord_77 rfl (by first | rfl | assumption) ?_
        simpa only [vX5_isWord_18, if_pos c1, if_pos c2, if_pos c3] using kq
      · skip
        refine rr_aload_n 0 rfl rfl dX5_isWord_49 ?_
        refine rr_getR dX5_isWord_50 fX5_9 lo_13 sh_13 rfl ?_
        refine rr_aload_n 0 rfl rfl dX5_isWord_53 ?_
        refine rr_getI dX5_isWord_54 fX5_34 lo_13 sh_13 rfl ?_
        refine rr_iload_n 2 rfl rfl dX5_isWord_57 ?_
        refine rr_iadd dX5_isWord_58 ?_
        refine rr_baload dX5_isWord_59 lo_14 sh_14 (rd_at (k := 0) rfl (by decide) ho (by assumption)) ?_
        refine rr_aload_n 1 rfl rfl dX5_isWord_60 ?_
        refine rr_iload_n 2 rfl rfl dX5_isWord_61 ?_
        refine rr_callT (As := [.int 0]) (rest := [.int ((h 14) ((((h 13) 6) + 0) : Int32).toNatClampNeg)]) (kc2 := 0) (ks2 := 0) dX5_isWord_62 okJ_charAt lX5_49 (i9 := 18) rfl rfl rfl (Nat.le_of_ble_eq_true rfl) (Nat.le_of_ble_eq_true rfl) rfl (by omega) (by simp [jj_rk]) (by simp [jj_rk]) ?_
        refine sp_ch_18_0  ?_
        show jj_R _ _ kc ks (jj_S, 782, h, g) 65 [(0, .ref 13), (1, .ref (1000000 + 18)), (2, .int 0)] [.int 117, .int ((h 14) ((((h 13) 6) + 0) : Int32).toNatClampNeg)] Q
        refine rr_icmp_eq dX5_isWord_65 (fun c4 => ?_) (fun c4 => ?_)
        · skip
          refine rr_iinc 2 1 [(0, .ref 13), (1, .ref (1000000 + 18)), (2, .int 1)] dX5_isWord_70 rfl rfl (by decide) rfl ?_
          refine rr_goto dX5_isWord_73 ?_
          refine rr_iload_n 2 rfl rfl dX5_isWord_28 ?_
          refine rr_aload_n 1 rfl rfl dX5_isWord_29 ?_
          refine rr_callT (As := []) (rest := [.int 1]) (kc2 := 0) (ks2 := 0) dX5_isWord_30 okJ_length lX5_44 (i9 := 18) rfl rfl rfl (Nat.le_of_ble_eq_true rfl) (Nat.le_of_ble_eq_true rfl) rfl (by omega) (by simp [jj_rk]) (by simp [jj_rk]) ?_
          refine sp_len_18  ?_
          show jj_R _ _ kc ks (jj_S, 782, h, g) 33 [(0, .ref 13), (1, .ref (1000000 + 18)), (2, .int 1)] [.int 4, .int 1] Q
          refine rr_icmp_ge dX5_isWord_33 (fun c => absurd c (by decide)) (fun _ => ?_)
          refine rr_aload_n 0 rfl rfl dX5_isWord_36 ?_
          refine rr_getI dX5_isWord_37 fX5_34 lo_13 sh_13 rfl ?_
          refine rr_iload_n 2 rfl rfl dX5_isWord_40 ?_
          refine rr_iadd dX5_isWord_41 ?_
          refine rr_aload_n 0 rfl rfl dX5_isWord_42 ?_
          refine rr_getI dX5_isWord_43 fX5_22 lo_13 sh_13 rfl ?_
          refine rr_icmp_ge dX5_isWord_46 (fun c5 => ?_) (fun c5 => ?_)
          · skip
            refine rr_iconst 1 rfl dX5_isWord_76 ?_
            refine rr_nreturn dX5_isWord_77 rfl (by first | rfl | assumption) ?_
            simpa only [vX5_isWord_18, if_pos c1, if_pos c2, if_neg c3, if_pos c4, if_pos c5] using kq
          · skip
            refine rr_aload_n 0 rfl rfl dX5_isWord_49 ?_
            refine rr_getR dX5_isWord_50 fX5_9 lo_13 sh_13 rfl ?_
            refine rr_aload_n 0 rfl rfl dX5_isWord_53 ?_
            refine rr_getI dX5_isWord_54 fX5_34 lo_13 sh_13 rfl ?_
            refine rr_iload_n 2 rfl rfl dX5_isWord_57 ?_
            refine rr_iadd dX5_isWord_58 ?_
            refine rr_baload dX5_isWord_59 lo_14 sh_14 (rd_at (k := 1) rfl (by decide) ho (by assumption)) ?_
            refine rr_aload_n 1 rfl rfl dX5_isWord_60 ?_
            refine rr_iload_n 2 rfl rfl dX5_isWord_61 ?_
            refine rr_callT (As := [.int 1]) (rest := [.int ((h 14) ((((h 13) 6) + 1) : Int32).toNatClampNeg)]) (kc2 := 0) (ks2 := 0) dX5_isWord_62 okJ_charAt lX5_49 (i9 := 18) rfl rfl rfl (Nat.le_of_ble_eq_true rfl) (Nat.le_of_ble_eq_true rfl) rfl (by omega) (by simp [jj_rk]) (by simp [jj_rk]) ?_
            refine sp_ch_18_1  ?_
            show jj_R _ _ kc ks (jj_S, 782, h, g) 65 [(0, .ref 13), (1, .ref (1000000 + 18)), (2, .int 1)] [.int 110, .int ((h 14) ((((h 13) 6) + 1) : Int32).toNatClampNeg)] Q
            refine rr_icmp_eq dX5_isWord_65 (fun c6 => ?_) (fun c6 => ?_)
            · skip
              refine rr_iinc 2 1 [(0, .ref 13), (1, .ref (1000000 + 18)), (2, .int 2)] dX5_isWord_70 rfl rfl (by decide) rfl ?_
              refine rr_goto dX5_isWord_73 ?_
              refine rr_iload_n 2 rfl rfl dX5_isWord_28 ?_
              refine rr_aload_n 1 rfl rfl dX5_isWord_29 ?_
              refine rr_callT (As := []) (rest := [.int 2]) (kc2 := 0) (ks2 := 0) dX5_isWord_30 okJ_length lX5_44 (i9 := 18) rfl rfl rfl (Nat.le_of_ble_eq_true rfl) (Nat.le_of_ble_eq_true rfl) rfl (by omega) (by simp [jj_rk]) (by simp [jj_rk]) ?_
              refine sp_len_18  ?_
              show jj_R _ _ kc ks (jj_S, 782, h, g) 33 [(0, .ref 13), (1, .ref (1000000 + 18)), (2, .int 2)] [.int 4, .int 2] Q
              refine rr_icmp_ge dX5_isWord_33 (fun c => absurd c (by decide)) (fun _ => ?_)
              refine rr_aload_n 0 rfl rfl dX5_isWord_36 ?_
              refine rr_getI dX5_isWord_37 fX5_34 lo_13 sh_13 rfl ?_
              refine rr_iload_n 2 rfl rfl dX5_isWord_40 ?_
              refine rr_iadd dX5_isWord_41 ?_
              refine rr_aload_n 0 rfl rfl dX5_isWord_42 ?_
              refine rr_getI dX5_isWord_43 fX5_22 lo_13 sh_13 rfl ?_
              refine rr_icmp_ge dX5_isWord_46 (fun c7 => ?_) (fun c7 => ?_)
              · skip
                refine rr_iconst 1 rfl dX5_isWord_76 ?_
                refine rr_nreturn dX5_isWord_77 rfl (by first | rfl | assumption) ?_
                simpa only [vX5_isWord_18, if_pos c1, if_pos c2, if_neg c3, if_pos c4, if_neg c5, if_pos c6, if_pos c7] using kq
              · skip
                refine rr_aload_n 0 rfl rfl dX5_isWord_49 ?_
                refine rr_getR dX5_isWord_50 fX5_9 lo_13 sh_13 rfl ?_
                refine rr_aload_n 0 rfl rfl dX5_isWord_53 ?_
                refine rr_getI dX5_isWord_54 fX5_34 lo_13 sh_13 rfl ?_
                refine rr_iload_n 2 rfl rfl dX5_isWord_57 ?_
                refine rr_iadd dX5_isWord_58 ?_
                refine rr_baload dX5_isWord_59 lo_14 sh_14 (rd_at (k := 2) rfl (by decide) ho (by assumption)) ?_
                refine rr_aload_n 1 rfl rfl dX5_isWord_60 ?_
                refine rr_iload_n 2 rfl rfl dX5_isWord_61 ?_
                refine rr_callT (As := [.int 2]) (rest := [.int ((h 14) ((((h 13) 6) + 2) : Int32).toNatClampNeg)]) (kc2 := 0) (ks2 := 0) dX5_isWord_62 okJ_charAt lX5_49 (i9 := 18) rfl rfl rfl (Nat.le_of_ble_eq_true rfl) (Nat.le_of_ble_eq_true rfl) rfl (by omega) (by simp [jj_rk]) (by simp [jj_rk]) ?_
                refine sp_ch_18_2  ?_
                show jj_R _ _ kc ks (jj_S, 782, h, g) 65 [(0, .ref 13), (1, .ref (1000000 + 18)), (2, .int 2)] [.int 100, .int ((h 14) ((((h 13) 6) + 2) : Int32).toNatClampNeg)] Q
                refine rr_icmp_eq dX5_isWord_65 (fun c8 => ?_) (fun c8 => ?_)
                · skip
                  refine rr_iinc 2 1 [(0, .ref 13), (1, .ref (1000000 + 18)), (2, .int 3)] dX5_isWord_70 rfl rfl (by decide) rfl ?_
                  refine rr_goto dX5_isWord_73 ?_
                  refine rr_iload_n 2 rfl rfl dX5_isWord_28 ?_
                  refine rr_aload_n 1 rfl rfl dX5_isWord_29 ?_
                  refine rr_callT (As := []) (rest := [.int 3]) (kc2 := 0) (ks2 := 0) dX5_isWord_30 okJ_length lX5_44 (i9 := 18) rfl rfl rfl (Nat.le_of_ble_eq_true rfl) (Nat.le_of_ble_eq_true rfl) rfl (by omega) (by simp [jj_rk]) (by simp [jj_rk]) ?_
                  refine sp_len_18  ?_
                  show jj_R _ _ kc ks (jj_S, 782, h, g) 33 [(0, .ref 13), (1, .ref (1000000 + 18)), (2, .int 3)] [.int 4, .int 3] Q
                  refine rr_icmp_ge dX5_isWord_33 (fun c => absurd c (by decide)) (fun _ => ?_)
                  refine rr_aload_n 0 rfl rfl dX5_isWord_36 ?_
                  refine rr_getI dX5_isWord_37 fX5_34 lo_13 sh_13 rfl ?_
                  refine rr_iload_n 2 rfl rfl dX5_isWord_40 ?_
                  refine rr_iadd dX5_isWord_41 ?_
                  refine rr_aload_n 0 rfl rfl dX5_isWord_42 ?_
                  refine rr_getI dX5_isWord_43 fX5_22 lo_13 sh_13 rfl ?_
                  refine rr_icmp_ge dX5_isWord_46 (fun c9 => ?_) (fun c9 => ?_)
                  · skip
                    refine rr_iconst 1 rfl dX5_isWord_76 ?_
                    refine rr_nreturn dX5_isWord_77 rfl (by first | rfl | assumption) ?_
                    simpa only [vX5_isWord_18, if_pos c1, if_pos c2, if_neg c3, if_pos c4, if_neg c5, if_pos c6, if_neg c7, if_pos c8, if_pos c9] using kq
                  · skip
                    refine rr_aload_n 0 rfl rfl dX5_isWord_49 ?_
                    refine rr_getR dX5_isWord_50 fX5_9 lo_13 sh_13 rfl ?_
                    refine rr_aload_n 0 rfl rfl dX5_isWord_53 ?_
                    refine rr_getI dX5_isWord_54 fX5_34 lo_13 sh_13 rfl ?_
                    refine rr_iload_n 2 rfl rfl dX5_isWord_57 ?_
                    refine rr_iadd dX5_isWord_58 ?_
                    refine rr_baload dX5_isWord_59 lo_14 sh_14 (rd_at (k := 3) rfl (by decide) ho (by assumption)) ?_
                    refine rr_aload_n 1 rfl rfl dX5_isWord_60 ?_
                    refine rr_iload_n 2 rfl rfl dX5_isWord_61 ?_
                    refine rr_callT (As := [.int 3]) (rest := [.int ((h 14) ((((h 13) 6) + 3) : Int32).toNatClampNeg)]) (kc2 := 0) (ks2 := 0) dX5_isWord_62 okJ_charAt lX5_49 (i9 := 18) rfl rfl rfl (Nat.le_of_ble_eq_true rfl) (Nat.le_of_ble_eq_true rfl) rfl (by omega) (by simp [jj_rk]) (by simp [jj_rk]) ?_
                    refine sp_ch_18_3  ?_
                    show jj_R _ _ kc ks (jj_S, 782, h, g) 65 [(0, .ref 13), (1, .ref (1000000 + 18)), (2, .int 3)] [.int 111, .int ((h 14) ((((h 13) 6) + 3) : Int32).toNatClampNeg)] Q
                    refine rr_icmp_eq dX5_isWord_65 (fun c10 => ?_) (fun c10 => ?_)
                    · skip
                      refine rr_iinc 2 1 [(0, .ref 13), (1, .ref (1000000 + 18)), (2, .int 4)] dX5_isWord_70 rfl rfl (by decide) rfl ?_
                      refine rr_goto dX5_isWord_73 ?_
                      refine rr_iload_n 2 rfl rfl dX5_isWord_28 ?_
                      refine rr_aload_n 1 rfl rfl dX5_isWord_29 ?_
                      refine rr_callT (As := []) (rest := [.int 4]) (kc2 := 0) (ks2 := 0) dX5_isWord_30 okJ_length lX5_44 (i9 := 18) rfl rfl rfl (Nat.le_of_ble_eq_true rfl) (Nat.le_of_ble_eq_true rfl) rfl (by omega) (by simp [jj_rk]) (by simp [jj_rk]) ?_
                      refine sp_len_18  ?_
                      show jj_R _ _ kc ks (jj_S, 782, h, g) 33 [(0, .ref 13), (1, .ref (1000000 + 18)), (2, .int 4)] [.int 4, .int 4] Q
                      refine rr_icmp_ge dX5_isWord_33 (fun _ => ?_) (fun c => absurd (by decide) c)
                      refine rr_iconst 1 rfl dX5_isWord_76 ?_
                      refine rr_nreturn dX5_isWord_77 rfl (by first | rfl | assumption) ?_
                      simpa only [vX5_isWord_18, if_pos c1, if_pos c2, if_neg c3, if_pos c4, if_neg c5, if_pos c6, if_neg c7, if_pos c8, if_neg c9, if_pos c10] using kq
                    · skip
                      refine rr_iconst 0 rfl dX5_isWord_68 ?_
                      refine rr_nreturn dX5_isWord_69 rfl (by first | rfl | assumption) ?_
                      simpa only [vX5_isWord_18, if_pos c1, if_pos c2, if_neg c3, if_pos c4, if_neg c5, if_pos c6, if_neg c7, if_pos c8, if_neg c9, if_neg c10] using kq
                · skip
                  refine rr_iconst 0 rfl dX5_isWord_68 ?_
                  refine rr_nreturn dX5_isWord_69 rfl (by first | rfl | assumption) ?_
                  simpa only [vX5_isWord_18, if_pos c1, if_pos c2, if_neg c3, if_pos c4, if_neg c5, if_pos c6, if_neg c7, if_neg c8] using kq
            · skip
              refine rr_iconst 0 rfl dX5_isWord_68 ?_
              refine rr_nreturn dX5_isWord_69 rfl (by first | rfl | assumption) ?_
              simpa only [vX5_isWord_18, if_pos c1, if_pos c2, if_neg c3, if_pos c4, if_neg c5, if_neg c6] using kq
        · skip
          refine rr_iconst 0 rfl dX5_isWord_68 ?_
          refine rr_nreturn dX5_isWord_69 rfl (by first | rfl | assumption) ?_
          simpa only [vX5_isWord_18, if_pos c1, if_pos c2, if_neg c3, if_neg c4] using kq
    · skip
      refine rr_iconst 0 rfl dX5_isWord_24 ?_
      refine rr_nreturn dX5_isWord_25 rfl (by first | rfl | assumption) ?_
      simpa only [vX5_isWord_18, if_pos c1, if_neg c2] using kq
def vX5_isWord_19 (r13 : Nat → Int32) (r14 : Nat → Int32) : Int32 := (if (r13 4) = 2 then (if ((r13 3) - (r13 6)) = 3 then (if (r13 2) ≤ ((r13 6) + 0) then 1 else (if (r14 (((r13 6) + 0) : Int32).toNatClampNeg) = 100 then (if (r13 2) ≤ ((r13 6) + 1) then 1 else (if (r14 (((r13 6) + 1) : Int32).toNatClampNeg) = 97 then (if (r13 2) ≤ ((r13 6) + 2) then 1 else (if (r14 (((r13 6) + 2) : Int32).toNatClampNeg) = 121 then 1 else 0)) else 0)) else 0)) else 0) else 0)
set_option maxHeartbeats 1000000 in
theorem sp_X5_isWord_19 {d kc ks : Nat} {h : Nat → Nat → Int32} {g : Nat → Nat → Int64} {Q : jj_Rs → jj_St → Prop}  (ho : rdat (h 13)) (kq : Q (.inl (some (.int (vX5_isWord_19 (h 13) (h 14))))) (jj_S, 782, h, g)) : jj_R mX5_isWord (d + 4) kc ks (jj_S, 782, h, g) 0 [(0, .ref 13), (1, .ref (1000000 + 19))] [] Q := by
  refine rr_aload_n 0 rfl rfl dX5_isWord_0 ?_
  refine rr_getI dX5_isWord_1 fX5_37 lo_13 sh_13 rfl ?_
  refine rr_iconst 2 rfl dX5_isWord_4 ?_
  refine rr_icmp_ne dX5_isWord_5 (fun c1 => ?_) (fun c1 => ?_)
  · skip
    refine rr_iconst 0 rfl dX5_isWord_24 ?_
    refine rr_nreturn dX5_isWord_25 rfl (by first | rfl | assumption) ?_
    simpa only [vX5_isWord_19, if_neg c1] using kq
  · skip
    refine rr_aload_n 0 rfl rfl dX5_isWord_8 ?_
    refine rr_getI dX5_isWord_9 fX5_25 lo_13 sh_13 rfl ?_
    refine rr_aload_n 0 rfl rfl dX5_isWord_12 ?_
    refine rr_getI dX5_isWord_13 fX5_34 lo_13 sh_13 rfl ?_
    refine rr_isub dX5_isWord_16 ?_
    refine rr_aload_n 1 rfl rfl dX5_isWord_17 ?_
    refine rr_callT (As := []) (rest := [.int (((h 13) 3) - ((h 13) 6))]) (kc2 := 0) (ks2 := 0) dX5_isWord_18 okJ_length lX5_44 (i9 := 19) rfl rfl rfl (Nat.le_of_ble_eq_true rfl) (Nat.le_of_ble_eq_true rfl) rfl (by omega) (by simp [jj_rk]) (by simp [jj_rk]) ?_
    refine sp_len_19  ?_
    show jj_R _ _ kc ks (jj_S, 782, h, g) 21 [(0, .ref 13), (1, .ref (1000000 + 19))] [.int 3, .int (((h 13) 3) - ((h 13) 6))] Q
    refine rr_icmp_eq dX5_isWord_21 (fun c2 => ?_) (fun c2 => ?_)
    · skip
      refine rr_iconst 0 rfl dX5_isWord_26 ?_
      refine rr_istore_n [(0, .ref 13), (1, .ref (1000000 + 19)), (2, .int 0)] dX5_isWord_27 rfl (by decide) rfl ?_
      refine rr_iload_n 2 rfl rfl dX5_isWord_28 ?_
      refine rr_aload_n 1 rfl rfl dX5_isWord_29 ?_
      refine rr_callT (As := []) (rest := [.int 0]) (kc2 := 0) (ks2 := 0) dX5_isWord_30 okJ_length lX5_44 (i9 := 19) rfl rfl rfl (Nat.le_of_ble_eq_true rfl) (Nat.le_of_ble_eq_true rfl) rfl (by omega) (by simp [jj_rk]) (by simp [jj_rk]) ?_
      refine sp_len_19  ?_
      show jj_R _ _ kc ks (jj_S, 782, h, g) 33 [(0, .ref 13), (1, .ref (1000000 + 19)), (2, .int 0)] [.int 3, .int 0] Q
      refine rr_icmp_ge dX5_isWord_33 (fun c => absurd c (by decide)) (fun _ => ?_)
      refine rr_aload_n 0 rfl rfl dX5_isWord_36 ?_
      refine rr_getI dX5_isWord_37 fX5_34 lo_13 sh_13 rfl ?_
      refine rr_iload_n 2 rfl rfl dX5_isWord_40 ?_
      refine rr_iadd dX5_isWord_41 ?_
      refine rr_aload_n 0 rfl rfl dX5_isWord_42 ?_
      refine rr_getI dX5_isWord_43 fX5_22 lo_13 sh_13 rfl ?_
      refine rr_icmp_ge dX5_isWord_46 (fun c3 => ?_) (fun c3 => ?_)
      · skip
        refine rr_iconst 1 rfl dX5_isWord_76 ?_
        refine rr_nreturn dX5_isWord_77 rfl (by first | rfl | assumption) ?_
        simpa only [vX5_isWord_19, if_pos c1, if_pos c2, if_pos c3] using kq
      · skip
        refine rr_aload_n 0 rfl rfl dX5_isWord_49 ?_
        refine rr_getR dX5_isWord_50 fX5_9 lo_13 sh_13 rfl ?_
        refine rr_aload_n 0 rfl rfl dX5_isWord_53 ?_
        refine rr_getI dX5_isWord_54 fX5_34 lo_13 sh_13 rfl ?_
        refine rr_iload_n 2 rfl rfl dX5_isWord_57 ?_
        refine rr_iadd dX5_isWord_58 ?_
        refine rr_baload dX5_isWord_59 lo_14 sh_14 (rd_at (k := 0) rfl (by decide) ho (by assumption)) ?_
        refine rr_aload_n 1 rfl rfl dX5_isWord_60 ?_
        refine rr_iload_n 2 rfl rfl dX5_isWord_61 ?_
        refine rr_callT (As := [.int 0]) (rest := [.int ((h 14) ((((h 13) 6) + 0) : Int32).toNatClampNeg)]) (kc2 := 0) (ks2 := 0) dX5_isWord_62 okJ_charAt lX5_49 (i9 := 19) rfl rfl rfl (Nat.le_of_ble_eq_true rfl) (Nat.le_of_ble_eq_true rfl) rfl (by omega) (by simp [jj_rk]) (by simp [jj_rk]) ?_
        refine sp_ch_19_0  ?_
        show jj_R _ _ kc ks (jj_S, 782, h, g) 65 [(0, .ref 13), (1, .ref (1000000 + 19)), (2, .int 0)] [.int 100, .int ((h 14) ((((h 13) 6) + 0) : Int32).toNatClampNeg)] Q
        refine rr_icmp_eq dX5_isWord_65 (fun c4 => ?_) (fun c4 => ?_)
        · skip
          refine rr_iinc 2 1 [(0, .ref 13), (1, .ref (1000000 + 19)), (2, .int 1)] dX5_isWord_70 rfl rfl (by decide) rfl ?_
          refine rr_goto dX5_isWord_73 ?_
          refine rr_iload_n 2 rfl rfl dX5_isWord_28 ?_
          refine rr_aload_n 1 rfl rfl dX5_isWord_29 ?_
          refine rr_callT (As := []) (rest := [.int 1]) (kc2 := 0) (ks2 := 0) dX5_isWord_30 okJ_length lX5_44 (i9 := 19) rfl rfl rfl (Nat.le_of_ble_eq_true rfl) (Nat.le_of_ble_eq_true rfl) rfl (by omega) (by simp [jj_rk]) (by simp [jj_rk]) ?_
          refine sp_len_19  ?_
          show jj_R _ _ kc ks (jj_S, 782, h, g) 33 [(0, .ref 13), (1, .ref (1000000 + 19)), (2, .int 1)] [.int 3, .int 1] Q
          refine rr_icmp_ge dX5_isWord_33 (fun c => absurd c (by decide)) (fun _ => ?_)
          refine rr_aload_n 0 rfl rfl dX5_isWord_36 ?_
          refine rr_getI dX5_isWord_37 fX5_34 lo_13 sh_13 rfl ?_
          refine rr_iload_n 2 rfl rfl dX5_isWord_40 ?_
          refine rr_iadd dX5_isWord_41 ?_
          refine rr_aload_n 0 rfl rfl dX5_isWord_42 ?_
          refine rr_getI dX5_isWord_43 fX5_22 lo_13 sh_13 rfl ?_
          refine rr_icmp_ge dX5_isWord_46 (fun c5 => ?_) (fun c5 => ?_)
          · skip
            refine rr_iconst 1 rfl dX5_isWord_76 ?_
            refine rr_nreturn dX5_isWord_77 rfl (by first | rfl | assumption) ?_
            simpa only [vX5_isWord_19, if_pos c1, if_pos c2, if_neg c3, if_pos c4, if_pos c5] using kq
          · skip
            refine rr_aload_n 0 rfl rfl dX5_isWord_49 ?_
            refine rr_getR dX5_isWord_50 fX5_9 lo_13 sh_13 rfl ?_
            refine rr_aload_n 0 rfl rfl dX5_isWord_53 ?_
            refine rr_getI dX5_isWord_54 fX5_34 lo_13 sh_13 rfl ?_
            refine rr_iload_n 2 rfl rfl dX5_isWord_57 ?_
            refine rr_iadd dX5_isWord_58 ?_
            refine rr_baload dX5_isWord_59 lo_14 sh_14 (rd_at (k := 1) rfl (by decide) ho (by assumption)) ?_
            refine rr_aload_n 1 rfl rfl dX5_isWord_60 ?_
            refine rr_iload_n 2 rfl rfl dX5_isWord_61 ?_
            refine rr_callT (As := [.int 1]) (rest := [.int ((h 14) ((((h 13) 6) + 1) : Int32).toNatClampNeg)]) (kc2 := 0) (ks2 := 0) dX5_isWord_62 okJ_charAt lX5_49 (i9 := 19) rfl rfl rfl (Nat.le_of_ble_eq_true rfl) (Nat.le_of_ble_eq_true rfl) rfl (by omega) (by simp [jj_rk]) (by simp [jj_rk]) ?_
            refine sp_ch_19_1  ?_
            show jj_R _ _ kc ks (jj_S, 782, h, g) 65 [(0, .ref 13), (1, .ref (1000000 + 19)), (2, .int 1)] [.int 97, .int ((h 14) ((((h 13) 6) + 1) : Int32).toNatClampNeg)] Q
            refine rr_icmp_eq dX5_isWord_65 (fun c6 => ?_) (fun c6 => ?_)
            · skip
              refine rr_iinc 2 1 [(0, .ref 13), (1, .ref (1000000 + 19)), (2, .int 2)] dX5_isWord_70 rfl rfl (by decide) rfl ?_
              refine rr_goto dX5_isWord_73 ?_
              refine rr_iload_n 2 rfl rfl dX5_isWord_28 ?_
              refine rr_aload_n 1 rfl rfl dX5_isWord_29 ?_
              refine rr_callT (As := []) (rest := [.int 2]) (kc2 := 0) (ks2 := 0) dX5_isWord_30 okJ_length lX5_44 (i9 := 19) rfl rfl rfl (Nat.le_of_ble_eq_true rfl) (Nat.le_of_ble_eq_true rfl) rfl (by omega) (by simp [jj_rk]) (by simp [jj_rk]) ?_
              refine sp_len_19  ?_
              show jj_R _ _ kc ks (jj_S, 782, h, g) 33 [(0, .ref 13), (1, .ref (1000000 + 19)), (2, .int 2)] [.int 3, .int 2] Q
              refine rr_icmp_ge dX5_isWord_33 (fun c => absurd c (by decide)) (fun _ => ?_)
              refine rr_aload_n 0 rfl rfl dX5_isWord_36 ?_
              refine rr_getI dX5_isWord_37 fX5_34 lo_13 sh_13 rfl ?_
              refine rr_iload_n 2 rfl rfl dX5_isWord_40 ?_
              refine rr_iadd dX5_isWord_41 ?_
              refine rr_aload_n 0 rfl rfl dX5_isWord_42 ?_
              refine rr_getI dX5_isWord_43 fX5_22 lo_13 sh_13 rfl ?_
              refine rr_icmp_ge dX5_isWord_46 (fun c7 => ?_) (fun c7 => ?_)
              · skip
                refine rr_iconst 1 rfl dX5_isWord_76 ?_
                refine rr_nreturn dX5_isWord_77 rfl (by first | rfl | assumption) ?_
                simpa only [vX5_isWord_19, if_pos c1, if_pos c2, if_neg c3, if_pos c4, if_neg c5, if_pos c6, if_pos c7] using kq
              · skip
                refine rr_aload_n 0 rfl rfl dX5_isWord_49 ?_
                refine rr_getR dX5_isWord_50 fX5_9 lo_13 sh_13 rfl ?_
                refine rr_aload_n 0 rfl rfl dX5_isWord_53 ?_
                refine rr_getI dX5_isWord_54 fX5_34 lo_13 sh_13 rfl ?_
                refine rr_iload_n 2 rfl rfl dX5_isWord_57 ?_
                refine rr_iadd dX5_isWord_58 ?_
                refine rr_baload dX5_isWord_59 lo_14 sh_14 (rd_at (k := 2) rfl (by decide) ho (by assumption)) ?_
                refine rr_aload_n 1 rfl rfl dX5_isWord_60 ?_
                refine rr_iload_n 2 rfl rfl dX5_isWord_61 ?_
                refine rr_callT (As := [.int 2]) (rest := [.int ((h 14) ((((h 13) 6) + 2) : Int32).toNatClampNeg)]) (kc2 := 0) (ks2 := 0) dX5_isWord_62 okJ_charAt lX5_49 (i9 := 19) rfl rfl rfl (Nat.le_of_ble_eq_true rfl) (Nat.le_of_ble_eq_true rfl) rfl (by omega) (by simp [jj_rk]) (by simp [jj_rk]) ?_
                refine sp_ch_19_2  ?_
                show jj_R _ _ kc ks (jj_S, 782, h, g) 65 [(0, .ref 13), (1, .ref (1000000 + 19)), (2, .int 2)] [.int 121, .int ((h 14) ((((h 13) 6) + 2) : Int32).toNatClampNeg)] Q
                refine rr_icmp_eq dX5_isWord_65 (fun c8 => ?_) (fun c8 => ?_)
                · skip
                  refine rr_iinc 2 1 [(0, .ref 13), (1, .ref (1000000 + 19)), (2, .int 3)] dX5_isWord_70 rfl rfl (by decide) rfl ?_
                  refine rr_goto dX5_isWord_73 ?_
                  refine rr_iload_n 2 rfl rfl dX5_isWord_28 ?_
                  refine rr_aload_n 1 rfl rfl dX5_isWord_29 ?_
                  refine rr_callT (As := []) (rest := [.int 3]) (kc2 := 0) (ks2 := 0) dX5_isWord_30 okJ_length lX5_44 (i9 := 19) rfl rfl rfl (Nat.le_of_ble_eq_true rfl) (Nat.le_of_ble_eq_true rfl) rfl (by omega) (by simp [jj_rk]) (by simp [jj_rk]) ?_
                  refine sp_len_19  ?_
                  show jj_R _ _ kc ks (jj_S, 782, h, g) 33 [(0, .ref 13), (1, .ref (1000000 + 19)), (2, .int 3)] [.int 3, .int 3] Q
                  refine rr_icmp_ge dX5_isWord_33 (fun _ => ?_) (fun c => absurd (by decide) c)
                  refine rr_iconst 1 rfl dX5_isWord_76 ?_
                  refine rr_nreturn dX5_isWord_77 rfl (by first | rfl | assumption) ?_
                  simpa only [vX5_isWord_19, if_pos c1, if_pos c2, if_neg c3, if_pos c4, if_neg c5, if_pos c6, if_neg c7, if_pos c8] using kq
                · skip
                  refine rr_iconst 0 rfl dX5_isWord_68 ?_
                  refine rr_nreturn dX5_isWord_69 rfl (by first | rfl | assumption) ?_
                  simpa only [vX5_isWord_19, if_pos c1, if_pos c2, if_neg c3, if_pos c4, if_neg c5, if_pos c6, if_neg c7, if_neg c8] using kq
            · skip
              refine rr_iconst 0 rfl dX5_isWord_68 ?_
              refine rr_nreturn dX5_isWord_69 rfl (by first | rfl | assumption) ?_
              simpa only [vX5_isWord_19, if_pos c1, if_pos c2, if_neg c3, if_pos c4, if_neg c5, if_neg c6] using kq
        · skip
          refine rr_iconst 0 rfl dX5_isWord_68 ?_
          refine rr_nreturn dX5_isWord_69 rfl (by first | rfl | assumption) ?_
          simpa only [vX5_isWord_19, if_pos c1, if_pos c2, if_neg c3, if_neg c4] using kq
    · skip
      refine rr_iconst 0 rfl dX5_isWord_24 ?_
      refine rr_nreturn dX5_isWord_25 rfl (by first | rfl | assumption) ?_
      simpa only [vX5_isWord_19, if_pos c1, if_neg c2] using kq
def vX5_isWord_20 (r13 : Nat → Int32) (r14 : Nat → Int32) : Int32 := (if (r13 4) = 2 then (if ((r13 3) - (r13 6)) = 5 then (if (r13 2) ≤ ((r13 6) + 0) then 1 else (if (r14 (((r13 6) + 0) : Int32).toNatClampNeg) = 97 then (if (r13 2) ≤ ((r13 6) + 1) then 1 else (if (r14 (((r13 6) + 1) : Int32).toNatClampNeg) = 103 then (if (r13 2) ≤ ((r13 6) + 2) then 1 else (if (r14 (((r13 6) + 2) : Int32).toNatClampNeg) = 97 then (if (r13 2) ≤ ((r13 6) + 3) then 1 else (if (r14 (((r13 6) + 3) : Int32).toNatClampNeg) = 105 then (if (r13 2) ≤ ((r13 6) + 4) then 1 else (if (r14 (((r13 6) + 4) : Int32).toNatClampNeg) = 110 then 1 else 0)) else 0)) else 0)) else 0)) else 0)) else 0) else 0)
set_option maxHeartbeats 1000000 in
theorem sp_X5_isWord_20 {d kc ks : Nat} {h : Nat → Nat → Int32} {g : Nat → Nat → Int64} {Q : jj_Rs → jj_St → Prop}  (ho : rdat (h 13)) (kq : Q (.inl (some (.int (vX5_isWord_20 (h 13) (h 14))))) (jj_S, 782, h, g)) : jj_R mX5_isWord (d + 4) kc ks (jj_S, 782, h, g) 0 [(0, .ref 13), (1, .ref (1000000 + 20))] [] Q := by
  refine rr_aload_n 0 rfl rfl dX5_isWord_0 ?_
  refine rr_getI dX5_isWord_1 fX5_37 lo_13 sh_13 rfl ?_
  refine rr_iconst 2 rfl dX5_isWord_4 ?_
  refine rr_icmp_ne dX5_isWord_5 (fun c1 => ?_) (fun c1 => ?_)
  · skip
    refine rr_iconst 0 rfl dX5_isWord_24 ?_
    refine rr_nreturn dX5_isWord_25 rfl (by first | rfl | assumption) ?_
    simpa only [vX5_isWord_20, if_neg c1] using kq
  · skip
    refine rr_aload_n 0 rfl rfl dX5_isWord_8 ?_
    refine rr_getI dX5_isWord_9 fX5_25 lo_13 sh_13 rfl ?_
    refine rr_aload_n 0 rfl rfl dX5_isWord_12 ?_
    refine rr_getI dX5_isWord_13 fX5_34 lo_13 sh_13 rfl ?_
    refine rr_isub dX5_isWord_16 ?_
    refine rr_aload_n 1 rfl rfl dX5_isWord_17 ?_
    refine rr_callT (As := []) (rest := [.int (((h 13) 3) - ((h 13) 6))]) (kc2 := 0) (ks2 := 0) dX5_isWord_18 okJ_length lX5_44 (i9 := 20) rfl rfl rfl (Nat.le_of_ble_eq_true rfl) (Nat.le_of_ble_eq_true rfl) rfl (by omega) (by simp [jj_rk]) (by simp [jj_rk]) ?_
    refine sp_len_20  ?_
    show jj_R _ _ kc ks (jj_S, 782, h, g) 21 [(0, .ref 13), (1, .ref (1000000 + 20))] [.int 5, .int (((h 13) 3) - ((h 13) 6))] Q
    refine rr_icmp_eq dX5_isWord_21 (fun c2 => ?_) (fun c2 => ?_)
    · skip
      refine rr_iconst 0 rfl dX5_isWord_26 ?_
      refine rr_istore_n [(0, .ref 13), (1, .ref (1000000 + 20)), (2, .int 0)] dX5_isWord_27 rfl (by decide) rfl ?_
      refine rr_iload_n 2 rfl rfl dX5_isWord_28 ?_
      refine rr_aload_n 1 rfl rfl dX5_isWord_29 ?_
      refine rr_callT (As := []) (rest := [.int 0]) (kc2 := 0) (ks2 := 0) dX5_isWord_30 okJ_length lX5_44 (i9 := 20) rfl rfl rfl (Nat.le_of_ble_eq_true rfl) (Nat.le_of_ble_eq_true rfl) rfl (by omega) (by simp [jj_rk]) (by simp [jj_rk]) ?_
      refine sp_len_20  ?_
      show jj_R _ _ kc ks (jj_S, 782, h, g) 33 [(0, .ref 13), (1, .ref (1000000 + 20)), (2, .int 0)] [.int 5, .int 0] Q
      refine rr_icmp_ge dX5_isWord_33 (fun c => absurd c (by decide)) (fun _ => ?_)
      refine rr_aload_n 0 rfl rfl dX5_isWord_36 ?_
      refine rr_getI dX5_isWord_37 fX5_34 lo_13 sh_13 rfl ?_
      refine rr_iload_n 2 rfl rfl dX5_isWord_40 ?_
      refine rr_iadd dX5_isWord_41 ?_
      refine rr_aload_n 0 rfl rfl dX5_isWord_42 ?_
      refine rr_getI dX5_isWord_43 fX5_22 lo_13 sh_13 rfl ?_
      refine rr_icmp_ge dX5_isWord_46 (fun c3 => ?_) (fun c3 => ?_)
      · skip
        refine rr_iconst 1 rfl dX5_isWord_76 ?_
        refine rr_nreturn dX5_isWord_77 rfl (by first | rfl | assumption) ?_
        simpa only [vX5_isWord_20, if_pos c1, if_pos c2, if_pos c3] using kq
      · skip
        refine rr_aload_n 0 rfl rfl dX5_isWord_49 ?_
        refine rr_getR dX5_isWord_50 fX5_9 lo_13 sh_13 rfl ?_
        refine rr_aload_n 0 rfl rfl dX5_isWord_53 ?_
        refine rr_getI dX5_isWord_54 fX5_34 lo_13 sh_13 rfl ?_
        refine rr_iload_n 2 rfl rfl dX5_isWord_57 ?_
        refine rr_iadd dX5_isWord_58 ?_
        refine rr_baload dX5_isWord_59 lo_14 sh_14 (rd_at (k := 0) rfl (by decide) ho (by assumption)) ?_
        refine rr_aload_n 1 rfl rfl dX5_isWord_60 ?_
        refine rr_iload_n 2 rfl rfl dX5_isWord_61 ?_
        refine rr_callT (As := [.int 0]) (rest := [.int ((h 14) ((((h 13) 6) + 0) : Int32).toNatClampNeg)]) (kc2 := 0) (ks2 := 0) dX5_isWord_62 okJ_charAt lX5_49 (i9 := 20) rfl rfl rfl (Nat.le_of_ble_eq_true rfl) (Nat.le_of_ble_eq_true rfl) rfl (by omega) (by simp [jj_rk]) (by simp [jj_rk]) ?_
        refine sp_ch_20_0  ?_
        show jj_R _ _ kc ks (jj_S, 782, h, g) 65 [(0, .ref 13), (1, .ref (1000000 + 20)), (2, .int 0)] [.int 97, .int ((h 14) ((((h 13) 6) + 0) : Int32).toNatClampNeg)] Q
        refine rr_icmp_eq dX5_isWord_65 (fun c4 => ?_) (fun c4 => ?_)
        · skip
          refine rr_iinc 2 1 [(0, .ref 13), (1, .ref (1000000 + 20)), (2, .int 1)] dX5_isWord_70 rfl rfl (by decide) rfl ?_
          refine rr_goto dX5_isWord_73 ?_
          refine rr_iload_n 2 rfl rfl dX5_isWord_28 ?_
          refine rr_aload_n 1 rfl rfl dX5_isWord_29 ?_
          refine rr_callT (As := []) (rest := [.int 1]) (kc2 := 0) (ks2 := 0) dX5_isWord_30 okJ_length lX5_44 (i9 := 20) rfl rfl rfl (Nat.le_of_ble_eq_true rfl) (Nat.le_of_ble_eq_true rfl) rfl (by omega) (by simp [jj_rk]) (by simp [jj_rk]) ?_
          refine sp_len_20  ?_
          show jj_R _ _ kc ks (jj_S, 782, h, g) 33 [(0, .ref 13), (1, .ref (1000000 + 20)), (2, .int 1)] [.int 5, .int 1] Q
          refine rr_icmp_ge dX5_isWord_33 (fun c => absurd c (by decide)) (fun _ => ?_)
          refine rr_aload_n 0 rfl rfl dX5_isWord_36 ?_
          refine rr_getI dX5_isWord_37 fX5_34 lo_13 sh_13 rfl ?_
          refine rr_iload_n 2 rfl rfl dX5_isWord_40 ?_
          refine rr_iadd dX5_isWord_41 ?_
          refine rr_aload_n 0 rfl rfl dX5_isWord_42 ?_
          refine rr_getI dX5_isWord_43 fX5_22 lo_13 sh_13 rfl ?_
          refine rr_icmp_ge dX5_isWord_46 (fun c5 => ?_) (fun c5 => ?_)
          · skip
            refine rr_iconst 1 rfl dX5_isWord_76 ?_
            refine rr_nreturn dX5_isWord_77 rfl (by first | rfl | assumption) ?_
            simpa only [vX5_isWord_20, if_pos c1, if_pos c2, if_neg c3, if_pos c4, if_pos c5] using kq
          · skip
            refine rr_aload_n 0 rfl rfl dX5_isWord_49 ?_
            refine rr_getR dX5_isWord_50 fX5_9 lo_13 sh_13 rfl ?_
            refine rr_aload_n 0 rfl rfl dX5_isWord_53 ?_
            refine rr_getI dX5_isWord_54 fX5_34 lo_13 sh_13 rfl ?_
            refine rr_iload_n 2 rfl rfl dX5_isWord_57 ?_
            refine rr_iadd dX5_isWord_58 ?_
            refine rr_baload dX5_isWord_59 lo_14 sh_14 (rd_at (k := 1) rfl (by decide) ho (by assumption)) ?_
            refine rr_aload_n 1 rfl rfl dX5_isWord_60 ?_
            refine rr_iload_n 2 rfl rfl dX5_isWord_61 ?_
            refine rr_callT (As := [.int 1]) (rest := [.int ((h 14) ((((h 13) 6) + 1) : Int32).toNatClampNeg)]) (kc2 := 0) (ks2 := 0) dX5_isWord_62 okJ_charAt lX5_49 (i9 := 20) rfl rfl rfl (Nat.le_of_ble_eq_true rfl) (Nat.le_of_ble_eq_true rfl) rfl (by omega) (by simp [jj_rk]) (by simp [jj_rk]) ?_
            refine sp_ch_20_1  ?_
            show jj_R _ _ kc ks (jj_S, 782, h, g) 65 [(0, .ref 13), (1, .ref (1000000 + 20)), (2, .int 1)] [.int 103, .int ((h 14) ((((h 13) 6) + 1) : Int32).toNatClampNeg)] Q
            refine rr_icmp_eq dX5_isWord_65 (fun c6 => ?_) (fun c6 => ?_)
            · skip
              refine rr_iinc 2 1 [(0, .ref 13), (1, .ref (1000000 + 20)), (2, .int 2)] dX5_isWord_70 rfl rfl (by decide) rfl ?_
              refine rr_goto dX5_isWord_73 ?_
              refine rr_iload_n 2 rfl rfl dX5_isWord_28 ?_
              refine rr_aload_n 1 rfl rfl dX5_isWord_29 ?_
              refine rr_callT (As := []) (rest := [.int 2]) (kc2 := 0) (ks2 := 0) dX5_isWord_30 okJ_length lX5_44 (i9 := 20) rfl rfl rfl (Nat.le_of_ble_eq_true rfl) (Nat.le_of_ble_eq_true rfl) rfl (by omega) (by simp [jj_rk]) (by simp [jj_rk]) ?_
              refine sp_len_20  ?_
              show jj_R _ _ kc ks (jj_S, 782, h, g) 33 [(0, .ref 13), (1, .ref (1000000 + 20)), (2, .int 2)] [.int 5, .int 2] Q
              refine rr_icmp_ge dX5_isWord_33 (fun c => absurd c (by decide)) (fun _ => ?_)
              refine rr_aload_n 0 rfl rfl dX5_isWord_36 ?_
              refine rr_getI dX5_isWord_37 fX5_34 lo_13 sh_13 rfl ?_
              refine rr_iload_n 2 rfl rfl dX5_isWord_40 ?_
              refine rr_iadd dX5_isWord_41 ?_
              refine rr_aload_n 0 rfl rfl dX5_isWord_42 ?_
              refine rr_getI dX5_isWord_43 fX5_22 lo_13 sh_13 rfl ?_
              refine rr_icmp_ge dX5_isWord_46 (fun c7 => ?_) (fun c7 => ?_)
              · skip
                refine rr_iconst 1 rfl dX5_isWord_76 ?_
                refine rr_nreturn dX5_isWord_77 rfl (by first | rfl | assumption) ?_
                simpa only [vX5_isWord_20, if_pos c1, if_pos c2, if_neg c3, if_pos c4, if_neg c5, if_pos c6, if_pos c7] using kq
              · skip
                refine rr_aload_n 0 rfl rfl dX5_isWord_49 ?_
                refine rr_getR dX5_isWord_50 fX5_9 lo_13 sh_13 rfl ?_
                refine rr_aload_n 0 rfl rfl dX5_isWord_53 ?_
                refine rr_getI dX5_isWord_54 fX5_34 lo_13 sh_13 rfl ?_
                refine rr_iload_n 2 rfl rfl dX5_isWord_57 ?_
                refine rr_iadd dX5_isWord_58 ?_
                refine rr_baload dX5_isWord_59 lo_14 sh_14 (rd_at (k := 2) rfl (by decide) ho (by assumption)) ?_
                refine rr_aload_n 1 rfl rfl dX5_isWord_60 ?_
                refine rr_iload_n 2 rfl rfl dX5_isWord_61 ?_
                refine rr_callT (As := [.int 2]) (rest := [.int ((h 14) ((((h 13) 6) + 2) : Int32).toNatClampNeg)]) (kc2 := 0) (ks2 := 0) dX5_isWord_62 okJ_charAt lX5_49 (i9 := 20) rfl rfl rfl (Nat.le_of_ble_eq_true rfl) (Nat.le_of_ble_eq_true rfl) rfl (by omega) (by simp [jj_rk]) (by simp [jj_rk]) ?_
                refine sp_ch_20_2  ?_
                show jj_R _ _ kc ks (jj_S, 782, h, g) 65 [(0, .ref 13), (1, .ref (1000000 + 20)), (2, .int 2)] [.int 97, .int ((h 14) ((((h 13) 6) + 2) : Int32).toNatClampNeg)] Q
                refine rr_icmp_eq dX5_isWord_65 (fun c8 => ?_) (fun c8 => ?_)
                · skip
                  refine rr_iinc 2 1 [(0, .ref 13), (1, .ref (1000000 + 20)), (2, .int 3)] dX5_isWord_70 rfl rfl (by decide) rfl ?_
                  refine rr_goto dX5_isWord_73 ?_
                  refine rr_iload_n 2 rfl rfl dX5_isWord_28 ?_
                  refine rr_aload_n 1 rfl rfl dX5_isWord_29 ?_
                  refine rr_callT (As := []) (rest := [.int 3]) (kc2 := 0) (ks2 := 0) dX5_isWord_30 okJ_length lX5_44 (i9 := 20) rfl rfl rfl (Nat.le_of_ble_eq_true rfl) (Nat.le_of_ble_eq_true rfl) rfl (by omega) (by simp [jj_rk]) (by simp [jj_rk]) ?_
                  refine sp_len_20  ?_
                  show jj_R _ _ kc ks (jj_S, 782, h, g) 33 [(0, .ref 13), (1, .ref (1000000 + 20)), (2, .int 3)] [.int 5, .int 3] Q
                  refine rr_icmp_ge dX5_isWord_33 (fun c => absurd c (by decide)) (fun _ => ?_)
                  refine rr_aload_n 0 rfl rfl dX5_isWord_36 ?_
                  refine rr_getI dX5_isWord_37 fX5_34 lo_13 sh_13 rfl ?_
                  refine rr_iload_n 2 rfl rfl dX5_isWord_40 ?_
                  refine rr_iadd dX5_isWord_41 ?_
                  refine rr_aload_n 0 rfl rfl dX5_isWord_42 ?_
                  refine rr_getI dX5_isWord_43 fX5_22 lo_13 sh_13 rfl ?_
                  refine rr_icmp_ge dX5_isWord_46 (fun c9 => ?_) (fun c9 => ?_)
                  · skip
                    refine rr_iconst 1 rfl dX5_isWord_76 ?_
                    refine rr_nreturn dX5_isWord_77 rfl (by first | rfl | assumption) ?_
                    simpa only [vX5_isWord_20, if_pos c1, if_pos c2, if_neg c3, if_pos c4, if_neg c5, if_pos c6, if_neg c7, if_pos c8, if_pos c9] using kq
                  · skip
                    refine rr_aload_n 0 rfl rfl dX5_isWord_49 ?_
                    refine rr_getR dX5_isWord_50 fX5_9 lo_13 sh_13 rfl ?_
                    refine rr_aload_n 0 rfl rfl dX5_isWord_53 ?_
                    refine rr_getI dX5_isWord_54 fX5_34 lo_13 sh_13 rfl ?_
                    refine rr_iload_n 2 rfl rfl dX5_isWord_57 ?_
                    refine rr_iadd dX5_isWord_58 ?_
                    refine rr_baload dX5_isWord_59 lo_14 sh_14 (rd_at (k := 3) rfl (by decide) ho (by assumption)) ?_
                    refine rr_aload_n 1 rfl rfl dX5_isWord_60 ?_
                    refine rr_iload_n 2 rfl rfl dX5_isWord_61 ?_
                    refine rr_callT (As := [.int 3]) (rest := [.int ((h 14) ((((h 13) 6) + 3) : Int32).toNatClampNeg)]) (kc2 := 0) (ks2 := 0) dX5_isWord_62 okJ_charAt lX5_49 (i9 := 20) rfl rfl rfl (Nat.le_of_ble_eq_true rfl) (Nat.le_of_ble_eq_true rfl) rfl (by omega) (by simp [jj_rk]) (by simp [jj_rk]) ?_
                    refine sp_ch_20_3  ?_
                    show jj_R _ _ kc ks (jj_S, 782, h, g) 65 [(0, .ref 13), (1, .ref (1000000 + 20)), (2, .int 3)] [.int 105, .int ((h 14) ((((h 13) 6) + 3) : Int32).toNatClampNeg)] Q
                    refine rr_icmp_eq dX5_isWord_65 (fun c10 => ?_) (fun c10 => ?_)
                    · skip
                      refine rr_iinc 2 1 [(0, .ref 13), (1, .ref (1000000 + 20)), (2, .int 4)] dX5_isWord_70 rfl rfl (by decide) rfl ?_
                      refine rr_goto dX5_isWord_73 ?_
                      refine rr_iload_n 2 rfl rfl dX5_isWord_28 ?_
                      refine rr_aload_n 1 rfl rfl dX5_isWord_29 ?_
                      refine rr_callT (As := []) (rest := [.int 4]) (kc2 := 0) (ks2 := 0) dX5_isWord_30 okJ_length lX5_44 (i9 := 20) rfl rfl rfl (Nat.le_of_ble_eq_true rfl) (Nat.le_of_ble_eq_true rfl) rfl (by omega) (by simp [jj_rk]) (by simp [jj_rk]) ?_
                      refine sp_len_20  ?_
                      show jj_R _ _ kc ks (jj_S, 782, h, g) 33 [(0, .ref 13), (1, .ref (1000000 + 20)), (2, .int 4)] [.int 5, .int 4] Q
                      refine rr_icmp_ge dX5_isWord_33 (fun c => absurd c (by decide)) (fun _ => ?_)
                      refine rr_aload_n 0 rfl rfl dX5_isWord_36 ?_
                      refine rr_getI dX5_isWord_37 fX5_34 lo_13 sh_13 rfl ?_
                      refine rr_iload_n 2 rfl rfl dX5_isWord_40 ?_
                      refine rr_iadd dX5_isWord_41 ?_
                      refine rr_aload_n 0 rfl rfl dX5_isWord_42 ?_
                      refine rr_getI dX5_isWord_43 fX5_22 lo_13 sh_13 rfl ?_
                      refine rr_icmp_ge dX5_isWord_46 (fun c11 => ?_) (fun c11 => ?_)
                      · skip
                        refine rr_iconst 1 rfl dX5_isWord_76 ?_
                        refine rr_nreturn dX5_isWord_77 rfl (by first | rfl | assumption) ?_
                        simpa only [vX5_isWord_20, if_pos c1, if_pos c2, if_neg c3, if_pos c4, if_neg c5, if_pos c6, if_neg c7, if_pos c8, if_neg c9, if_pos c10, if_pos c11] using kq
                      · skip
                        refine rr_aload_n 0 rfl rfl dX5_isWord_49 ?_
                        refine rr_getR dX5_isWord_50 fX5_9 lo_13 sh_13 rfl ?_
                        refine rr_aload_n 0 rfl rfl dX5_isWord_53 ?_
                        refine rr_getI dX5_isWord_54 fX5_34 lo_13 sh_13 rfl ?_
                        refine rr_iload_n 2 rfl rfl dX5_isWord_57 ?_
                        refine rr_iadd dX5_isWord_58 ?_
                        refine rr_baload dX5_isWord_59 lo_14 sh_14 (rd_at (k := 4) rfl (by decide) ho (by assumption)) ?_
                        refine rr_aload_n 1 rfl rfl dX5_isWord_60 ?_
                        refine rr_iload_n 2 rfl rfl dX5_isWord_61 ?_
                        refine rr_callT (As := [.int 4]) (rest := [.int ((h 14) ((((h 13) 6) + 4) : Int32).toNatClampNeg)]) (kc2 := 0) (ks2 := 0) dX5_isWord_62 okJ_charAt lX5_49 (i9 := 20) rfl rfl rfl (Nat.le_of_ble_eq_true rfl) (Nat.le_of_ble_eq_true rfl) rfl (by omega) (by simp [jj_rk]) (by simp [jj_rk]) ?_
                        refine sp_ch_20_4  ?_
                        show jj_R _ _ kc ks (jj_S, 782, h, g) 65 [(0, .ref 13), (1, .ref (1000000 + 20)), (2, .int 4)] [.int 110, .int ((h 14) ((((h 13) 6) + 4) : Int32).toNatClampNeg)] Q
                        refine rr_icmp_eq dX5_isWord_65 (fun c12 => ?_) (fun c12 => ?_)
                        · skip
                          refine rr_iinc 2 1 [(0, .ref 13), (1, .ref (1000000 + 20)), (2, .int 5)] dX5_isWord_70 rfl rfl (by decide) rfl ?_
                          refine rr_goto dX5_isWord_73 ?_
                          refine rr_iload_n 2 rfl rfl dX5_isWord_28 ?_
                          refine rr_aload_n 1 rfl rfl dX5_isWord_29 ?_
                          refine rr_callT (As := []) (rest := [.int 5]) (kc2 := 0) (ks2 := 0) dX5_isWord_30 okJ_length lX5_44 (i9 := 20) rfl rfl rfl (Nat.le_of_ble_eq_true rfl) (Nat.le_of_ble_eq_true rfl) rfl (by omega) (by simp [jj_rk]) (by simp [jj_rk]) ?_
                          refine sp_len_20  ?_
                          show jj_R _ _ kc ks (jj_S, 782, h, g) 33 [(0, .ref 13), (1, .ref (1000000 + 20)), (2, .int 5)] [.int 5, .int 5] Q
                          refine rr_icmp_ge dX5_isWord_33 (fun _ => ?_) (fun c => absurd (by decide) c)
                          refine rr_iconst 1 rfl dX5_isWord_76 ?_
                          refine rr_nreturn dX5_isWord_77 rfl (by first | rfl | assumption) ?_
                          simpa only [vX5_isWord_20, if_pos c1, if_pos c2, if_neg c3, if_pos c4, if_neg c5, if_pos c6, if_neg c7, if_pos c8, if_neg c9, if_pos c10, if_neg c11, if_pos c12] using kq
                        · skip
                          refine rr_iconst 0 rfl dX5_isWord_68 ?_
                          refine rr_nreturn dX5_isWord_69 rfl (by first | rfl | assumption) ?_
                          simpa only [vX5_isWord_20, if_pos c1, if_pos c2, if_neg c3, if_pos c4, if_neg c5, if_pos c6, if_neg c7, if_pos c8, if_neg c9, if_pos c10, if_neg c11, if_neg c12] using kq
                    · skip
                      refine rr_iconst 0 rfl dX5_isWord_68 ?_
                      refine rr_nreturn dX5_isWord_69 rfl (by first | rfl | assumption) ?_
                      simpa only [vX5_isWord_20, if_pos c1, if_pos c2, if_neg c3, if_pos c4, if_neg c5, if_pos c6, if_neg c7, if_pos c8, if_neg c9, if_neg c10] using kq
                · skip
                  refine rr_iconst 0 rfl dX5_isWord_68 ?_
                  refine rr_nreturn dX5_isWord_69 rfl (by first | rfl | assumption) ?_
                  simpa only [vX5_isWord_20, if_pos c1, if_pos c2, if_neg c3, if_pos c4, if_neg c5, if_pos c6, if_neg c7, if_neg c8] using kq
            · skip
              refine rr_iconst 0 rfl dX5_isWord_68 ?_
              refine rr_nreturn dX5_isWord_69 rfl (by first | rfl | assumption) ?_
              simpa only [vX5_isWord_20, if_pos c1, if_pos c2, if_neg c3, if_pos c4, if_neg c5, if_neg c6] using kq
        · skip
          refine rr_iconst 0 rfl dX5_isWord_68 ?_
          refine rr_nreturn dX5_isWord_69 rfl (by first | rfl | assumption) ?_
          simpa only [vX5_isWord_20, if_pos c1, if_pos c2, if_neg c3, if_neg c4] using kq
    · skip
      refine rr_iconst 0 rfl dX5_isWord_24 ?_
      refine rr_nreturn dX5_isWord_25 rfl (by first | rfl | assumption) ?_
      simpa only [vX5_isWord_20, if_pos c1, if_neg c2] using kq
