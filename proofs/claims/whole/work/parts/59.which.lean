def vX4_valueOf (r13 : Nat → Int32) (r14 : Nat → Int32) : Int32 := (if (vX5_isWord_4 r13 r14) = 0 then (if (vX5_isWord_5 r13 r14) = 0 then (if (vX5_isWord_6 r13 r14) = 0 then (if (vX5_isWord_7 r13 r14) = 0 then (if (vX5_isWord_8 r13 r14) = 0 then (if (vX5_isWord_9 r13 r14) = 0 then (if (vX5_isWord_10 r13 r14) = 0 then (if (vX5_isWord_11 r13 r14) = 0 then (-1) else 7) else 6) else 5) else 4) else 3) else 2) else 1) else 0)
set_option maxHeartbeats 1000000 in
theorem sp_X4_valueOf {d kc ks : Nat} {h : Nat → Nat → Int32} {g : Nat → Nat → Int64} {Q : jj_Rs → jj_St → Prop}  (ho : rdat (h 13)) (kq : Q (.inl (some (.int (vX4_valueOf (h 13) (h 14))))) (jj_S, 782, h, g)) : jj_R mX4_valueOf (d + 5) kc ks (jj_S, 782, h, g) 0 [(0, .ref 13)] [] Q := by
  refine rr_aload_n 0 rfl rfl dX4_valueOf_0 ?_
  refine rr_ldcS 4 rfl dX4_valueOf_1 ?_
  refine rr_callV (As := [.ref (1000000 + 4)]) (rest := []) (kc2 := 0) (ks2 := 0) dX4_valueOf_3 okX5_isWord lX4_87 lo_13 sh_13 rfl rfl (Nat.le_of_ble_eq_true rfl) (Nat.le_of_ble_eq_true rfl) rfl (by omega) (by simp [jj_rk]) (by simp [jj_rk]) ?_
  refine sp_X5_isWord_4 ho ?_
  show jj_R _ _ kc ks (jj_S, 782, h, g) 6 [(0, .ref 13)] [.int (vX5_isWord_4 (h 13) (h 14))] Q
  refine rr_if_eq dX4_valueOf_6 (fun c1 => ?_) (fun c1 => ?_)
  · skip
    refine rr_aload_n 0 rfl rfl dX4_valueOf_13 ?_
    refine rr_ldcS 5 rfl dX4_valueOf_14 ?_
    refine rr_callV (As := [.ref (1000000 + 5)]) (rest := []) (kc2 := 0) (ks2 := 0) dX4_valueOf_16 okX5_isWord lX4_87 lo_13 sh_13 rfl rfl (Nat.le_of_ble_eq_true rfl) (Nat.le_of_ble_eq_true rfl) rfl (by omega) (by simp [jj_rk]) (by simp [jj_rk]) ?_
    refine sp_X5_isWord_5 ho ?_
    show jj_R _ _ kc ks (jj_S, 782, h, g) 19 [(0, .ref 13)] [.int (vX5_isWord_5 (h 13) (h 14))] Q
    refine rr_if_eq dX4_valueOf_19 (fun c2 => ?_) (fun c2 => ?_)
    · skip
      refine rr_aload_n 0 rfl rfl dX4_valueOf_26 ?_
      refine rr_ldcS 6 rfl dX4_valueOf_27 ?_
      refine rr_callV (As := [.ref (1000000 + 6)]) (rest := []) (kc2 := 0) (ks2 := 0) dX4_valueOf_29 okX5_isWord lX4_87 lo_13 sh_13 rfl rfl (Nat.le_of_ble_eq_true rfl) (Nat.le_of_ble_eq_true rfl) rfl (by omega) (by simp [jj_rk]) (by simp [jj_rk]) ?_
      refine sp_X5_isWord_6 ho ?_
      show jj_R _ _ kc ks (jj_S, 782, h, g) 32 [(0, .ref 13)] [.int (vX5_isWord_6 (h 13) (h 14))] Q
      refine rr_if_eq dX4_valueOf_32 (fun c3 => ?_) (fun c3 => ?_)
      · skip
        refine rr_aload_n 0 rfl rfl dX4_valueOf_39 ?_
        refine rr_ldcS 7 rfl dX4_valueOf_40 ?_
        refine rr_callV (As := [.ref (1000000 + 7)]) (rest := []) (kc2 := 0) (ks2 := 0) dX4_valueOf_42 okX5_isWord lX4_87 lo_13 sh_13 rfl rfl (Nat.le_of_ble_eq_true rfl) (Nat.le_of_ble_eq_true rfl) rfl (by omega) (by simp [jj_rk]) (by simp [jj_rk]) ?_
        refine sp_X5_isWord_7 ho ?_
        show jj_R _ _ kc ks (jj_S, 782, h, g) 45 [(0, .ref 13)] [.int (vX5_isWord_7 (h 13) (h 14))] Q
        refine rr_if_eq dX4_valueOf_45 (fun c4 => ?_) (fun c4 => ?_)
        · skip
          refine rr_aload_n 0 rfl rfl dX4_valueOf_52 ?_
          refine rr_ldcS 8 rfl dX4_valueOf_53 ?_
          refine rr_callV (As := [.ref (1000000 + 8)]) (rest := []) (kc2 := 0) (ks2 := 0) dX4_valueOf_55 okX5_isWord lX4_87 lo_13 sh_13 rfl rfl (Nat.le_of_ble_eq_true rfl) (Nat.le_of_ble_eq_true rfl) rfl (by omega) (by simp [jj_rk]) (by simp [jj_rk]) ?_
          refine sp_X5_isWord_8 ho ?_
          show jj_R _ _ kc ks (jj_S, 782, h, g) 58 [(0, .ref 13)] [.int (vX5_isWord_8 (h 13) (h 14))] Q
          refine rr_if_eq dX4_valueOf_58 (fun c5 => ?_) (fun c5 => ?_)
          · skip
            refine rr_aload_n 0 rfl rfl dX4_valueOf_65 ?_
            refine rr_ldcS 9 rfl dX4_valueOf_66 ?_
            refine rr_callV (As := [.ref (1000000 + 9)]) (rest := []) (kc2 := 0) (ks2 := 0) dX4_valueOf_68 okX5_isWord lX4_87 lo_13 sh_13 rfl rfl (Nat.le_of_ble_eq_true rfl) (Nat.le_of_ble_eq_true rfl) rfl (by omega) (by simp [jj_rk]) (by simp [jj_rk]) ?_
            refine sp_X5_isWord_9 ho ?_
            show jj_R _ _ kc ks (jj_S, 782, h, g) 71 [(0, .ref 13)] [.int (vX5_isWord_9 (h 13) (h 14))] Q
            refine rr_if_eq dX4_valueOf_71 (fun c6 => ?_) (fun c6 => ?_)
            · skip
              refine rr_aload_n 0 rfl rfl dX4_valueOf_78 ?_
              refine rr_ldcS 10 rfl dX4_valueOf_79 ?_
              refine rr_callV (As := [.ref (1000000 + 10)]) (rest := []) (kc2 := 0) (ks2 := 0) dX4_valueOf_81 okX5_isWord lX4_87 lo_13 sh_13 rfl rfl (Nat.le_of_ble_eq_true rfl) (Nat.le_of_ble_eq_true rfl) rfl (by omega) (by simp [jj_rk]) (by simp [jj_rk]) ?_
              refine sp_X5_isWord_10 ho ?_
              show jj_R _ _ kc ks (jj_S, 782, h, g) 84 [(0, .ref 13)] [.int (vX5_isWord_10 (h 13) (h 14))] Q
              refine rr_if_eq dX4_valueOf_84 (fun c7 => ?_) (fun c7 => ?_)
              · skip
                refine rr_aload_n 0 rfl rfl dX4_valueOf_92 ?_
                refine rr_ldcS 11 rfl dX4_valueOf_93 ?_
                refine rr_callV (As := [.ref (1000000 + 11)]) (rest := []) (kc2 := 0) (ks2 := 0) dX4_valueOf_95 okX5_isWord lX4_87 lo_13 sh_13 rfl rfl (Nat.le_of_ble_eq_true rfl) (Nat.le_of_ble_eq_true rfl) rfl (by omega) (by simp [jj_rk]) (by simp [jj_rk]) ?_
                refine sp_X5_isWord_11 ho ?_
                show jj_R _ _ kc ks (jj_S, 782, h, g) 98 [(0, .ref 13)] [.int (vX5_isWord_11 (h 13) (h 14))] Q
                refine rr_if_eq dX4_valueOf_98 (fun c8 => ?_) (fun c8 => ?_)
                · skip
                  refine rr_iconst (-1) rfl dX4_valueOf_106 ?_
                  refine rr_ireturn dX4_valueOf_107 rfl ?_
                  simpa only [vX4_valueOf, if_pos c1, if_pos c2, if_pos c3, if_pos c4, if_pos c5, if_pos c6, if_pos c7, if_pos c8] using kq
                · skip
                  refine rr_bipush 7 rfl dX4_valueOf_101 ?_
                  refine rr_goto dX4_valueOf_103 ?_
                  refine rr_ireturn dX4_valueOf_107 rfl ?_
                  simpa only [vX4_valueOf, if_pos c1, if_pos c2, if_pos c3, if_pos c4, if_pos c5, if_pos c6, if_pos c7, if_neg c8] using kq
              · skip
                refine rr_bipush 6 rfl dX4_valueOf_87 ?_
                refine rr_goto dX4_valueOf_89 ?_
                refine rr_ireturn dX4_valueOf_107 rfl ?_
                simpa only [vX4_valueOf, if_pos c1, if_pos c2, if_pos c3, if_pos c4, if_pos c5, if_pos c6, if_neg c7] using kq
            · skip
              refine rr_iconst 5 rfl dX4_valueOf_74 ?_
              refine rr_goto dX4_valueOf_75 ?_
              refine rr_ireturn dX4_valueOf_107 rfl ?_
              simpa only [vX4_valueOf, if_pos c1, if_pos c2, if_pos c3, if_pos c4, if_pos c5, if_neg c6] using kq
          · skip
            refine rr_iconst 4 rfl dX4_valueOf_61 ?_
            refine rr_goto dX4_valueOf_62 ?_
            refine rr_ireturn dX4_valueOf_107 rfl ?_
            simpa only [vX4_valueOf, if_pos c1, if_pos c2, if_pos c3, if_pos c4, if_neg c5] using kq
        · skip
          refine rr_iconst 3 rfl dX4_valueOf_48 ?_
          refine rr_goto dX4_valueOf_49 ?_
          refine rr_ireturn dX4_valueOf_107 rfl ?_
          simpa only [vX4_valueOf, if_pos c1, if_pos c2, if_pos c3, if_neg c4] using kq
      · skip
        refine rr_iconst 2 rfl dX4_valueOf_35 ?_
        refine rr_goto dX4_valueOf_36 ?_
        refine rr_ireturn dX4_valueOf_107 rfl ?_
        simpa only [vX4_valueOf, if_pos c1, if_pos c2, if_neg c3] using kq
    · skip
      refine rr_iconst 1 rfl dX4_valueOf_22 ?_
      refine rr_goto dX4_valueOf_23 ?_
      refine rr_ireturn dX4_valueOf_107 rfl ?_
      simpa only [vX4_valueOf, if_pos c1, if_neg c2] using kq
  · skip
    refine rr_iconst 0 rfl dX4_valueOf_9 ?_
    refine rr_goto dX4_valueOf_10 ?_
    refine rr_ireturn dX4_valueOf_107 rfl ?_
    simpa only [vX4_valueOf, if_neg c1] using kq
def vX8_kindOf (r13 : Nat → Int32) (r14 : Nat → Int32) : Int32 := (if (vX5_isWord_14 r13 r14) = 0 then (if (vX5_isWord_15 r13 r14) = 0 then (if (vX5_isWord_16 r13 r14) = 0 then (if (vX5_isWord_17 r13 r14) = 0 then (if (vX5_isWord_18 r13 r14) = 0 then (if (vX5_isWord_19 r13 r14) = 0 then (if (vX5_isWord_20 r13 r14) = 0 then (-1) else 6) else 5) else 4) else 3) else 2) else 1) else 0)
set_option maxHeartbeats 1000000 in
theorem sp_X8_kindOf {d kc ks : Nat} {h : Nat → Nat → Int32} {g : Nat → Nat → Int64} {Q : jj_Rs → jj_St → Prop}  (ho : rdat (h 13)) (kq : Q (.inl (some (.int (vX8_kindOf (h 13) (h 14))))) (jj_S, 782, h, g)) : jj_R mX8_kindOf (d + 5) kc ks (jj_S, 782, h, g) 0 [(0, .ref 13)] [] Q := by
  refine rr_aload_n 0 rfl rfl dX8_kindOf_0 ?_
  refine rr_ldcS 14 rfl dX8_kindOf_1 ?_
  refine rr_callV (As := [.ref (1000000 + 14)]) (rest := []) (kc2 := 0) (ks2 := 0) dX8_kindOf_3 okX5_isWord lX8_71 lo_13 sh_13 rfl rfl (Nat.le_of_ble_eq_true rfl) (Nat.le_of_ble_eq_true rfl) rfl (by omega) (by simp [jj_rk]) (by simp [jj_rk]) ?_
  refine sp_X5_isWord_14 ho ?_
  show jj_R _ _ kc ks (jj_S, 782, h, g) 6 [(0, .ref 13)] [.int (vX5_isWord_14 (h 13) (h 14))] Q
  refine rr_if_eq dX8_kindOf_6 (fun c1 => ?_) (fun c1 => ?_)
  · skip
    refine rr_aload_n 0 rfl rfl dX8_kindOf_13 ?_
    refine rr_ldcS 15 rfl dX8_kindOf_14 ?_
    refine rr_callV (As := [.ref (1000000 + 15)]) (rest := []) (kc2 := 0) (ks2 := 0) dX8_kindOf_16 okX5_isWord lX8_71 lo_13 sh_13 rfl rfl (Nat.le_of_ble_eq_true rfl) (Nat.le_of_ble_eq_true rfl) rfl (by omega) (by simp [jj_rk]) (by simp [jj_rk]) ?_
    refine sp_X5_isWord_15 ho ?_
    show jj_R _ _ kc ks (jj_S, 782, h, g) 19 [(0, .ref 13)] [.int (vX5_isWord_15 (h 13) (h 14))] Q
    refine rr_if_eq dX8_kindOf_19 (fun c2 => ?_) (fun c2 => ?_)
    · skip
      refine rr_aload_n 0 rfl rfl dX8_kindOf_26 ?_
      refine rr_ldcS 16 rfl dX8_kindOf_27 ?_
      refine rr_callV (As := [.ref (1000000 + 16)]) (rest := []) (kc2 := 0) (ks2 := 0) dX8_kindOf_29 okX5_isWord lX8_71 lo_13 sh_13 rfl rfl (Nat.le_of_ble_eq_true rfl) (Nat.le_of_ble_eq_true rfl) rfl (by omega) (by simp [jj_rk]) (by simp [jj_rk]) ?_
      refine sp_X5_isWord_16 ho ?_
      show jj_R _ _ kc ks (jj_S, 782, h, g) 32 [(0, .ref 13)] [.int (vX5_isWord_16 (h 13) (h 14))] Q
      refine rr_if_eq dX8_kindOf_32 (fun c3 => ?_) (fun c3 => ?_)
      · skip
        refine rr_aload_n 0 rfl rfl dX8_kindOf_39 ?_
        refine rr_ldcS 17 rfl dX8_kindOf_40 ?_
        refine rr_callV (As := [.ref (1000000 + 17)]) (rest := []) (kc2 := 0) (ks2 := 0) dX8_kindOf_42 okX5_isWord lX8_71 lo_13 sh_13 rfl rfl (Nat.le_of_ble_eq_true rfl) (Nat.le_of_ble_eq_true rfl) rfl (by omega) (by simp [jj_rk]) (by simp [jj_rk]) ?_
        refine sp_X5_isWord_17 ho ?_
        show jj_R _ _ kc ks (jj_S, 782, h, g) 45 [(0, .ref 13)] [.int (vX5_isWord_17 (h 13) (h 14))] Q
        refine rr_if_eq dX8_kindOf_45 (fun c4 => ?_) (fun c4 => ?_)
        · skip
          refine rr_aload_n 0 rfl rfl dX8_kindOf_52 ?_
          refine rr_ldcS 18 rfl dX8_kindOf_53 ?_
          refine rr_callV (As := [.ref (1000000 + 18)]) (rest := []) (kc2 := 0) (ks2 := 0) dX8_kindOf_55 okX5_isWord lX8_71 lo_13 sh_13 rfl rfl (Nat.le_of_ble_eq_true rfl) (Nat.le_of_ble_eq_true rfl) rfl (by omega) (by simp [jj_rk]) (by simp [jj_rk]) ?_
          refine sp_X5_isWord_18 ho ?_
          show jj_R _ _ kc ks (jj_S, 782, h, g) 58 [(0, .ref 13)] [.int (vX5_isWord_18 (h 13) (h 14))] Q
          refine rr_if_eq dX8_kindOf_58 (fun c5 => ?_) (fun c5 => ?_)
          · skip
            refine rr_aload_n 0 rfl rfl dX8_kindOf_65 ?_
            refine rr_ldcS 19 rfl dX8_kindOf_66 ?_
            refine rr_callV (As := [.ref (1000000 + 19)]) (rest := []) (kc2 := 0) (ks2 := 0) dX8_kindOf_68 okX5_isWord lX8_71 lo_13 sh_13 rfl rfl (Nat.le_of_ble_eq_true rfl) (Nat.le_of_ble_eq_true rfl) rfl (by omega) (by simp [jj_rk]) (by simp [jj_rk]) ?_
            refine sp_X5_isWord_19 ho ?_
            show jj_R _ _ kc ks (jj_S, 782, h, g) 71 [(0, .ref 13)] [.int (vX5_isWord_19 (h 13) (h 14))] Q
            refine rr_if_eq dX8_kindOf_71 (fun c6 => ?_) (fun c6 => ?_)
            · skip
              refine rr_aload_n 0 rfl rfl dX8_kindOf_78 ?_
              refine rr_ldcS 20 rfl dX8_kindOf_79 ?_
              refine rr_callV (As := [.ref (1000000 + 20)]) (rest := []) (kc2 := 0) (ks2 := 0) dX8_kindOf_81 okX5_isWord lX8_71 lo_13 sh_13 rfl rfl (Nat.le_of_ble_eq_true rfl) (Nat.le_of_ble_eq_true rfl) rfl (by omega) (by simp [jj_rk]) (by simp [jj_rk]) ?_
              refine sp_X5_isWord_20 ho ?_
              show jj_R _ _ kc ks (jj_S, 782, h, g) 84 [(0, .ref 13)] [.int (vX5_isWord_20 (h 13) (h 14))] Q
              refine rr_if_eq dX8_kindOf_84 (fun c7 => ?_) (fun c7 => ?_)
              · skip
                refine rr_iconst (-1) rfl dX8_kindOf_92 ?_
                refine rr_ireturn dX8_kindOf_93 rfl ?_
                simpa only [vX8_kindOf, if_pos c1, if_pos c2, if_pos c3, if_pos c4, if_pos c5, if_pos c6, if_pos c7] using kq
              · skip
                refine rr_bipush 6 rfl dX8_kindOf_87 ?_
                refine rr_goto dX8_kindOf_89 ?_
                refine rr_ireturn dX8_kindOf_93 rfl ?_
                simpa only [vX8_kindOf, if_pos c1, if_pos c2, if_pos c3, if_pos c4, if_pos c5, if_pos c6, if_neg c7] using kq
            · skip
              refine rr_iconst 5 rfl dX8_kindOf_74 ?_
              refine rr_goto dX8_kindOf_75 ?_
              refine rr_ireturn dX8_kindOf_93 rfl ?_
              simpa only [vX8_kindOf, if_pos c1, if_pos c2, if_pos c3, if_pos c4, if_pos c5, if_neg c6] using kq
          · skip
            refine rr_iconst 4 rfl dX8_kindOf_61 ?_
            refine rr_goto dX8_kindOf_62 ?_
            refine rr_ireturn dX8_kindOf_93 rfl ?_
            simpa only [vX8_kindOf, if_pos c1, if_pos c2, if_pos c3, if_pos c4, if_neg c5] using kq
        · skip
          refine rr_iconst 3 rfl dX8_kindOf_48 ?_
          refine rr_goto dX8_kindOf_49 ?_
          refine rr_ireturn dX8_kindOf_93 rfl ?_
          simpa only [vX8_kindOf, if_pos c1, if_pos c2, if_pos c3, if_neg c4] using kq
      · skip
        refine rr_iconst 2 rfl dX8_kindOf_35 ?_
        refine rr_goto dX8_kindOf_36 ?_
        refine rr_ireturn dX8_kindOf_93 rfl ?_
        simpa only [vX8_kindOf, if_pos c1, if_pos c2, if_neg c3] using kq
    · skip
      refine rr_iconst 1 rfl dX8_kindOf_22 ?_
      refine rr_goto dX8_kindOf_23 ?_
      refine rr_ireturn dX8_kindOf_93 rfl ?_
      simpa only [vX8_kindOf, if_pos c1, if_neg c2] using kq
  · skip
    refine rr_iconst 0 rfl dX8_kindOf_9 ?_
    refine rr_goto dX8_kindOf_10 ?_
    refine rr_ireturn dX8_kindOf_93 rfl ?_
    simpa only [vX8_kindOf, if_neg c1] using kq
def rX4_addCell_7 (r7 : Nat → Int32) (r9 : Nat → Int32) (z : Nat) (v : Int32) : Nat → Int32 := (if 150 ≤ (nI z) then r7 else (upd r7 (3) ((nI z) + 1)))
def rX4_addCell_9 (r7 : Nat → Int32) (r9 : Nat → Int32) (z : Nat) (v : Int32) : Nat → Int32 := (if 150 ≤ (nI z) then r9 else (upd r9 (((nI z) : Int32).toNatClampNeg) v))
set_option maxHeartbeats 1000000 in
theorem sp_X4_addCell {d kc ks : Nat} {h : Nat → Nat → Int32} {g : Nat → Nat → Int64} {Q : jj_Rs → jj_St → Prop} {z : Nat} {v : Int32} (hz : (h 7) 3 = nI z) (hz2 : z ≤ 150) (kq : Q (.inl none) (jj_S, 782, (jj_rs h [(7, (rX4_addCell_7 (h 7) (h 9) z v)), (9, (rX4_addCell_9 (h 7) (h 9) z v))]), g)) : jj_R mX4_addCell (d + 0) kc ks (jj_S, 782, h, g) 0 [(0, .ref 7), (1, .int v)] [] Q := by
  refine rr_aload_n 0 rfl rfl dX4_addCell_0 ?_
  refine rr_getI dX4_addCell_1 fX4_45 lo_7 sh_7 rfl ?_
  rw [show (h 7) 3 = (nI z) from hz]
  refine rr_aload_n 0 rfl rfl dX4_addCell_4 ?_
  refine rr_getR dX4_addCell_5 fX4_15 lo_7 sh_7 rfl ?_
  refine rr_alenI 150 dX4_addCell_8 lo_9 sh_9 (by decide) rfl ?_
  refine rr_icmp_ge dX4_addCell_9 (fun c1 => ?_) (fun c1 => ?_)
  · skip
    refine rr_return dX4_addCell_32 rfl ?_
    refine jj_Qh (jj_addr (B := h) (o := 7) (r := (h 7)) rfl) ?_
    refine jj_Qh (jj_rs_add (B := h) (L := [(7, (h 7))]) (L2 := [(7, (h 7)), (9, (h 9))]) (o := 9) (r := (h 9)) rfl rfl) ?_
    simpa only [rX4_addCell_7, rX4_addCell_9, if_pos c1] using kq
  · skip
    refine rr_aload_n 0 rfl rfl dX4_addCell_12 ?_
    refine rr_getR dX4_addCell_13 fX4_15 lo_7 sh_7 rfl ?_
    refine rr_aload_n 0 rfl rfl dX4_addCell_16 ?_
    refine rr_getI dX4_addCell_17 fX4_45 lo_7 sh_7 rfl ?_
    rw [show (h 7) 3 = (nI z) from hz]
    refine rr_iload_n 1 rfl rfl dX4_addCell_20 ?_
    refine rr_iastore dX4_addCell_21 lo_9 sh_9 (vp_in_nI (jj_nl (b := 150) (by omega) (by decide) (by assumption)) (by decide)) ?_
    rw [jj_rs_set0 (B := h) (o := 9) (r := (h 9)) rfl]
    refine rr_aload_n 0 rfl rfl dX4_addCell_22 ?_
    refine rr_dup rfl dX4_addCell_23 ?_
    refine rr_getI dX4_addCell_24 fX4_45 lo_7 sh_7 rfl ?_
    rw [show (jj_rs h [(9, (upd (h 9) (((nI z) : Int32).toNatClampNeg) v))]) 7 = h 7 from rfl]
    rw [show (h 7) 3 = (nI z) from hz]
    refine rr_iconst 1 rfl dX4_addCell_27 ?_
    refine rr_iadd dX4_addCell_28 ?_
    refine rr_putI dX4_addCell_29 fX4_45 ni4_3 lo_7 sh_7 rfl ?_
    rw [jj_rs_set (B := h) (L := [(9, (upd (h 9) (((nI z) : Int32).toNatClampNeg) v))]) (L2 := [(7, (upd (h 7) (3) ((nI z) + 1))), (9, (upd (h 9) (((nI z) : Int32).toNatClampNeg) v))]) (r := (h 7)) rfl rfl]
    refine rr_return dX4_addCell_32 rfl ?_
    simpa only [rX4_addCell_7, rX4_addCell_9, if_neg c1] using kq
-- words [(4, 'fingers'), (5, 'haste'), (6, 'behind'), (7, 'double'), (8, 'friend'), (9, 'self'), (10, 'slips'), (11, 'day'), (14, 'tie'), (15, 'double'), (16, 'cut'), (17, 'mend'), (18, 'undo'), (19, 'day'), (20, 'again')]
theorem vl_is {r13 r14 : Nat → Int32} {c : Nat → Nat} {e a : Nat} (hB : bytesok r14 c) (he : e ≤ 600) (h : tk c e a r13) : vX4_valueOf r13 r14 = kv c e a := by
  unfold vX4_valueOf kv
  have h4 := wd_4 hB he h
  by_cases w4 : wis c e a [102, 105, 110, 103, 101, 114, 115] = true
  · rw [if_pos w4] at h4
    rw [h4, if_neg (show ¬ (1 : Int32) = 0 by decide), if_pos w4]
  · rw [if_neg w4] at h4
    rw [h4, if_pos (show (0 : Int32) = 0 from rfl), if_neg w4]
    have h5 := wd_5 hB he h
    by_cases w5 : wis c e a [104, 97, 115, 116, 101] = true
    · rw [if_pos w5] at h5
      rw [h5, if_neg (show ¬ (1 : Int32) = 0 by decide), if_pos w5]
    · rw [if_neg w5] at h5
      rw [h5, if_pos (show (0 : Int32) = 0 from rfl), if_neg w5]
      have h6 := wd_6 hB he h
      by_cases w6 : wis c e a [98, 101, 104, 105, 110, 100] = true
      · rw [if_pos w6] at h6
        rw [h6, if_neg (show ¬ (1 : Int32) = 0 by decide), if_pos w6]
      · rw [if_neg w6] at h6
        rw [h6, if_pos (show (0 : Int32) = 0 from rfl), if_neg w6]
        have h7 := wd_7 hB he h
        by_cases w7 : wis c e a [100, 111, 117, 98, 108, 101] = true
        · rw [if_pos w7] at h7
          rw [h7, if_neg (show ¬ (1 : Int32) = 0 by decide), if_pos w7]
        · rw [if_neg w7] at h7
          rw [h7, if_pos (show (0 : Int32) = 0 from rfl), if_neg w7]
          have h8 := wd_8 hB he h
          by_cases w8 : wis c e a [102, 114, 105, 101, 110, 100] = true
          · rw [if_pos w8] at h8
            rw [h8, if_neg (show ¬ (1 : Int32) = 0 by decide), if_pos w8]
          · rw [if_neg w8] at h8
            rw [h8, if_pos (show (0 : Int32) = 0 from rfl), if_neg w8]
            have h9 := wd_9 hB he h
            by_cases w9 : wis c e a [115, 101, 108, 102] = true
            · rw [if_pos w9] at h9
              rw [h9, if_neg (show ¬ (1 : Int32) = 0 by decide), if_pos w9]
            · rw [if_neg w9] at h9
              rw [h9, if_pos (show (0 : Int32) = 0 from rfl), if_neg w9]
              have h10 := wd_10 hB he h
              by_cases w10 : wis c e a [115, 108, 105, 112, 115] = true
              · rw [if_pos w10] at h10
                rw [h10, if_neg (show ¬ (1 : Int32) = 0 by decide), if_pos w10]
              · rw [if_neg w10] at h10
                rw [h10, if_pos (show (0 : Int32) = 0 from rfl), if_neg w10]
                have h11 := wd_11 hB he h
                by_cases w11 : wis c e a [100, 97, 121] = true
                · rw [if_pos w11] at h11
                  rw [h11, if_neg (show ¬ (1 : Int32) = 0 by decide), if_pos w11]
                · rw [if_neg w11] at h11
                  rw [h11, if_pos (show (0 : Int32) = 0 from rfl), if_neg w11]
/-- which step the word at a names -/
def sk (c : Nat → Nat) (e a : Nat) : Int32 := if wis c e a [116, 105, 101] = true then 0 else (if wis c e a [100, 111, 117, 98, 108, 101] = true then 1 else (if wis c e a [99, 117, 116] = true then 2 else (if wis c e a [109, 101, 110, 100] = true then 3 else (if wis c e a [117, 110, 100, 111] = true then 4 else (if wis c e a [100, 97, 121] = true then 5 else (if wis c e a [97, 103, 97, 105, 110] = true then 6 else (-1)))))))
theorem kn_is {r13 r14 : Nat → Int32} {c : Nat → Nat} {e a : Nat} (hB : bytesok r14 c) (he : e ≤ 600) (h : tk c e a r13) : vX8_kindOf r13 r14 = sk c e a := by
  unfold vX8_kindOf sk
  have h14 := wd_14 hB he h
  by_cases w14 : wis c e a [116, 105, 101] = true
  · rw [if_pos w14] at h14
    rw [h14, if_neg (show ¬ (1 : Int32) = 0 by decide), if_pos w14]
  · rw [if_neg w14] at h14
    rw [h14, if_pos (show (0 : Int32) = 0 from rfl), if_neg w14]
    have h15 := wd_15 hB he h
    by_cases w15 : wis c e a [100, 111, 117, 98, 108, 101] = true
    · rw [if_pos w15] at h15
      rw [h15, if_neg (show ¬ (1 : Int32) = 0 by decide), if_pos w15]
    · rw [if_neg w15] at h15
      rw [h15, if_pos (show (0 : Int32) = 0 from rfl), if_neg w15]
      have h16 := wd_16 hB he h
      by_cases w16 : wis c e a [99, 117, 116] = true
      · rw [if_pos w16] at h16
        rw [h16, if_neg (show ¬ (1 : Int32) = 0 by decide), if_pos w16]
      · rw [if_neg w16] at h16
        rw [h16, if_pos (show (0 : Int32) = 0 from rfl), if_neg w16]
        have h17 := wd_17 hB he h
        by_cases w17 : wis c e a [109, 101, 110, 100] = true
        · rw [if_pos w17] at h17
          rw [h17, if_neg (show ¬ (1 : Int32) = 0 by decide), if_pos w17]
        · rw [if_neg w17] at h17
          rw [h17, if_pos (show (0 : Int32) = 0 from rfl), if_neg w17]
          have h18 := wd_18 hB he h
          by_cases w18 : wis c e a [117, 110, 100, 111] = true
          · rw [if_pos w18] at h18
            rw [h18, if_neg (show ¬ (1 : Int32) = 0 by decide), if_pos w18]
          · rw [if_neg w18] at h18
            rw [h18, if_pos (show (0 : Int32) = 0 from rfl), if_neg w18]
            have h19 := wd_19 hB he h
            by_cases w19 : wis c e a [100, 97, 121] = true
            · rw [if_pos w19] at h19
              rw [h19, if_neg (show ¬ (1 : Int32) = 0 by decide), if_pos w19]
            · rw [if_neg w19] at h19
              rw [h19, if_pos (show (0 : Int32) = 0 from rfl), if_neg w19]
              have h20 := wd_20 hB he h
              by_cases w20 : wis c e a [97, 103, 97, 105, 110] = true
              · rw [if_pos w20] at h20
                rw [h20, if_neg (show ¬ (1 : Int32) = 0 by decide), if_pos w20]
              · rw [if_neg w20] at h20
                rw [h20, if_pos (show (0 : Int32) = 0 from rfl), if_neg w20]
def vX10_opensOne (r49 : Nat → Int32) : Int32 := (if (r49 5) = 0 then (if (r49 8) = 6 then (if ((rX10_wrong_49 r49 3 (r49 4)) 5) = 0 then 1 else 0) else 1) else 0)
def rX10_opensOne_49 (r49 : Nat → Int32) : Nat → Int32 := (if (r49 5) = 0 then (if (r49 8) = 6 then (rX10_wrong_49 r49 3 (r49 4)) else (upd r49 (8) ((r49 8) + 1))) else r49)
set_option maxHeartbeats 1000000 in
theorem sp_X10_opensOne {d kc ks : Nat} {h : Nat → Nat → Int32} {g : Nat → Nat → Int64} {Q : jj_Rs → jj_St → Prop}  (kq : Q (.inl (some (.int (vX10_opensOne (h 49))))) (jj_S, 782, (jj_rs h [(49, (rX10_opensOne_49 (h 49)))]), g)) : jj_R mX10_opensOne (d + 1) kc ks (jj_S, 782, h, g) 0 [(0, .ref 49)] [] Q := by
  refine rr_aload_n 0 rfl rfl dX10_opensOne_0 ?_
  refine rr_getI dX10_opensOne_1 fX10_111 lo_49 sh_49 rfl ?_
  refine rr_if_ne dX10_opensOne_4 (fun c1 => ?_) (fun c1 => ?_)
  · skip
    refine rr_aload_n 0 rfl rfl dX10_opensOne_28 ?_
    refine rr_getI dX10_opensOne_29 fX10_111 lo_49 sh_49 rfl ?_
    refine rr_if_ne dX10_opensOne_32 (fun _ => ?_) (fun c => absurd c c1)
    refine rr_aload_n 0 rfl rfl dX10_opensOne_45 ?_
    refine rr_getI dX10_opensOne_46 fX10_111 lo_49 sh_49 rfl ?_
    refine rr_if_ne dX10_opensOne_49 (fun _ => ?_) (fun c => absurd c c1)
    refine rr_iconst 0 rfl dX10_opensOne_56 ?_
    refine rr_nreturn dX10_opensOne_57 rfl (by first | rfl | assumption) ?_
    refine jj_Qh (jj_addr (B := h) (o := 49) (r := (h 49)) rfl) ?_
    simpa only [vX10_opensOne, rX10_opensOne_49, if_neg c1] using kq
  · skip
    refine rr_aload_n 0 rfl rfl dX10_opensOne_7 ?_
    refine rr_getI dX10_opensOne_8 fX10_154 lo_49 sh_49 rfl ?_
    refine rr_bipush 6 rfl dX10_opensOne_11 ?_
    refine rr_icmp_ne dX10_opensOne_13 (fun c2 => ?_) (fun c2 => ?_)
    · skip
      refine rr_aload_n 0 rfl rfl dX10_opensOne_28 ?_
      refine rr_getI dX10_opensOne_29 fX10_111 lo_49 sh_49 rfl ?_
      refine rr_if_ne dX10_opensOne_32 (fun c => absurd c1 c) (fun _ => ?_)
      refine rr_aload_n 0 rfl rfl dX10_opensOne_35 ?_
      refine rr_dup rfl dX10_opensOne_36 ?_
      refine rr_getI dX10_opensOne_37 fX10_154 lo_49 sh_49 rfl ?_
      refine rr_iconst 1 rfl dX10_opensOne_40 ?_
      refine rr_iadd dX10_opensOne_41 ?_
      refine rr_putI dX10_opensOne_42 fX10_154 ni10_8 lo_49 sh_49 rfl ?_
      rw [jj_rs_set0 (B := h) (o := 49) (r := (h 49)) rfl]
      refine rr_aload_n 0 rfl rfl dX10_opensOne_45 ?_
      refine rr_getI dX10_opensOne_46 fX10_111 lo_49 sh_49 rfl ?_
      rw [show (jj_rs h [(49, (upd (h 49) (8) (((h 49) 8) + 1)))]) 49 = (upd (h 49) (8) (((h 49) 8) + 1)) from rfl]
      rw [show (upd (h 49) (8) (((h 49) 8) + 1)) 5 = (h 49) 5 from rfl]
      refine rr_if_ne dX10_opensOne_49 (fun c => absurd c1 c) (fun _ => ?_)
      refine rr_iconst 1 rfl dX10_opensOne_52 ?_
      refine rr_goto dX10_opensOne_53 ?_
      refine rr_nreturn dX10_opensOne_57 rfl (by first | rfl | assumption) ?_
      simpa only [vX10_opensOne, rX10_opensOne_49, if_pos c1, if_neg c2] using kq
    · skip
      refine rr_aload_n 0 rfl rfl dX10_opensOne_16 ?_
      refine rr_iconst 3 rfl dX10_opensOne_17 ?_
      refine rr_aload_n 0 rfl rfl dX10_opensOne_18 ?_
      refine rr_getI dX10_opensOne_19 fX10_104 lo_49 sh_49 rfl ?_
      refine rr_callV (As := [.int 3, .int ((h 49) 4)]) (rest := []) (kc2 := 0) (ks2 := 0) dX10_opensOne_22 okX10_wrong lX10_124 lo_49 sh_49 rfl rfl (Nat.le_of_ble_eq_true rfl) (Nat.le_of_ble_eq_true rfl) rfl (by omega) (by simp [jj_rk]) (by simp [jj_rk]) ?_
      refine sp_X10_wrong  ?_
      show jj_R _ _ kc ks (jj_S, 782, (jj_rs h [(49, (rX10_wrong_49 (h 49) 3 ((h 49) 4)))]), g) 25 [(0, .ref 49)] [] Q
      refine rr_goto dX10_opensOne_25 ?_
      refine rr_aload_n 0 rfl rfl dX10_opensOne_45 ?_
      refine rr_getI dX10_opensOne_46 fX10_111 lo_49 sh_49 rfl ?_
      rw [show (jj_rs h [(49, (rX10_wrong_49 (h 49) 3 ((h 49) 4)))]) 49 = (rX10_wrong_49 (h 49) 3 ((h 49) 4)) from rfl]
      refine rr_if_ne dX10_opensOne_49 (fun c3 => ?_) (fun c3 => ?_)
      · skip
        refine rr_iconst 0 rfl dX10_opensOne_56 ?_
        refine rr_nreturn dX10_opensOne_57 rfl (by first | rfl | assumption) ?_
        simpa only [vX10_opensOne, rX10_opensOne_49, if_pos c1, if_pos c2, if_neg c3] using kq
      · skip
        refine rr_iconst 1 rfl dX10_opensOne_52 ?_
        refine rr_goto dX10_opensOne_53 ?_
        refine rr_nreturn dX10_opensOne_57 rfl (by first | rfl | assumption) ?_
        simpa only [vX10_opensOne, rX10_opensOne_49, if_pos c1, if_pos c2, if_pos c3] using kq
def rX10_notes_49 (r49 : Nat → Int32) (g236 : Nat → Nat → Int32) (q : Nat) (v : Int32) (w : Int32) : Nat → Int32 := (if (r49 5) = 0 then (upd r49 (18) ((nI q) + 1)) else r49)
def qX10_notes_236 (r49 : Nat → Int32) (g236 : Nat → Nat → Int32) (q : Nat) (v : Int32) (w : Int32) : Nat → Nat → Int32 := (if (r49 5) = 0 then (jj_ug (jj_ug g236 (((nI q) : Int32).toNatClampNeg) (0) v) (((nI q) : Int32).toNatClampNeg) (1) w) else g236)
set_option maxHeartbeats 1000000 in
theorem sp_X10_notes {d kc ks : Nat} {h : Nat → Nat → Int32} {g : Nat → Nat → Int64} {Q : jj_Rs → jj_St → Prop} {q : Nat} {v : Int32} {w : Int32} (hq : h 49 18 = nI q) (hq2 : q < 160) (kq : Q (.inl none) (jj_S, 782, (jj_rs (jj_gs h 236 160 (qX10_notes_236 (h 49) (jj_gd h 236 160) q v w)) [(49, (rX10_notes_49 (h 49) (jj_gd h 236 160) q v w))]), g)) : jj_R mX10_notes (d + 0) kc ks (jj_S, 782, h, g) 0 [(0, .ref 49), (1, .int v), (2, .int w)] [] Q := by
  refine rr_aload_n 0 rfl rfl dX10_notes_0 ?_
  refine rr_getI dX10_notes_1 fX10_111 lo_49 sh_49 rfl ?_
  refine rr_if_eq dX10_notes_4 (fun c1 => ?_) (fun c1 => ?_)
  · skip
    refine rr_aload_n 0 rfl rfl dX10_notes_8 ?_
    refine rr_getR dX10_notes_9 fX10_43 lo_49 sh_49 rfl ?_
    refine rr_aload_n 0 rfl rfl dX10_notes_12 ?_
    refine rr_getI dX10_notes_13 fX10_203 lo_49 sh_49 rfl ?_
    rw [show (h 49) 18 = (nI q) from hq]
    refine rr_aaload dX10_notes_16 lo_235 sh_235 (vp_in_nI (by omega) (by decide)) ?_
    refine rr_iconst 0 rfl dX10_notes_17 ?_
    refine rr_iload_n 1 rfl rfl dX10_notes_18 ?_
    refine rr_iastore dX10_notes_19 (lr_235 (jj_ink (i := (nI q)) (vp_in_nI (by omega) (by decide)))) (sr_235 (jj_ink (i := (nI q)) (vp_in_nI (by omega) (by decide)))) (jj_inL rfl) ?_
    rw [show (0 : Int32).toNatClampNeg = 0 from rfl]
    refine jj_Rh (jj_gs_set0 (B := h) (L := []) (b := 236) (len := 160) (x := ((nI q) : Int32).toNatClampNeg) rfl (jj_ink (i := (nI q)) (vp_in_nI (by omega) (by decide)))) ?_
    rw [jj_rs_nil]
    refine rr_aload_n 0 rfl rfl dX10_notes_20 ?_
    refine rr_getR dX10_notes_21 fX10_43 lo_49 sh_49 rfl ?_
    refine rr_aload_n 0 rfl rfl dX10_notes_24 ?_
    refine rr_getI dX10_notes_25 fX10_203 lo_49 sh_49 rfl ?_
    rw [show (jj_gs h 236 160 (jj_ug (jj_gd h 236 160) (((nI q) : Int32).toNatClampNeg) (0) v)) 49 = h 49 from rfl]
    rw [show (h 49) 18 = (nI q) from hq]
    refine rr_aaload dX10_notes_28 lo_235 sh_235 (vp_in_nI (by omega) (by decide)) ?_
    refine rr_iconst 1 rfl dX10_notes_29 ?_
    refine rr_iload_n 2 rfl rfl dX10_notes_30 ?_
    refine rr_iastore dX10_notes_31 (lr_235 (jj_ink (i := (nI q)) (vp_in_nI (by omega) (by decide)))) (sr_235 (jj_ink (i := (nI q)) (vp_in_nI (by omega) (by decide)))) (jj_inL rfl) ?_
    rw [show (1 : Int32).toNatClampNeg = 1 from rfl]
    refine jj_Rh (jj_gs_set (B := h) (L := []) (b := 236) (len := 160) (G := (jj_ug (jj_gd h 236 160) (((nI q) : Int32).toNatClampNeg) (0) v)) (x := ((nI q) : Int32).toNatClampNeg) rfl (jj_ink (i := (nI q)) (vp_in_nI (by omega) (by decide)))) ?_
    rw [jj_rs_nil]
    refine rr_aload_n 0 rfl rfl dX10_notes_32 ?_
    refine rr_dup rfl dX10_notes_33 ?_
    refine rr_getI dX10_notes_34 fX10_203 lo_49 sh_49 rfl ?_
    rw [show (jj_gs h 236 160 (jj_ug (jj_ug (jj_gd h 236 160) (((nI q) : Int32).toNatClampNeg) (0) v) (((nI q) : Int32).toNatClampNeg) (1) w)) 49 = h 49 from rfl]
    rw [show (h 49) 18 = (nI q) from hq]
    refine rr_iconst 1 rfl dX10_notes_37 ?_
    refine rr_iadd dX10_notes_38 ?_
    refine rr_putI dX10_notes_39 fX10_203 ni10_18 lo_49 sh_49 rfl ?_
    rw [jj_rs_set0 (B := (jj_gs h 236 160 (jj_ug (jj_ug (jj_gd h 236 160) (((nI q) : Int32).toNatClampNeg) (0) v) (((nI q) : Int32).toNatClampNeg) (1) w))) (o := 49) (r := (h 49)) rfl]
    refine rr_return dX10_notes_42 rfl ?_
    simpa only [rX10_notes_49, qX10_notes_236, if_pos c1] using kq
  · skip
    refine rr_return dX10_notes_7 rfl ?_
    refine jj_Qh (jj_gs_id (B := h) (L := []) (b := 236) (len := 160)) ?_
    rw [jj_rs_nil]
    refine jj_Qh (jj_addr (B := (jj_gs h 236 160 (jj_gd h 236 160))) (o := 49) (r := (h 49)) rfl) ?_
    simpa only [rX10_notes_49, qX10_notes_236, if_neg c1] using kq
