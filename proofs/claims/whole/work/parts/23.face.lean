theorem jj_l0 {k : Nat} (hk : k + 1 < 2 ^ 31) : ¬ (nI (k + 1)).toInt64 = 0 := by
  intro q
  have := congrArg Int64.toInt q
  rw [Int32.toInt_toInt64, nI_toInt hk] at this
  simp at this
  omega
theorem jj_inC {x : Int32} (c1 : ¬ x < 0) (c2 : ¬ 8 ≤ x) : vp_in x 8 := by
  rw [vp_in_iff]
  rw [Int32.lt_iff_toInt_lt] at c1
  rw [Int32.le_iff_toInt_le] at c2
  simp at c1 c2
  omega
theorem jj_nl {u b : Nat} (hu : u < 2 ^ 31) (hb : b < 2 ^ 31) (c : ¬ nI b ≤ nI u) : u < b := by
  rw [nI_leI hb hu] at c; omega
theorem jj_np {u : Nat} (hu : u < 2 ^ 31) (c : ¬ nI u ≤ 0) : 0 < u := by
  rcases Nat.eq_zero_or_pos u with rfl | h
  · exact absurd (by decide) c
  · exact h
theorem jj_rgD {s a : Int32} (hi : nI 10 = s ∨ a = -1) (c : ¬ 8 < s) (c2 : ¬ a < 0) : False := by
  rcases hi with q | q
  · subst q; exact c (by decide)
  · subst q; exact c2 (by decide)
theorem jj_rg {k : Nat} {s a b : Int32} (hi : nI k = s ∨ a = -1) (c : ¬ a < 0) (e : b = s + 1) : nI (k + 1) = b := by
  rcases hi with q | q
  · rw [e, ← q, nI_1]
  · subst q; exact absurd (by decide) c
theorem jj_le_n {a b : Nat} (h : a ≤ b) (hb : b < 2 ^ 31) : nI a ≤ nI b := (nI_leI (by omega) hb).mpr h
def vX9_would (r0 : Nat → Int32) (r8 : Nat → Int32) (m : Nat) (fi : Int32) (ha : Int32) (be : Int32) (tw : Int32) (fr : Int32) (se : Int32) (sl : Int32) (dy : Int32) : jj_Rs := (if fi < 0 then (.inr "java/lang/IllegalArgumentException") else (if 9 < fi then (.inr "java/lang/IllegalArgumentException") else (if ha < 0 then (.inr "java/lang/IllegalArgumentException") else (if 9 < ha then (.inr "java/lang/IllegalArgumentException") else (if be < 0 then (.inr "java/lang/IllegalArgumentException") else (if 999 < be then (.inr "java/lang/IllegalArgumentException") else (if sl < 0 then (.inr "java/lang/IllegalArgumentException") else (if 999 < sl then (.inr "java/lang/IllegalArgumentException") else (if (vX9_isBit tw) = 0 then (.inr "java/lang/IllegalArgumentException") else (if (vX9_isBit fr) = 0 then (.inr "java/lang/IllegalArgumentException") else (if (vX9_isBit se) = 0 then (.inr "java/lang/IllegalArgumentException") else (if dy < 0 then (.inr "java/lang/IllegalArgumentException") else (if 900 < dy then (.inr "java/lang/IllegalArgumentException") else (.inl (some (.int (hd_val r8 m (hd_vals fi ha be tw fr se sl dy))))))))))))))))))
def rX9_would_0 (r0 : Nat → Int32) (r8 : Nat → Int32) (m : Nat) (fi : Int32) (ha : Int32) (be : Int32) (tw : Int32) (fr : Int32) (se : Int32) (sl : Int32) (dy : Int32) : Nat → Int32 := (if fi < 0 then (upd r0 14 (r0 14 + 1)) else (if 9 < fi then (upd r0 14 (r0 14 + 1)) else (if ha < 0 then (upd r0 14 (r0 14 + 1)) else (if 9 < ha then (upd r0 14 (r0 14 + 1)) else (if be < 0 then (upd r0 14 (r0 14 + 1)) else (if 999 < be then (upd r0 14 (r0 14 + 1)) else (if sl < 0 then (upd r0 14 (r0 14 + 1)) else (if 999 < sl then (upd r0 14 (r0 14 + 1)) else (if (vX9_isBit tw) = 0 then (upd r0 14 (r0 14 + 1)) else (if (vX9_isBit fr) = 0 then (upd r0 14 (r0 14 + 1)) else (if (vX9_isBit se) = 0 then (upd r0 14 (r0 14 + 1)) else (if dy < 0 then (upd r0 14 (r0 14 + 1)) else (if 900 < dy then (upd r0 14 (r0 14 + 1)) else r0)))))))))))))
set_option maxHeartbeats 1000000 in
theorem sp_X9_would {d kc ks : Nat} {h : Nat → Nat → Int32} {g : Nat → Nat → Int64} {Q : jj_Rs → jj_St → Prop} {m : Nat} {fi : Int32} {ha : Int32} {be : Int32} {tw : Int32} {fr : Int32} {se : Int32} {sl : Int32} {dy : Int32} (hm : h 7 1 = nI m) (hm2 : m ≤ 150) (kq : ∀ h9, jj_eq [10, 11] h h9 → Q (vX9_would (h 0) (h 8) m fi ha be tw fr se sl dy) (jj_S, 782, (jj_rs h9 [(0, (rX9_would_0 (h 0) (h 8) m fi ha be tw fr se sl dy))]), g)) : jj_R mX9_would (d + 7) (kc + 4) (ks + 24) (jj_S, 782, h, g) 0 [(0, .ref 0), (1, .int fi), (2, .int ha), (3, .int be), (4, .int tw), (5, .int fr), (6, .int se), (7, .int sl), (8, .int dy)] [] Q := by
  refine rr_aload_n 0 rfl rfl dX9_would_0 ?_
  refine rr_iload_n 1 rfl rfl dX9_would_1 ?_
  refine rr_if_lt dX9_would_2 (fun c1 => ?_) (fun c1 => ?_)
  · skip
    refine rr_iconst 0 rfl dX9_would_25 ?_
    refine rr_callV (As := [.int 0]) (rest := []) (kc2 := 1) (ks2 := 6) dX9_would_26 okX9_require lX9_103 lo_0 sh_0 rfl rfl (Nat.le_of_ble_eq_true rfl) (Nat.le_of_ble_eq_true rfl) rfl (by omega) (by simp [jj_rk]) (by simp [jj_rk]) ?_
    refine sp_X9_require  (fun c => absurd rfl c) (fun _ => ?_)
    show Q (.inr "java/lang/IllegalArgumentException") (jj_S, 782, (jj_rs h [(0, (upd (h 0) 14 ((h 0) 14 + 1)))]), g)
    simpa only [vX9_would, rX9_would_0, if_pos c1] using kq h jj_eq.rf
  · skip
    refine rr_iload_n 1 rfl rfl dX9_would_5 ?_
    refine rr_bipush 9 rfl dX9_would_6 ?_
    refine rr_icmp_gt dX9_would_8 (fun c3 => ?_) (fun c3 => ?_)
    · skip
      refine rr_iconst 0 rfl dX9_would_25 ?_
      refine rr_callV (As := [.int 0]) (rest := []) (kc2 := 1) (ks2 := 6) dX9_would_26 okX9_require lX9_103 lo_0 sh_0 rfl rfl (Nat.le_of_ble_eq_true rfl) (Nat.le_of_ble_eq_true rfl) rfl (by omega) (by simp [jj_rk]) (by simp [jj_rk]) ?_
      refine sp_X9_require  (fun c => absurd rfl c) (fun _ => ?_)
      show Q (.inr "java/lang/IllegalArgumentException") (jj_S, 782, (jj_rs h [(0, (upd (h 0) 14 ((h 0) 14 + 1)))]), g)
      simpa only [vX9_would, rX9_would_0, if_neg c1, if_pos c3] using kq h jj_eq.rf
    · skip
      refine rr_iload_n 2 rfl rfl dX9_would_11 ?_
      refine rr_if_lt dX9_would_12 (fun c5 => ?_) (fun c5 => ?_)
      · skip
        refine rr_iconst 0 rfl dX9_would_25 ?_
        refine rr_callV (As := [.int 0]) (rest := []) (kc2 := 1) (ks2 := 6) dX9_would_26 okX9_require lX9_103 lo_0 sh_0 rfl rfl (Nat.le_of_ble_eq_true rfl) (Nat.le_of_ble_eq_true rfl) rfl (by omega) (by simp [jj_rk]) (by simp [jj_rk]) ?_
        refine sp_X9_require  (fun c => absurd rfl c) (fun _ => ?_)
        show Q (.inr "java/lang/IllegalArgumentException") (jj_S, 782, (jj_rs h [(0, (upd (h 0) 14 ((h 0) 14 + 1)))]), g)
        simpa only [vX9_would, rX9_would_0, if_neg c1, if_neg c3, if_pos c5] using kq h jj_eq.rf
      · skip
        refine rr_iload_n 2 rfl rfl dX9_would_15 ?_
        refine rr_bipush 9 rfl dX9_would_16 ?_
        refine rr_icmp_gt dX9_would_18 (fun c7 => ?_) (fun c7 => ?_)
        · skip
          refine rr_iconst 0 rfl dX9_would_25 ?_
          refine rr_callV (As := [.int 0]) (rest := []) (kc2 := 1) (ks2 := 6) dX9_would_26 okX9_require lX9_103 lo_0 sh_0 rfl rfl (Nat.le_of_ble_eq_true rfl) (Nat.le_of_ble_eq_true rfl) rfl (by omega) (by simp [jj_rk]) (by simp [jj_rk]) ?_
          refine sp_X9_require  (fun c => absurd rfl c) (fun _ => ?_)
          show Q (.inr "java/lang/IllegalArgumentException") (jj_S, 782, (jj_rs h [(0, (upd (h 0) 14 ((h 0) 14 + 1)))]), g)
          simpa only [vX9_would, rX9_would_0, if_neg c1, if_neg c3, if_neg c5, if_pos c7] using kq h jj_eq.rf
        · skip
          refine rr_iconst 1 rfl dX9_would_21 ?_
          refine rr_goto dX9_would_22 ?_
          refine rr_callV (As := [.int 1]) (rest := []) (kc2 := 1) (ks2 := 6) dX9_would_26 okX9_require lX9_103 lo_0 sh_0 rfl rfl (Nat.le_of_ble_eq_true rfl) (Nat.le_of_ble_eq_true rfl) rfl (by omega) (by simp [jj_rk]) (by simp [jj_rk]) ?_
          refine sp_X9_require  (fun _ => ?_) (fun c => absurd c (by decide))
          show jj_R _ _ (kc + 3) (ks + 18) (jj_S, 782, h, g) 29 [(0, .ref 0), (1, .int fi), (2, .int ha), (3, .int be), (4, .int tw), (5, .int fr), (6, .int se), (7, .int sl), (8, .int dy)] [] Q
          refine rr_aload_n 0 rfl rfl dX9_would_29 ?_
          refine rr_iload_n 3 rfl rfl dX9_would_30 ?_
          refine rr_if_lt dX9_would_31 (fun c10 => ?_) (fun c10 => ?_)
          · skip
            refine rr_iconst 0 rfl dX9_would_58 ?_
            refine rr_callV (As := [.int 0]) (rest := []) (kc2 := 1) (ks2 := 6) dX9_would_59 okX9_require lX9_103 lo_0 sh_0 rfl rfl (Nat.le_of_ble_eq_true rfl) (Nat.le_of_ble_eq_true rfl) rfl (by omega) (by simp [jj_rk]) (by simp [jj_rk]) ?_
            refine sp_X9_require  (fun c => absurd rfl c) (fun _ => ?_)
            show Q (.inr "java/lang/IllegalArgumentException") (jj_S, 782, (jj_rs h [(0, (upd (h 0) 14 ((h 0) 14 + 1)))]), g)
            simpa only [vX9_would, rX9_would_0, if_neg c1, if_neg c3, if_neg c5, if_neg c7, if_pos c10] using kq h jj_eq.rf
          · skip
            refine rr_iload_n 3 rfl rfl dX9_would_34 ?_
            refine rr_sipush 999 rfl dX9_would_35 ?_
            refine rr_icmp_gt dX9_would_38 (fun c12 => ?_) (fun c12 => ?_)
            · skip
              refine rr_iconst 0 rfl dX9_would_58 ?_
              refine rr_callV (As := [.int 0]) (rest := []) (kc2 := 1) (ks2 := 6) dX9_would_59 okX9_require lX9_103 lo_0 sh_0 rfl rfl (Nat.le_of_ble_eq_true rfl) (Nat.le_of_ble_eq_true rfl) rfl (by omega) (by simp [jj_rk]) (by simp [jj_rk]) ?_
              refine sp_X9_require  (fun c => absurd rfl c) (fun _ => ?_)
              show Q (.inr "java/lang/IllegalArgumentException") (jj_S, 782, (jj_rs h [(0, (upd (h 0) 14 ((h 0) 14 + 1)))]), g)
              simpa only [vX9_would, rX9_would_0, if_neg c1, if_neg c3, if_neg c5, if_neg c7, if_neg c10, if_pos c12] using kq h jj_eq.rf
            · skip
              refine rr_iload 7 rfl dX9_would_41 ?_
              refine rr_if_lt dX9_would_43 (fun c14 => ?_) (fun c14 => ?_)
              · skip
                refine rr_iconst 0 rfl dX9_would_58 ?_
                refine rr_callV (As := [.int 0]) (rest := []) (kc2 := 1) (ks2 := 6) dX9_would_59 okX9_require lX9_103 lo_0 sh_0 rfl rfl (Nat.le_of_ble_eq_true rfl) (Nat.le_of_ble_eq_true rfl) rfl (by omega) (by simp [jj_rk]) (by simp [jj_rk]) ?_
                refine sp_X9_require  (fun c => absurd rfl c) (fun _ => ?_)
                show Q (.inr "java/lang/IllegalArgumentException") (jj_S, 782, (jj_rs h [(0, (upd (h 0) 14 ((h 0) 14 + 1)))]), g)
                simpa only [vX9_would, rX9_would_0, if_neg c1, if_neg c3, if_neg c5, if_neg c7, if_neg c10, if_neg c12, if_pos c14] using kq h jj_eq.rf
              · skip
                refine rr_iload 7 rfl dX9_would_46 ?_
                refine rr_sipush 999 rfl dX9_would_48 ?_
                refine rr_icmp_gt dX9_would_51 (fun c16 => ?_) (fun c16 => ?_)
                · skip
                  refine rr_iconst 0 rfl dX9_would_58 ?_
                  refine rr_callV (As := [.int 0]) (rest := []) (kc2 := 1) (ks2 := 6) dX9_would_59 okX9_require lX9_103 lo_0 sh_0 rfl rfl (Nat.le_of_ble_eq_true rfl) (Nat.le_of_ble_eq_true rfl) rfl (by omega) (by simp [jj_rk]) (by simp [jj_rk]) ?_
                  refine sp_X9_require  (fun c => absurd rfl c) (fun _ => ?_)
                  show Q (.inr "java/lang/IllegalArgumentException") (jj_S, 782, (jj_rs h [(0, (upd (h 0) 14 ((h 0) 14 + 1)))]), g)
                  simpa only [vX9_would, rX9_would_0, if_neg c1, if_neg c3, if_neg c5, if_neg c7, if_neg c10, if_neg c12, if_neg c14, if_pos c16] using kq h jj_eq.rf
                · skip
                  refine rr_iconst 1 rfl dX9_would_54 ?_
                  refine rr_goto dX9_would_55 ?_
                  refine rr_callV (As := [.int 1]) (rest := []) (kc2 := 1) (ks2 := 6) dX9_would_59 okX9_require lX9_103 lo_0 sh_0 rfl rfl (Nat.le_of_ble_eq_true rfl) (Nat.le_of_ble_eq_true rfl) rfl (by omega) (by simp [jj_rk]) (by simp [jj_rk]) ?_
                  refine sp_X9_require  (fun _ => ?_) (fun c => absurd c (by decide))
                  show jj_R _ _ (kc + 2) (ks + 12) (jj_S, 782, h, g) 62 [(0, .ref 0), (1, .int fi), (2, .int ha), (3, .int be), (4, .int tw), (5, .int fr), (6, .int se), (7, .int sl), (8, .int dy)] [] Q
                  refine rr_aload_n 0 rfl rfl dX9_would_62 ?_
                  refine rr_iload 4 rfl dX9_would_63 ?_
                  refine rr_callS (As := [.int tw]) (rest := [.ref 0]) (kc2 := 0) (ks2 := 0) dX9_would_65 okX9_isBit lX9_235 rfl (Nat.le_of_ble_eq_true rfl) (Nat.le_of_ble_eq_true rfl) rfl (by omega) (by simp [jj_rk]) (by simp [jj_rk]) ?_
                  refine sp_X9_isBit  ?_
                  show jj_R _ _ (kc + 2) (ks + 12) (jj_S, 782, h, g) 68 [(0, .ref 0), (1, .int fi), (2, .int ha), (3, .int be), (4, .int tw), (5, .int fr), (6, .int se), (7, .int sl), (8, .int dy)] [.int (vX9_isBit tw), .ref 0] Q
                  refine rr_if_eq dX9_would_68 (fun c19 => ?_) (fun c19 => ?_)
                  · skip
                    refine rr_iconst 0 rfl dX9_would_91 ?_
                    refine rr_callV (As := [.int 0]) (rest := []) (kc2 := 1) (ks2 := 6) dX9_would_92 okX9_require lX9_103 lo_0 sh_0 rfl rfl (Nat.le_of_ble_eq_true rfl) (Nat.le_of_ble_eq_true rfl) rfl (by omega) (by simp [jj_rk]) (by simp [jj_rk]) ?_
                    refine sp_X9_require  (fun c => absurd rfl c) (fun _ => ?_)
                    show Q (.inr "java/lang/IllegalArgumentException") (jj_S, 782, (jj_rs h [(0, (upd (h 0) 14 ((h 0) 14 + 1)))]), g)
                    simpa only [vX9_would, rX9_would_0, if_neg c1, if_neg c3, if_neg c5, if_neg c7, if_neg c10, if_neg c12, if_neg c14, if_neg c16, if_pos c19] using kq h jj_eq.rf
                  · skip
                    refine rr_iload 5 rfl dX9_would_71 ?_
                    refine rr_callS (As := [.int fr]) (rest := [.ref 0]) (kc2 := 0) (ks2 := 0) dX9_would_73 okX9_isBit lX9_235 rfl (Nat.le_of_ble_eq_true rfl) (Nat.le_of_ble_eq_true rfl) rfl (by omega) (by simp [jj_rk]) (by simp [jj_rk]) ?_
                    refine sp_X9_isBit  ?_
                    show jj_R _ _ (kc + 2) (ks + 12) (jj_S, 782, h, g) 76 [(0, .ref 0), (1, .int fi), (2, .int ha), (3, .int be), (4, .int tw), (5, .int fr), (6, .int se), (7, .int sl), (8, .int dy)] [.int (vX9_isBit fr), .ref 0] Q
                    refine rr_if_eq dX9_would_76 (fun c21 => ?_) (fun c21 => ?_)
                    · skip
                      refine rr_iconst 0 rfl dX9_would_91 ?_
                      refine rr_callV (As := [.int 0]) (rest := []) (kc2 := 1) (ks2 := 6) dX9_would_92 okX9_require lX9_103 lo_0 sh_0 rfl rfl (Nat.le_of_ble_eq_true rfl) (Nat.le_of_ble_eq_true rfl) rfl (by omega) (by simp [jj_rk]) (by simp [jj_rk]) ?_
                      refine sp_X9_require  (fun c => absurd rfl c) (fun _ => ?_)
                      show Q (.inr "java/lang/IllegalArgumentException") (jj_S, 782, (jj_rs h [(0, (upd (h 0) 14 ((h 0) 14 + 1)))]), g)
                      simpa only [vX9_would, rX9_would_0, if_neg c1, if_neg c3, if_neg c5, if_neg c7, if_neg c10, if_neg c12, if_neg c14, if_neg c16, if_neg c19, if_pos c21] using kq h jj_eq.rf
                    · skip
                      refine rr_iload 6 rfl dX9_would_79 ?_
                      refine rr_callS (As := [.int se]) (rest := [.ref 0]) (kc2 := 0) (ks2 := 0) dX9_would_81 okX9_isBit lX9_235 rfl (Nat.le_of_ble_eq_true rfl) (Nat.le_of_ble_eq_true rfl) rfl (by omega) (by simp [jj_rk]) (by simp [jj_rk]) ?_
                      refine sp_X9_isBit  ?_
                      show jj_R _ _ (kc + 2) (ks + 12) (jj_S, 782, h, g) 84 [(0, .ref 0), (1, .int fi), (2, .int ha), (3, .int be), (4, .int tw), (5, .int fr), (6, .int se), (7, .int sl), (8, .int dy)] [.int (vX9_isBit se), .ref 0] Q
                      refine rr_if_eq dX9_would_84 (fun c23 => ?_) (fun c23 => ?_)
                      · skip
                        refine rr_iconst 0 rfl dX9_would_91 ?_
                        refine rr_callV (As := [.int 0]) (rest := []) (kc2 := 1) (ks2 := 6) dX9_would_92 okX9_require lX9_103 lo_0 sh_0 rfl rfl (Nat.le_of_ble_eq_true rfl) (Nat.le_of_ble_eq_true rfl) rfl (by omega) (by simp [jj_rk]) (by simp [jj_rk]) ?_
                        refine sp_X9_require  (fun c => absurd rfl c) (fun _ => ?_)
                        show Q (.inr "java/lang/IllegalArgumentException") (jj_S, 782, (jj_rs h [(0, (upd (h 0) 14 ((h 0) 14 + 1)))]), g)
                        simpa only [vX9_would, rX9_would_0, if_neg c1, if_neg c3, if_neg c5, if_neg c7, if_neg c10, if_neg c12, if_neg c14, if_neg c16, if_neg c19, if_neg c21, if_pos c23] using kq h jj_eq.rf
                      · skip
                        refine rr_iconst 1 rfl dX9_would_87 ?_
                        refine rr_goto dX9_would_88 ?_
                        refine rr_callV (As := [.int 1]) (rest := []) (kc2 := 1) (ks2 := 6) dX9_would_92 okX9_require lX9_103 lo_0 sh_0 rfl rfl (Nat.le_of_ble_eq_true rfl) (Nat.le_of_ble_eq_true rfl) rfl (by omega) (by simp [jj_rk]) (by simp [jj_rk]) ?_
                        refine sp_X9_require  (fun _ => ?_) (fun c => absurd c (by decide))
                        show jj_R _ _ (kc + 1) (ks + 6) (jj_S, 782, h, g) 95 [(0, .ref 0), (1, .int fi), (2, .int ha), (3, .int be), (4, .int tw), (5, .int fr), (6, .int se), (7, .int sl), (8, .int dy)] [] Q
                        refine rr_aload_n 0 rfl rfl dX9_would_95 ?_
                        refine rr_iload 8 rfl dX9_would_96 ?_
                        refine rr_if_lt dX9_would_98 (fun c26 => ?_) (fun c26 => ?_)
                        · skip
                          refine rr_iconst 0 rfl dX9_would_113 ?_
                          refine rr_callV (As := [.int 0]) (rest := []) (kc2 := 1) (ks2 := 6) dX9_would_114 okX9_require lX9_103 lo_0 sh_0 rfl rfl (Nat.le_of_ble_eq_true rfl) (Nat.le_of_ble_eq_true rfl) rfl (by omega) (by simp [jj_rk]) (by simp [jj_rk]) ?_
                          refine sp_X9_require  (fun c => absurd rfl c) (fun _ => ?_)
                          show Q (.inr "java/lang/IllegalArgumentException") (jj_S, 782, (jj_rs h [(0, (upd (h 0) 14 ((h 0) 14 + 1)))]), g)
                          simpa only [vX9_would, rX9_would_0, if_neg c1, if_neg c3, if_neg c5, if_neg c7, if_neg c10, if_neg c12, if_neg c14, if_neg c16, if_neg c19, if_neg c21, if_neg c23, if_pos c26] using kq h jj_eq.rf
                        · skip
                          refine rr_iload 8 rfl dX9_would_101 ?_
                          refine rr_sipush 900 rfl dX9_would_103 ?_
                          refine rr_icmp_gt dX9_would_106 (fun c28 => ?_) (fun c28 => ?_)
                          · skip
                            refine rr_iconst 0 rfl dX9_would_113 ?_
                            refine rr_callV (As := [.int 0]) (rest := []) (kc2 := 1) (ks2 := 6) dX9_would_114 okX9_require lX9_103 lo_0 sh_0 rfl rfl (Nat.le_of_ble_eq_true rfl) (Nat.le_of_ble_eq_true rfl) rfl (by omega) (by simp [jj_rk]) (by simp [jj_rk]) ?_
                            refine sp_X9_require  (fun c => absurd rfl c) (fun _ => ?_)
                            show Q (.inr "java/lang/IllegalArgumentException") (jj_S, 782, (jj_rs h [(0, (upd (h 0) 14 ((h 0) 14 + 1)))]), g)
                            simpa only [vX9_would, rX9_would_0, if_neg c1, if_neg c3, if_neg c5, if_neg c7, if_neg c10, if_neg c12, if_neg c14, if_neg c16, if_neg c19, if_neg c21, if_neg c23, if_neg c26, if_pos c28] using kq h jj_eq.rf
                          · skip
                            refine rr_iconst 1 rfl dX9_would_109 ?_
                            refine rr_goto dX9_would_110 ?_
                            refine rr_callV (As := [.int 1]) (rest := []) (kc2 := 1) (ks2 := 6) dX9_would_114 okX9_require lX9_103 lo_0 sh_0 rfl rfl (Nat.le_of_ble_eq_true rfl) (Nat.le_of_ble_eq_true rfl) rfl (by omega) (by simp [jj_rk]) (by simp [jj_rk]) ?_
                            refine sp_X9_require  (fun _ => ?_) (fun c => absurd c (by decide))
                            show jj_R _ _ kc ks (jj_S, 782, h, g) 117 [(0, .ref 0), (1, .int fi), (2, .int ha), (3, .int be), (4, .int tw), (5, .int fr), (6, .int se), (7, .int sl), (8, .int dy)] [] Q
                            refine rr_aload_n 0 rfl rfl dX9_would_117 ?_
                            refine rr_getR dX9_would_118 fX9_34 lo_0 sh_0 rfl ?_
                            refine rr_iconst 0 rfl dX9_would_121 ?_
                            refine rr_iload_n 1 rfl rfl dX9_would_122 ?_
                            refine rr_callV (As := [.int 0, .int fi]) (rest := []) (kc2 := 0) (ks2 := 0) dX9_would_123 okX4_put lX9_242 lo_7 sh_7 rfl rfl (Nat.le_of_ble_eq_true rfl) (Nat.le_of_ble_eq_true rfl) rfl (by omega) (by simp [jj_rk]) (by simp [jj_rk]) ?_
                            refine sp_X4_putL0  (fun h31 e32 r33 => ?_)
                            have e34 := jj_lo0 (X := [10, 11]) (jj_eq.rf (X := [10, 11])) e32 (by decide)
                            show jj_R _ _ kc ks (jj_S, 782, h31, g) 126 [(0, .ref 0), (1, .int fi), (2, .int ha), (3, .int be), (4, .int tw), (5, .int fr), (6, .int se), (7, .int sl), (8, .int dy)] [] Q
                            refine rr_aload_n 0 rfl rfl dX9_would_126 ?_
                            refine rr_getR dX9_would_127 fX9_34 lo_0 sh_0 rfl ?_
                            refine rr_iconst 1 rfl dX9_would_130 ?_
                            refine rr_iload_n 2 rfl rfl dX9_would_131 ?_
                            refine rr_callV (As := [.int 1, .int ha]) (rest := []) (kc2 := 0) (ks2 := 0) dX9_would_132 okX4_put lX9_242 lo_7 sh_7 rfl rfl (Nat.le_of_ble_eq_true rfl) (Nat.le_of_ble_eq_true rfl) rfl (by omega) (by simp [jj_rk]) (by simp [jj_rk]) ?_
                            refine sp_X4_putL1  (fun h35 e36 r37 => ?_)
                            have e38 := jj_lo0 (X := [10, 11]) e34 e36 (by decide)
                            show jj_R _ _ kc ks (jj_S, 782, h35, g) 135 [(0, .ref 0), (1, .int fi), (2, .int ha), (3, .int be), (4, .int tw), (5, .int fr), (6, .int se), (7, .int sl), (8, .int dy)] [] Q
                            refine rr_aload_n 0 rfl rfl dX9_would_135 ?_
                            refine rr_getR dX9_would_136 fX9_34 lo_0 sh_0 rfl ?_
                            refine rr_iconst 2 rfl dX9_would_139 ?_
                            refine rr_iload_n 3 rfl rfl dX9_would_140 ?_
                            refine rr_callV (As := [.int 2, .int be]) (rest := []) (kc2 := 0) (ks2 := 0) dX9_would_141 okX4_put lX9_242 lo_7 sh_7 rfl rfl (Nat.le_of_ble_eq_true rfl) (Nat.le_of_ble_eq_true rfl) rfl (by omega) (by simp [jj_rk]) (by simp [jj_rk]) ?_
                            refine sp_X4_putL2  (fun h39 e40 r41 => ?_)
                            have e42 := jj_lo0 (X := [10, 11]) e38 e40 (by decide)
                            show jj_R _ _ kc ks (jj_S, 782, h39, g) 144 [(0, .ref 0), (1, .int fi), (2, .int ha), (3, .int be), (4, .int tw), (5, .int fr), (6, .int se), (7, .int sl), (8, .int dy)] [] Q
                            refine rr_aload_n 0 rfl rfl dX9_would_144 ?_
                            refine rr_getR dX9_would_145 fX9_34 lo_0 sh_0 rfl ?_
                            refine rr_iconst 3 rfl dX9_would_148 ?_
                            refine rr_iload 4 rfl dX9_would_149 ?_
                            refine rr_callV (As := [.int 3, .int tw]) (rest := []) (kc2 := 0) (ks2 := 0) dX9_would_151 okX4_put lX9_242 lo_7 sh_7 rfl rfl (Nat.le_of_ble_eq_true rfl) (Nat.le_of_ble_eq_true rfl) rfl (by omega) (by simp [jj_rk]) (by simp [jj_rk]) ?_
                            refine sp_X4_putL3  (fun h43 e44 r45 => ?_)
                            have e46 := jj_lo0 (X := [10, 11]) e42 e44 (by decide)
                            show jj_R _ _ kc ks (jj_S, 782, h43, g) 154 [(0, .ref 0), (1, .int fi), (2, .int ha), (3, .int be), (4, .int tw), (5, .int fr), (6, .int se), (7, .int sl), (8, .int dy)] [] Q
                            refine rr_aload_n 0 rfl rfl dX9_would_154 ?_
                            refine rr_getR dX9_would_155 fX9_34 lo_0 sh_0 rfl ?_
                            refine rr_iconst 4 rfl dX9_would_158 ?_
                            refine rr_iload 5 rfl dX9_would_159 ?_
                            refine rr_callV (As := [.int 4, .int fr]) (rest := []) (kc2 := 0) (ks2 := 0) dX9_would_161 okX4_put lX9_242 lo_7 sh_7 rfl rfl (Nat.le_of_ble_eq_true rfl) (Nat.le_of_ble_eq_true rfl) rfl (by omega) (by simp [jj_rk]) (by simp [jj_rk]) ?_
                            refine sp_X4_putL4  (fun h47 e48 r49 => ?_)
                            have e50 := jj_lo0 (X := [10, 11]) e46 e48 (by decide)
                            show jj_R _ _ kc ks (jj_S, 782, h47, g) 164 [(0, .ref 0), (1, .int fi), (2, .int ha), (3, .int be), (4, .int tw), (5, .int fr), (6, .int se), (7, .int sl), (8, .int dy)] [] Q
                            refine rr_aload_n 0 rfl rfl dX9_would_164 ?_
                            refine rr_getR dX9_would_165 fX9_34 lo_0 sh_0 rfl ?_
                            refine rr_iconst 5 rfl dX9_would_168 ?_
                            refine rr_iload 6 rfl dX9_would_169 ?_
                            refine rr_callV (As := [.int 5, .int se]) (rest := []) (kc2 := 0) (ks2 := 0) dX9_would_171 okX4_put lX9_242 lo_7 sh_7 rfl rfl (Nat.le_of_ble_eq_true rfl) (Nat.le_of_ble_eq_true rfl) rfl (by omega) (by simp [jj_rk]) (by simp [jj_rk]) ?_
                            refine sp_X4_putL5  (fun h51 e52 r53 => ?_)
                            have e54 := jj_lo0 (X := [10, 11]) e50 e52 (by decide)
                            show jj_R _ _ kc ks (jj_S, 782, h51, g) 174 [(0, .ref 0), (1, .int fi), (2, .int ha), (3, .int be), (4, .int tw), (5, .int fr), (6, .int se), (7, .int sl), (8, .int dy)] [] Q
                            refine rr_aload_n 0 rfl rfl dX9_would_174 ?_
                            refine rr_getR dX9_would_175 fX9_34 lo_0 sh_0 rfl ?_
                            refine rr_bipush 6 rfl dX9_would_178 ?_
                            refine rr_iload 7 rfl dX9_would_180 ?_
                            refine rr_callV (As := [.int 6, .int sl]) (rest := []) (kc2 := 0) (ks2 := 0) dX9_would_182 okX4_put lX9_242 lo_7 sh_7 rfl rfl (Nat.le_of_ble_eq_true rfl) (Nat.le_of_ble_eq_true rfl) rfl (by omega) (by simp [jj_rk]) (by simp [jj_rk]) ?_
                            refine sp_X4_putL6  (fun h55 e56 r57 => ?_)
                            have e58 := jj_lo0 (X := [10, 11]) e54 e56 (by decide)
                            show jj_R _ _ kc ks (jj_S, 782, h55, g) 185 [(0, .ref 0), (1, .int fi), (2, .int ha), (3, .int be), (4, .int tw), (5, .int fr), (6, .int se), (7, .int sl), (8, .int dy)] [] Q
                            refine rr_aload_n 0 rfl rfl dX9_would_185 ?_
                            refine rr_getR dX9_would_186 fX9_34 lo_0 sh_0 rfl ?_
                            refine rr_bipush 7 rfl dX9_would_189 ?_
                            refine rr_iload 8 rfl dX9_would_191 ?_
                            refine rr_callV (As := [.int 7, .int dy]) (rest := []) (kc2 := 0) (ks2 := 0) dX9_would_193 okX4_put lX9_242 lo_7 sh_7 rfl rfl (Nat.le_of_ble_eq_true rfl) (Nat.le_of_ble_eq_true rfl) rfl (by omega) (by simp [jj_rk]) (by simp [jj_rk]) ?_
                            refine sp_X4_putL7  (fun h59 e60 r61 => ?_)
                            have e62 := jj_lo0 (X := [10, 11]) e58 e60 (by decide)
                            show jj_R _ _ kc ks (jj_S, 782, h59, g) 196 [(0, .ref 0), (1, .int fi), (2, .int ha), (3, .int be), (4, .int tw), (5, .int fr), (6, .int se), (7, .int sl), (8, .int dy)] [] Q
                            refine rr_aload_n 0 rfl rfl dX9_would_196 ?_
                            refine rr_getR dX9_would_197 fX9_34 lo_0 sh_0 rfl ?_
                            refine rr_callV (As := []) (rest := []) (kc2 := 0) (ks2 := 0) dX9_would_200 okX4_worth lX9_246 lo_7 sh_7 rfl rfl (Nat.le_of_ble_eq_true rfl) (Nat.le_of_ble_eq_true rfl) rfl (by omega) (by simp [jj_rk]) (by simp [jj_rk]) ?_
                            refine sp_X4_worth (by first | assumption | (rw [e62 7 (by decide)]; assumption) | (rw [e62 1 (by decide)]; assumption) | exact jj_pers hP hn (by assumption) | exact vp_in_nI (by omega) (by decide) | decide | omega) (by first | assumption | (rw [e62 7 (by decide)]; assumption) | (rw [e62 1 (by decide)]; assumption) | exact jj_pers hP hn (by assumption) | exact vp_in_nI (by omega) (by decide) | decide | omega) (fun h63 e64 => ?_)
                            have e65 := jj_lo0 (X := [10, 11]) e62 e64 (by decide)
                            show jj_R _ _ kc ks (jj_S, 782, h63, g) 203 [(0, .ref 0), (1, .int fi), (2, .int ha), (3, .int be), (4, .int tw), (5, .int fr), (6, .int se), (7, .int sl), (8, .int dy)] [.int (vX4_worth (h59 8) (h59 10) (h59 11) m)] Q
                            try rw [e62 8 (by decide)]
                            refine rr_ireturn dX9_would_203 rfl ?_
                            have hv : vX4_worth (h 8) (h59 10) (h59 11) m = (hd_val (h 8) m (hd_vals fi ha be tw fr se sl dy)) := by
                              rw [hd_worth]
                              refine hd_congr (fun j hj => ?_)
                              rw [r61, r57, r53, r49, r45, r41, r37, r33]
                              rcases (show j = 0 ∨ j = 1 ∨ j = 2 ∨ j = 3 ∨ j = 4 ∨ j = 5 ∨ j = 6 ∨ j = 7 by omega) with rfl | rfl | rfl | rfl | rfl | rfl | rfl | rfl <;> rfl
                            rw [hv]
                            refine jj_Qh (jj_addr (B := h63) (o := 0) (r := (h 0)) (e65 0 (by decide))) ?_
                            simpa only [vX9_would, rX9_would_0, if_neg c1, if_neg c3, if_neg c5, if_neg c7, if_neg c10, if_neg c12, if_neg c14, if_neg c16, if_neg c19, if_neg c21, if_neg c23, if_neg c26, if_neg c28] using kq h63 e65
def fX9_dry_1 (k : Int32) (v : Int32) (N : Nat) (k1 : Nat) (a1 : Int64 × Int64) : Int64 × Int64 := (if (nI k1) < k then (a1.1, ((a1.2 * ((nI (N - k1)) : Int32).toInt64) / ((nI (k1 + 1)) : Int32).toInt64)) else ((a1.1 + ((a1.2 * (vX9_power ((16 : Int32) - v) k1)) * (vX9_power v (N - k1)))), ((a1.2 * ((nI (N - k1)) : Int32).toInt64) / ((nI (k1 + 1)) : Int32).toInt64)))
def fX9_dry_2  (k2 : Nat) (a2 : Int64 × Int64) : Sum (Int64 × Int64) (Int64 × Int64) := (if (lg_cmp (a2.1 &&& 1) 0) = 0 then (if (lg_cmp (a2.2 &&& 1) 0) = 0 then (.inl ((a2.1 >>> ((1 : Int32).toInt64 &&& 63)), (a2.2 >>> ((1 : Int32).toInt64 &&& 63)))) else (.inr (a2.1, a2.2))) else (.inr (a2.1, a2.2)))
def vX9_dry (r0 : Nat → Int32) (y : Int32) (k : Int32) (v : Int32) (w : Int32) : jj_Rs := (if y < 0 then (.inr "java/lang/IllegalArgumentException") else (if 12 < y then (.inr "java/lang/IllegalArgumentException") else (if k < 0 then (.inr "java/lang/IllegalArgumentException") else (if 13 < k then (.inr "java/lang/IllegalArgumentException") else (if v < 0 then (.inr "java/lang/IllegalArgumentException") else (if 16 < v then (.inr "java/lang/IllegalArgumentException") else (if (vX9_isBit w) = 0 then (.inr "java/lang/IllegalArgumentException") else (Sum.elim (fun a2 => (if w = 0 then (.inl (some (.long a2.1))) else (.inl (some (.long a2.2))))) (fun r2_ => (if w = 0 then (.inl (some (.long r2_.1))) else (.inl (some (.long r2_.2))))) (jj_fx fX9_dry_2 (4 * (y : Int32).toNatClampNeg) ((jj_fo (fX9_dry_1 k v (y : Int32).toNatClampNeg) ((y : Int32).toNatClampNeg + 1) (0, 1)).1, (vX9_power 16 (y : Int32).toNatClampNeg)))))))))))
def rX9_dry_0 (r0 : Nat → Int32) (y : Int32) (k : Int32) (v : Int32) (w : Int32) : Nat → Int32 := (if y < 0 then (upd r0 14 (r0 14 + 1)) else (if 12 < y then (upd r0 14 (r0 14 + 1)) else (if k < 0 then (upd r0 14 (r0 14 + 1)) else (if 13 < k then (upd r0 14 (r0 14 + 1)) else (if v < 0 then (upd r0 14 (r0 14 + 1)) else (if 16 < v then (upd r0 14 (r0 14 + 1)) else (if (vX9_isBit w) = 0 then (upd r0 14 (r0 14 + 1)) else (Sum.elim (fun a2 => r0) (fun r2_ => r0) (jj_fx fX9_dry_2 (4 * (y : Int32).toNatClampNeg) ((jj_fo (fX9_dry_1 k v (y : Int32).toNatClampNeg) ((y : Int32).toNatClampNeg + 1) (0, 1)).1, (vX9_power 16 (y : Int32).toNatClampNeg)))))))))))
set_option maxHeartbeats 1000000 in
theorem sp_X9_dry {d kc ks : Nat} {h : Nat → Nat → Int32} {g : Nat → Nat → Int64} {Q : jj_Rs → jj_St → Prop} {y : Int32} {k : Int32} {v : Int32} {w : Int32} (kq : Q (vX9_dry (h 0) y k v w) (jj_S, 782, (jj_rs h [(0, (rX9_dry_0 (h 0) y k v w))]), g)) : jj_R mX9_dry (d + 7) (kc + 1) (ks + 6) (jj_S, 782, h, g) 0 [(0, .ref 0), (1, .int y), (2, .int k), (3, .int v), (4, .int w)] [] Q := by
  refine rr_aload_n 0 rfl rfl dX9_dry_0 ?_
  refine rr_iload_n 1 rfl rfl dX9_dry_1 ?_
  refine rr_if_lt dX9_dry_2 (fun c1 => ?_) (fun c1 => ?_)
  · skip
    refine rr_iconst 0 rfl dX9_dry_43 ?_
    refine rr_callV (As := [.int 0]) (rest := []) (kc2 := 1) (ks2 := 6) dX9_dry_44 okX9_require lX9_103 lo_0 sh_0 rfl rfl (Nat.le_of_ble_eq_true rfl) (Nat.le_of_ble_eq_true rfl) rfl (by omega) (by simp [jj_rk]) (by simp [jj_rk]) ?_
    refine sp_X9_require  (fun c => absurd rfl c) (fun _ => ?_)
    show Q (.inr "java/lang/IllegalArgumentException") (jj_S, 782, (jj_rs h [(0, (upd (h 0) 14 ((h 0) 14 + 1)))]), g)
    first | simpa only [vX9_dry, rX9_dry_0, if_pos c1, nI_clamp (show N < 2 ^ 31 by omega)] using kq | simpa only [vX9_dry, rX9_dry_0, if_pos c1] using kq
  · skip
    refine rr_iload_n 1 rfl rfl dX9_dry_5 ?_
    refine rr_bipush 12 rfl dX9_dry_6 ?_
    refine rr_icmp_gt dX9_dry_8 (fun c3 => ?_) (fun c3 => ?_)
    · skip
      refine rr_iconst 0 rfl dX9_dry_43 ?_
      refine rr_callV (As := [.int 0]) (rest := []) (kc2 := 1) (ks2 := 6) dX9_dry_44 okX9_require lX9_103 lo_0 sh_0 rfl rfl (Nat.le_of_ble_eq_true rfl) (Nat.le_of_ble_eq_true rfl) rfl (by omega) (by simp [jj_rk]) (by simp [jj_rk]) ?_
      refine sp_X9_require  (fun c => absurd rfl c) (fun _ => ?_)
      show Q (.inr "java/lang/IllegalArgumentException") (jj_S, 782, (jj_rs h [(0, (upd (h 0) 14 ((h 0) 14 + 1)))]), g)
      first | simpa only [vX9_dry, rX9_dry_0, if_neg c1, if_pos c3, nI_clamp (show N < 2 ^ 31 by omega)] using kq | simpa only [vX9_dry, rX9_dry_0, if_neg c1, if_pos c3] using kq
    · skip
      refine rr_iload_n 2 rfl rfl dX9_dry_11 ?_
      refine rr_if_lt dX9_dry_12 (fun c5 => ?_) (fun c5 => ?_)
      · skip
        refine rr_iconst 0 rfl dX9_dry_43 ?_
        refine rr_callV (As := [.int 0]) (rest := []) (kc2 := 1) (ks2 := 6) dX9_dry_44 okX9_require lX9_103 lo_0 sh_0 rfl rfl (Nat.le_of_ble_eq_true rfl) (Nat.le_of_ble_eq_true rfl) rfl (by omega) (by simp [jj_rk]) (by simp [jj_rk]) ?_
        refine sp_X9_require  (fun c => absurd rfl c) (fun _ => ?_)
        show Q (.inr "java/lang/IllegalArgumentException") (jj_S, 782, (jj_rs h [(0, (upd (h 0) 14 ((h 0) 14 + 1)))]), g)
        first | simpa only [vX9_dry, rX9_dry_0, if_neg c1, if_neg c3, if_pos c5, nI_clamp (show N < 2 ^ 31 by omega)] using kq | simpa only [vX9_dry, rX9_dry_0, if_neg c1, if_neg c3, if_pos c5] using kq
      · skip
        refine rr_iload_n 2 rfl rfl dX9_dry_15 ?_
        refine rr_bipush 13 rfl dX9_dry_16 ?_
        refine rr_icmp_gt dX9_dry_18 (fun c7 => ?_) (fun c7 => ?_)
        · skip
          refine rr_iconst 0 rfl dX9_dry_43 ?_
          refine rr_callV (As := [.int 0]) (rest := []) (kc2 := 1) (ks2 := 6) dX9_dry_44 okX9_require lX9_103 lo_0 sh_0 rfl rfl (Nat.le_of_ble_eq_true rfl) (Nat.le_of_ble_eq_true rfl) rfl (by omega) (by simp [jj_rk]) (by simp [jj_rk]) ?_
          refine sp_X9_require  (fun c => absurd rfl c) (fun _ => ?_)
          show Q (.inr "java/lang/IllegalArgumentException") (jj_S, 782, (jj_rs h [(0, (upd (h 0) 14 ((h 0) 14 + 1)))]), g)
          first | simpa only [vX9_dry, rX9_dry_0, if_neg c1, if_neg c3, if_neg c5, if_pos c7, nI_clamp (show N < 2 ^ 31 by omega)] using kq | simpa only [vX9_dry, rX9_dry_0, if_neg c1, if_neg c3, if_neg c5, if_pos c7] using kq
        · skip
          refine rr_iload_n 3 rfl rfl dX9_dry_21 ?_
          refine rr_if_lt dX9_dry_22 (fun c9 => ?_) (fun c9 => ?_)
          · skip
            refine rr_iconst 0 rfl dX9_dry_43 ?_
            refine rr_callV (As := [.int 0]) (rest := []) (kc2 := 1) (ks2 := 6) dX9_dry_44 okX9_require lX9_103 lo_0 sh_0 rfl rfl (Nat.le_of_ble_eq_true rfl) (Nat.le_of_ble_eq_true rfl) rfl (by omega) (by simp [jj_rk]) (by simp [jj_rk]) ?_
            refine sp_X9_require  (fun c => absurd rfl c) (fun _ => ?_)
            show Q (.inr "java/lang/IllegalArgumentException") (jj_S, 782, (jj_rs h [(0, (upd (h 0) 14 ((h 0) 14 + 1)))]), g)
            first | simpa only [vX9_dry, rX9_dry_0, if_neg c1, if_neg c3, if_neg c5, if_neg c7, if_pos c9, nI_clamp (show N < 2 ^ 31 by omega)] using kq | simpa only [vX9_dry, rX9_dry_0, if_neg c1, if_neg c3, if_neg c5, if_neg c7, if_pos c9] using kq
          · skip
            refine rr_iload_n 3 rfl rfl dX9_dry_25 ?_
            refine rr_bipush 16 rfl dX9_dry_26 ?_
            refine rr_icmp_gt dX9_dry_28 (fun c11 => ?_) (fun c11 => ?_)
            · skip
              refine rr_iconst 0 rfl dX9_dry_43 ?_
              refine rr_callV (As := [.int 0]) (rest := []) (kc2 := 1) (ks2 := 6) dX9_dry_44 okX9_require lX9_103 lo_0 sh_0 rfl rfl (Nat.le_of_ble_eq_true rfl) (Nat.le_of_ble_eq_true rfl) rfl (by omega) (by simp [jj_rk]) (by simp [jj_rk]) ?_
              refine sp_X9_require  (fun c => absurd rfl c) (fun _ => ?_)
              show Q (.inr "java/lang/IllegalArgumentException") (jj_S, 782, (jj_rs h [(0, (upd (h 0) 14 ((h 0) 14 + 1)))]), g)
              first | simpa only [vX9_dry, rX9_dry_0, if_neg c1, if_neg c3, if_neg c5, if_neg c7, if_neg c9, if_pos c11, nI_clamp (show N < 2 ^ 31 by omega)] using kq | simpa only [vX9_dry, rX9_dry_0, if_neg c1, if_neg c3, if_neg c5, if_neg c7, if_neg c9, if_pos c11] using kq
            · skip
              refine rr_iload 4 rfl dX9_dry_31 ?_
              refine rr_callS (As := [.int w]) (rest := [.ref 0]) (kc2 := 0) (ks2 := 0) dX9_dry_33 okX9_isBit lX9_235 rfl (Nat.le_of_ble_eq_true rfl) (Nat.le_of_ble_eq_true rfl) rfl (by omega) (by simp [jj_rk]) (by simp [jj_rk]) ?_
              refine sp_X9_isBit  ?_
              show jj_R _ _ (kc + 1) (ks + 6) (jj_S, 782, h, g) 36 [(0, .ref 0), (1, .int y), (2, .int k), (3, .int v), (4, .int w)] [.int (vX9_isBit w), .ref 0] Q
              refine rr_if_eq dX9_dry_36 (fun c13 => ?_) (fun c13 => ?_)
              · skip
                refine rr_iconst 0 rfl dX9_dry_43 ?_
                refine rr_callV (As := [.int 0]) (rest := []) (kc2 := 1) (ks2 := 6) dX9_dry_44 okX9_require lX9_103 lo_0 sh_0 rfl rfl (Nat.le_of_ble_eq_true rfl) (Nat.le_of_ble_eq_true rfl) rfl (by omega) (by simp [jj_rk]) (by simp [jj_rk]) ?_
                refine sp_X9_require  (fun c => absurd rfl c) (fun _ => ?_)
                show Q (.inr "java/lang/IllegalArgumentException") (jj_S, 782, (jj_rs h [(0, (upd (h 0) 14 ((h 0) 14 + 1)))]), g)
                first | simpa only [vX9_dry, rX9_dry_0, if_neg c1, if_neg c3, if_neg c5, if_neg c7, if_neg c9, if_neg c11, if_pos c13, nI_clamp (show N < 2 ^ 31 by omega)] using kq | simpa only [vX9_dry, rX9_dry_0, if_neg c1, if_neg c3, if_neg c5, if_neg c7, if_neg c9, if_neg c11, if_pos c13] using kq
              · skip
                refine rr_iconst 1 rfl dX9_dry_39 ?_
                refine rr_goto dX9_dry_40 ?_
                refine rr_callV (As := [.int 1]) (rest := []) (kc2 := 1) (ks2 := 6) dX9_dry_44 okX9_require lX9_103 lo_0 sh_0 rfl rfl (Nat.le_of_ble_eq_true rfl) (Nat.le_of_ble_eq_true rfl) rfl (by omega) (by simp [jj_rk]) (by simp [jj_rk]) ?_
                refine sp_X9_require  (fun _ => ?_) (fun c => absurd c (by decide))
                show jj_R _ _ kc ks (jj_S, 782, h, g) 47 [(0, .ref 0), (1, .int y), (2, .int k), (3, .int v), (4, .int w)] [] Q
                obtain ⟨N, hN, rfl⟩ := jj_get0 (x := y) (b := 12) (by decide) (by assumption) (by assumption)
                refine rr_lconst 0 rfl dX9_dry_47 ?_
                refine rr_lstore [(0, .ref 0), (1, .int (nI N)), (2, .int k), (3, .int v), (4, .int w), (5, .long 0)] dX9_dry_48 (by decide) rfl ?_
                refine rr_bipush 16 rfl dX9_dry_50 ?_
                refine rr_iload_n 1 rfl rfl dX9_dry_52 ?_
                refine rr_callS (As := [.int 16, .int (nI N)]) (rest := []) (kc2 := 0) (ks2 := 0) dX9_dry_53 okX9_power lX9_331 rfl (Nat.le_of_ble_eq_true rfl) (Nat.le_of_ble_eq_true rfl) rfl (by omega) (by simp [jj_rk]) (by simp [jj_rk]) ?_
                refine sp_X9_power (q := N) rfl (by first | exact jj_l0 (by omega) | assumption | exact jj_pers hP hn (by assumption) | exact vp_in_nI (by omega) (by decide) | decide | omega) ?_
                show jj_R _ _ kc ks (jj_S, 782, h, g) 56 [(0, .ref 0), (1, .int (nI N)), (2, .int k), (3, .int v), (4, .int w), (5, .long 0)] [.long (vX9_power 16 N)] Q
                refine rr_lstore [(0, .ref 0), (1, .int (nI N)), (2, .int k), (3, .int v), (4, .int w), (5, .long 0), (7, .long (vX9_power 16 N))] dX9_dry_56 (by decide) rfl ?_
                refine rr_lconst 1 rfl dX9_dry_58 ?_
                refine rr_lstore [(0, .ref 0), (1, .int (nI N)), (2, .int k), (3, .int v), (4, .int w), (5, .long 0), (7, .long (vX9_power 16 N)), (9, .long 1)] dX9_dry_59 (by decide) rfl ?_
                refine rr_iconst 0 rfl dX9_dry_61 ?_
                refine rr_istore [(0, .ref 0), (1, .int (nI N)), (2, .int k), (3, .int v), (4, .int w), (5, .long 0), (7, .long (vX9_power 16 N)), (9, .long 1), (11, .int 0)] dX9_dry_62 (by decide) rfl ?_
                refine jj_for (fun k1 (a1 : Int64 × Int64) => jj_R _ _ kc ks (jj_S, 782, h, g) 64 [(0, .ref 0), (1, .int (nI N)), (2, .int k), (3, .int v), (4, .int w), (5, .long a1.1), (7, .long (vX9_power 16 N)), (9, .long a1.2), (11, .int (nI k1))] [] Q) (fX9_dry_1 k v N) (N + 1) (0, 1) ?_ ?_
                · intro k1 hk1 ih1
                  generalize jj_fo _ k1 _ = a1 at ih1 ⊢
                  try dsimp only at ih1 ⊢
                  refine rr_iload 8 rfl dX9_dry_64 ?_
                  refine rr_iload_n 1 rfl rfl dX9_dry_66 ?_
                  refine rr_icmp_gt dX9_dry_67 (fun c => absurd c (jj_ngt (a := k1) (b := N) (by omega) (by omega))) (fun _ => ?_)
                  refine rr_iload 8 rfl dX9_dry_70 ?_
                  refine rr_iload_n 2 rfl rfl dX9_dry_72 ?_
                  refine rr_icmp_lt dX9_dry_73 (fun c16 => ?_) (fun c16 => ?_)
                  · skip
                    refine rr_lload 7 rfl dX9_dry_102 ?_
                    refine rr_iload_n 1 rfl rfl dX9_dry_104 ?_
                    refine rr_iload 8 rfl dX9_dry_105 ?_
                    refine rr_isub dX9_dry_107 ?_
                    rw [show ((nI N) - (nI k1) : Int32) = (nI (N - k1)) from jj_nsub (a := N) (b := k1) (by omega)]
                    refine rr_i2l dX9_dry_108 ?_
                    refine rr_lmul dX9_dry_109 ?_
                    refine rr_iload 8 rfl dX9_dry_110 ?_
                    refine rr_iconst 1 rfl dX9_dry_112 ?_
                    refine rr_iadd dX9_dry_113 ?_
                    rw [show ((nI k1) + 1 : Int32) = (nI (k1 + 1)) from nI_add (k1) (1)]
                    refine rr_i2l dX9_dry_114 ?_
                    refine rr_ldiv (by first | exact jj_l0 (by omega) | assumption | exact jj_pers hP hn (by assumption) | exact vp_in_nI (by omega) (by decide) | decide | omega) dX9_dry_115 ?_
                    refine rr_lstore [(0, .ref 0), (1, .int (nI N)), (2, .int k), (3, .int v), (4, .int w), (5, .long a1.1), (7, .long (vX9_power 16 N)), (9, .long ((a1.2 * ((nI (N - k1)) : Int32).toInt64) / ((nI (k1 + 1)) : Int32).toInt64)), (11, .int (nI k1))] dX9_dry_116 (by decide) rfl ?_
                    refine rr_iinc 8 1 [(0, .ref 0), (1, .int (nI N)), (2, .int k), (3, .int v), (4, .int w), (5, .long a1.1), (7, .long (vX9_power 16 N)), (9, .long ((a1.2 * ((nI (N - k1)) : Int32).toInt64) / ((nI (k1 + 1)) : Int32).toInt64)), (11, .int ((nI k1) + 1))] dX9_dry_118 rfl rfl (by decide) rfl ?_
                    refine rr_goto dX9_dry_121 ?_
                    try simp only [(nI_clamp (show k1 < 2 ^ 31 by omega))] at c16
                    simpa only [nI_1, (nI_clamp (show k1 < 2 ^ 31 by omega)), fX9_dry_1, if_pos c16] using ih1
                  · skip
                    refine rr_lload 5 rfl dX9_dry_76 ?_
                    refine rr_lload 7 rfl dX9_dry_78 ?_
                    refine rr_bipush 16 rfl dX9_dry_80 ?_
                    refine rr_iload_n 3 rfl rfl dX9_dry_82 ?_
                    refine rr_isub dX9_dry_83 ?_
                    refine rr_iload 8 rfl dX9_dry_84 ?_
                    refine rr_callS (As := [.int ((16 : Int32) - v), .int (nI k1)]) (rest := [.long a1.2, .long a1.1]) (kc2 := 0) (ks2 := 0) dX9_dry_86 okX9_power lX9_331 rfl (Nat.le_of_ble_eq_true rfl) (Nat.le_of_ble_eq_true rfl) rfl (by omega) (by simp [jj_rk]) (by simp [jj_rk]) ?_
                    refine sp_X9_power (q := k1) rfl (by first | exact jj_l0 (by omega) | assumption | exact jj_pers hP hn (by assumption) | exact vp_in_nI (by omega) (by decide) | decide | omega) ?_
                    show jj_R _ _ kc ks (jj_S, 782, h, g) 89 [(0, .ref 0), (1, .int (nI N)), (2, .int k), (3, .int v), (4, .int w), (5, .long a1.1), (7, .long (vX9_power 16 N)), (9, .long a1.2), (11, .int (nI k1))] [.long (vX9_power ((16 : Int32) - v) k1), .long a1.2, .long a1.1] Q
                    refine rr_lmul dX9_dry_89 ?_
                    refine rr_iload_n 3 rfl rfl dX9_dry_90 ?_
                    refine rr_iload_n 1 rfl rfl dX9_dry_91 ?_
                    refine rr_iload 8 rfl dX9_dry_92 ?_
                    refine rr_isub dX9_dry_94 ?_
                    rw [show ((nI N) - (nI k1) : Int32) = (nI (N - k1)) from jj_nsub (a := N) (b := k1) (by omega)]
                    refine rr_callS (As := [.int v, .int (nI (N - k1))]) (rest := [.long (a1.2 * (vX9_power ((16 : Int32) - v) k1)), .long a1.1]) (kc2 := 0) (ks2 := 0) dX9_dry_95 okX9_power lX9_331 rfl (Nat.le_of_ble_eq_true rfl) (Nat.le_of_ble_eq_true rfl) rfl (by omega) (by simp [jj_rk]) (by simp [jj_rk]) ?_
                    refine sp_X9_power (q := (N - k1)) rfl (by first | exact jj_l0 (by omega) | assumption | exact jj_pers hP hn (by assumption) | exact vp_in_nI (by omega) (by decide) | decide | omega) ?_
                    show jj_R _ _ kc ks (jj_S, 782, h, g) 98 [(0, .ref 0), (1, .int (nI N)), (2, .int k), (3, .int v), (4, .int w), (5, .long a1.1), (7, .long (vX9_power 16 N)), (9, .long a1.2), (11, .int (nI k1))] [.long (vX9_power v (N - k1)), .long (a1.2 * (vX9_power ((16 : Int32) - v) k1)), .long a1.1] Q
                    refine rr_lmul dX9_dry_98 ?_
                    refine rr_ladd dX9_dry_99 ?_
                    refine rr_lstore [(0, .ref 0), (1, .int (nI N)), (2, .int k), (3, .int v), (4, .int w), (5, .long (a1.1 + ((a1.2 * (vX9_power ((16 : Int32) - v) k1)) * (vX9_power v (N - k1))))), (7, .long (vX9_power 16 N)), (9, .long a1.2), (11, .int (nI k1))] dX9_dry_100 (by decide) rfl ?_
                    refine rr_lload 7 rfl dX9_dry_102 ?_
                    refine rr_iload_n 1 rfl rfl dX9_dry_104 ?_
                    refine rr_iload 8 rfl dX9_dry_105 ?_
                    refine rr_isub dX9_dry_107 ?_
                    rw [show ((nI N) - (nI k1) : Int32) = (nI (N - k1)) from jj_nsub (a := N) (b := k1) (by omega)]
                    refine rr_i2l dX9_dry_108 ?_
                    refine rr_lmul dX9_dry_109 ?_
                    refine rr_iload 8 rfl dX9_dry_110 ?_
                    refine rr_iconst 1 rfl dX9_dry_112 ?_
                    refine rr_iadd dX9_dry_113 ?_
                    rw [show ((nI k1) + 1 : Int32) = (nI (k1 + 1)) from nI_add (k1) (1)]
                    refine rr_i2l dX9_dry_114 ?_
                    refine rr_ldiv (by first | exact jj_l0 (by omega) | assumption | exact jj_pers hP hn (by assumption) | exact vp_in_nI (by omega) (by decide) | decide | omega) dX9_dry_115 ?_
                    refine rr_lstore [(0, .ref 0), (1, .int (nI N)), (2, .int k), (3, .int v), (4, .int w), (5, .long (a1.1 + ((a1.2 * (vX9_power ((16 : Int32) - v) k1)) * (vX9_power v (N - k1))))), (7, .long (vX9_power 16 N)), (9, .long ((a1.2 * ((nI (N - k1)) : Int32).toInt64) / ((nI (k1 + 1)) : Int32).toInt64)), (11, .int (nI k1))] dX9_dry_116 (by decide) rfl ?_
                    refine rr_iinc 8 1 [(0, .ref 0), (1, .int (nI N)), (2, .int k), (3, .int v), (4, .int w), (5, .long (a1.1 + ((a1.2 * (vX9_power ((16 : Int32) - v) k1)) * (vX9_power v (N - k1))))), (7, .long (vX9_power 16 N)), (9, .long ((a1.2 * ((nI (N - k1)) : Int32).toInt64) / ((nI (k1 + 1)) : Int32).toInt64)), (11, .int ((nI k1) + 1))] dX9_dry_118 rfl rfl (by decide) rfl ?_
                    refine rr_goto dX9_dry_121 ?_
                    try simp only [(nI_clamp (show k1 < 2 ^ 31 by omega))] at c16
                    simpa only [nI_1, (nI_clamp (show k1 < 2 ^ 31 by omega)), fX9_dry_1, if_neg c16] using ih1
                · try dsimp only
                  refine rr_iload 8 rfl dX9_dry_64 ?_
                  refine rr_iload_n 1 rfl rfl dX9_dry_66 ?_
                  refine rr_icmp_gt dX9_dry_67 (fun _ => ?_) (fun c => absurd (nI_lt (by omega) (by omega)) c)
                  refine rr_iconst 0 rfl dX9_dry_124 ?_
                  refine rr_istore [(0, .ref 0), (1, .int (nI N)), (2, .int k), (3, .int v), (4, .int w), (5, .long (jj_fo (fX9_dry_1 k v N) (N + 1) (0, 1)).1), (7, .long (vX9_power 16 N)), (9, .long (jj_fo (fX9_dry_1 k v N) (N + 1) (0, 1)).2), (11, .int 0)] dX9_dry_125 (by decide) rfl ?_
                  refine jj_forx (fun k2 (a2 : Int64 × Int64) => jj_R _ _ kc ks (jj_S, 782, h, g) 127 [(0, .ref 0), (1, .int (nI N)), (2, .int k), (3, .int v), (4, .int w), (5, .long a2.1), (7, .long a2.2), (9, .long (jj_fo (fX9_dry_1 k v N) (N + 1) (0, 1)).2), (11, .int (nI k2))] [] Q) fX9_dry_2 (4 * N) ((jj_fo (fX9_dry_1 k v N) (N + 1) (0, 1)).1, (vX9_power 16 N)) (fun (r2_ : Int64 × Int64) => jj_R mX9_dry (d + 7) kc ks (jj_S, 782, h, g) 171 [(0, .ref 0), (1, .int (nI N)), (2, .int k), (3, .int v), (4, .int w), (5, .long r2_.1), (7, .long r2_.2), (9, .long (jj_fo (fX9_dry_1 k v N) (N + 1) (0, 1)).2)] [] Q) ?_ ?_ ?_
                  · intro k2 hk2 a2 ih2 ix2
                    try dsimp only at ih2 ix2 ⊢
                    refine rr_iload 8 rfl dX9_dry_127 ?_
                    refine rr_iconst 4 rfl dX9_dry_129 ?_
                    refine rr_iload_n 1 rfl rfl dX9_dry_130 ?_
                    refine rr_imul dX9_dry_131 ?_
                    rw [show ((4 : Int32) * (nI N) : Int32) = (nI (4 * N)) from jj_nm (4) (N)]
                    refine rr_icmp_ge dX9_dry_132 (fun c => absurd c (nI_ge (a := k2) (b := (4 * N)) (by omega) (by omega))) (fun _ => ?_)
                    refine rr_lload 5 rfl dX9_dry_135 ?_
                    refine rr_lconst 1 rfl dX9_dry_137 ?_
                    refine rr_land dX9_dry_138 ?_
                    refine rr_lconst 0 rfl dX9_dry_139 ?_
                    refine rr_lcmp dX9_dry_140 ?_
                    refine rr_if_ne dX9_dry_141 (fun c17 => ?_) (fun c17 => ?_)
                    · skip
                      try simp only [(nI_clamp (show k2 < 2 ^ 31 by omega))] at c17
                      refine rr_drop (ls := [(0, .ref 0), (1, .int (nI N)), (2, .int k), (3, .int v), (4, .int w), (5, .long a2.1), (7, .long a2.2), (9, .long (jj_fo (fX9_dry_1 k v N) (N + 1) (0, 1)).2)]) [0, 1, 2, 3, 4, 5, 7, 9] rfl ?_
                      simpa only [nI_1, (nI_clamp (show k2 < 2 ^ 31 by omega)), fX9_dry_2, if_neg c17] using ix2 (a2.1, a2.2) (by simp only [(nI_clamp (show k2 < 2 ^ 31 by omega)), fX9_dry_2, if_neg c17])
                    · skip
                      refine rr_lload 6 rfl dX9_dry_144 ?_
                      refine rr_lconst 1 rfl dX9_dry_146 ?_
                      refine rr_land dX9_dry_147 ?_
                      refine rr_lconst 0 rfl dX9_dry_148 ?_
                      refine rr_lcmp dX9_dry_149 ?_
                      refine rr_if_ne dX9_dry_150 (fun c18 => ?_) (fun c18 => ?_)
                      · skip
                        try simp only [(nI_clamp (show k2 < 2 ^ 31 by omega))] at c17
                        try simp only [(nI_clamp (show k2 < 2 ^ 31 by omega))] at c18
                        refine rr_drop (ls := [(0, .ref 0), (1, .int (nI N)), (2, .int k), (3, .int v), (4, .int w), (5, .long a2.1), (7, .long a2.2), (9, .long (jj_fo (fX9_dry_1 k v N) (N + 1) (0, 1)).2)]) [0, 1, 2, 3, 4, 5, 7, 9] rfl ?_
                        simpa only [nI_1, (nI_clamp (show k2 < 2 ^ 31 by omega)), fX9_dry_2, if_pos c17, if_neg c18] using ix2 (a2.1, a2.2) (by simp only [(nI_clamp (show k2 < 2 ^ 31 by omega)), fX9_dry_2, if_pos c17, if_neg c18])
                      · skip
                        refine rr_lload 5 rfl dX9_dry_153 ?_
                        refine rr_iconst 1 rfl dX9_dry_155 ?_
                        refine rr_lshr dX9_dry_156 ?_
                        refine rr_lstore [(0, .ref 0), (1, .int (nI N)), (2, .int k), (3, .int v), (4, .int w), (5, .long (a2.1 >>> ((1 : Int32).toInt64 &&& 63))), (7, .long a2.2), (9, .long (jj_fo (fX9_dry_1 k v N) (N + 1) (0, 1)).2), (11, .int (nI k2))] dX9_dry_157 (by decide) rfl ?_
                        refine rr_lload 6 rfl dX9_dry_159 ?_
                        refine rr_iconst 1 rfl dX9_dry_161 ?_
                        refine rr_lshr dX9_dry_162 ?_
                        refine rr_lstore [(0, .ref 0), (1, .int (nI N)), (2, .int k), (3, .int v), (4, .int w), (5, .long (a2.1 >>> ((1 : Int32).toInt64 &&& 63))), (7, .long (a2.2 >>> ((1 : Int32).toInt64 &&& 63))), (9, .long (jj_fo (fX9_dry_1 k v N) (N + 1) (0, 1)).2), (11, .int (nI k2))] dX9_dry_163 (by decide) rfl ?_
                        refine rr_iinc 8 1 [(0, .ref 0), (1, .int (nI N)), (2, .int k), (3, .int v), (4, .int w), (5, .long (a2.1 >>> ((1 : Int32).toInt64 &&& 63))), (7, .long (a2.2 >>> ((1 : Int32).toInt64 &&& 63))), (9, .long (jj_fo (fX9_dry_1 k v N) (N + 1) (0, 1)).2), (11, .int ((nI k2) + 1))] dX9_dry_165 rfl rfl (by decide) rfl ?_
                        refine rr_goto dX9_dry_168 ?_
                        try simp only [(nI_clamp (show k2 < 2 ^ 31 by omega))] at c17
                        try simp only [(nI_clamp (show k2 < 2 ^ 31 by omega))] at c18
                        simpa only [nI_1, (nI_clamp (show k2 < 2 ^ 31 by omega)), fX9_dry_2, if_pos c17, if_pos c18] using ih2 ((a2.1 >>> ((1 : Int32).toInt64 &&& 63)), (a2.2 >>> ((1 : Int32).toInt64 &&& 63))) (by simp only [(nI_clamp (show k2 < 2 ^ 31 by omega)), fX9_dry_2, if_pos c17, if_pos c18])
                  · intro a2 hx2
                    try dsimp only
                    refine rr_iload 8 rfl dX9_dry_127 ?_
                    refine rr_iconst 4 rfl dX9_dry_129 ?_
                    refine rr_iload_n 1 rfl rfl dX9_dry_130 ?_
                    refine rr_imul dX9_dry_131 ?_
                    rw [show ((4 : Int32) * (nI N) : Int32) = (nI (4 * N)) from jj_nm (4) (N)]
                    refine rr_icmp_ge dX9_dry_132 (fun _ => ?_) (fun c => absurd (jj_le_rf _) c)
                    refine rr_iload 4 rfl dX9_dry_171 ?_
                    refine rr_if_ne dX9_dry_173 (fun c19 => ?_) (fun c19 => ?_)
                    · skip
                      refine rr_lload 6 rfl dX9_dry_181 ?_
                      refine rr_lreturn dX9_dry_183 rfl ?_
                      refine jj_Qh (jj_addr (B := h) (o := 0) (r := (h 0)) rfl) ?_
                      first | simpa only [vX9_dry, rX9_dry_0, if_neg c1, if_neg c3, if_neg c5, if_neg c7, if_neg c9, if_neg c11, if_neg c13, hx2, if_neg c19, Sum.elim_inl, Sum.elim_inr, nI_clamp (show N < 2 ^ 31 by omega)] using kq | simpa only [vX9_dry, rX9_dry_0, if_neg c1, if_neg c3, if_neg c5, if_neg c7, if_neg c9, if_neg c11, if_neg c13, hx2, if_neg c19, Sum.elim_inl, Sum.elim_inr] using kq
                    · skip
                      refine rr_lload 5 rfl dX9_dry_176 ?_
                      refine rr_goto dX9_dry_178 ?_
                      refine rr_lreturn dX9_dry_183 rfl ?_
                      refine jj_Qh (jj_addr (B := h) (o := 0) (r := (h 0)) rfl) ?_
                      first | simpa only [vX9_dry, rX9_dry_0, if_neg c1, if_neg c3, if_neg c5, if_neg c7, if_neg c9, if_neg c11, if_neg c13, hx2, if_pos c19, Sum.elim_inl, Sum.elim_inr, nI_clamp (show N < 2 ^ 31 by omega)] using kq | simpa only [vX9_dry, rX9_dry_0, if_neg c1, if_neg c3, if_neg c5, if_neg c7, if_neg c9, if_neg c11, if_neg c13, hx2, if_pos c19, Sum.elim_inl, Sum.elim_inr] using kq
                  · intro r2_ hx2
                    try dsimp only
                    refine rr_iload 4 rfl dX9_dry_171 ?_
                    refine rr_if_ne dX9_dry_173 (fun c20 => ?_) (fun c20 => ?_)
                    · skip
                      refine rr_lload 6 rfl dX9_dry_181 ?_
                      refine rr_lreturn dX9_dry_183 rfl ?_
                      refine jj_Qh (jj_addr (B := h) (o := 0) (r := (h 0)) rfl) ?_
                      first | simpa only [vX9_dry, rX9_dry_0, if_neg c1, if_neg c3, if_neg c5, if_neg c7, if_neg c9, if_neg c11, if_neg c13, hx2, if_neg c20, Sum.elim_inl, Sum.elim_inr, nI_clamp (show N < 2 ^ 31 by omega)] using kq | simpa only [vX9_dry, rX9_dry_0, if_neg c1, if_neg c3, if_neg c5, if_neg c7, if_neg c9, if_neg c11, if_neg c13, hx2, if_neg c20, Sum.elim_inl, Sum.elim_inr] using kq
                    · skip
                      refine rr_lload 5 rfl dX9_dry_176 ?_
                      refine rr_goto dX9_dry_178 ?_
                      refine rr_lreturn dX9_dry_183 rfl ?_
                      refine jj_Qh (jj_addr (B := h) (o := 0) (r := (h 0)) rfl) ?_
                      first | simpa only [vX9_dry, rX9_dry_0, if_neg c1, if_neg c3, if_neg c5, if_neg c7, if_neg c9, if_neg c11, if_neg c13, hx2, if_pos c20, Sum.elim_inl, Sum.elim_inr, nI_clamp (show N < 2 ^ 31 by omega)] using kq | simpa only [vX9_dry, rX9_dry_0, if_neg c1, if_neg c3, if_neg c5, if_neg c7, if_neg c9, if_neg c11, if_neg c13, hx2, if_pos c20, Sum.elim_inl, Sum.elim_inr] using kq
def fX9_ring_1 (r42 : Nat → Int32) (k1 : Nat) (a1 : Int32 × Int32 × Int32) : Sum (Int32 × Int32 × Int32) (Int32 × Int32 × Int32) := (if 8 < a1.2.2 then (.inr (a1.1, a1.2.1, a1.2.2)) else (if a1.2.1 < 0 then (.inr (a1.1, a1.2.1, a1.2.2)) else (if 8 ≤ a1.2.1 then (.inr (a1.1, a1.2.1, a1.2.2)) else (if (a1.1 &&& (1 <<< (a1.2.1 &&& 31))) = 0 then (if (r42 (a1.2.1 : Int32).toNatClampNeg) = (-1) then (.inl ((a1.1 ||| (1 <<< (a1.2.1 &&& 31))), (r42 (a1.2.1 : Int32).toNatClampNeg), (a1.2.2 + 0))) else (.inl ((a1.1 ||| (1 <<< (a1.2.1 &&& 31))), (r42 (a1.2.1 : Int32).toNatClampNeg), (a1.2.2 + 1)))) else (.inr (a1.1, a1.2.1, a1.2.2))))))
def vX9_ring (r0 : Nat → Int32) (r1 : Nat → Int32) (r42 : Nat → Int32) (p : Int32) (w : Int32) : jj_Rs := (if (vX9_isPerson r1 p) = 0 then (.inr "java/util/NoSuchElementException") else (if (vX9_isBit w) = 0 then (.inr "java/lang/IllegalArgumentException") else (Sum.elim (fun a1 => (if w = 0 then (.inl (some (.int a1.2.2))) else (if a1.2.1 = (-1) then (.inl (some (.int 0))) else (.inl (some (.int 1)))))) (fun r1_ => (if w = 0 then (.inl (some (.int r1_.2.2))) else (if r1_.2.1 = (-1) then (.inl (some (.int 0))) else (.inl (some (.int 1)))))) (jj_fx (fX9_ring_1 r42) 10 (0, p, 0)))))
def rX9_ring_0 (r0 : Nat → Int32) (r1 : Nat → Int32) (r42 : Nat → Int32) (p : Int32) (w : Int32) : Nat → Int32 := (if (vX9_isPerson r1 p) = 0 then (upd r0 13 (r0 13 + 1)) else (if (vX9_isBit w) = 0 then (upd r0 14 (r0 14 + 1)) else (Sum.elim (fun a1 => r0) (fun r1_ => r0) (jj_fx (fX9_ring_1 r42) 10 (0, p, 0)))))
set_option maxHeartbeats 1000000 in
theorem sp_X9_ring {d kc ks : Nat} {h : Nat → Nat → Int32} {g : Nat → Nat → Int64} {Q : jj_Rs → jj_St → Prop} {n : Nat} {p : Int32} {w : Int32} (hP : h 1 0 = nI n) (hn : n ≤ 8) (kq : Q (vX9_ring (h 0) (h 1) (h 42) p w) (jj_S, 782, (jj_rs h [(0, (rX9_ring_0 (h 0) (h 1) (h 42) p w))]), g)) : jj_R mX9_ring (d + 7) (kc + 2) (ks + 12) (jj_S, 782, h, g) 0 [(0, .ref 0), (1, .int p), (2, .int w)] [] Q := by
  refine rr_aload_n 0 rfl rfl dX9_ring_0 ?_
  refine rr_iload_n 1 rfl rfl dX9_ring_1 ?_
  refine rr_callV (As := [.int p]) (rest := []) (kc2 := 1) (ks2 := 6) dX9_ring_2 okX9_requirePerson lX9_198 lo_0 sh_0 rfl rfl (Nat.le_of_ble_eq_true rfl) (Nat.le_of_ble_eq_true rfl) rfl (by omega) (by simp [jj_rk]) (by simp [jj_rk]) ?_
  refine sp_X9_requirePerson  (fun c1 => ?_) (fun c1 => ?_)
  · skip
    show jj_R _ _ (kc + 1) (ks + 6) (jj_S, 782, h, g) 5 [(0, .ref 0), (1, .int p), (2, .int w)] [] Q
    refine rr_aload_n 0 rfl rfl dX9_ring_5 ?_
    refine rr_iload_n 2 rfl rfl dX9_ring_6 ?_
    refine rr_callS (As := [.int w]) (rest := [.ref 0]) (kc2 := 0) (ks2 := 0) dX9_ring_7 okX9_isBit lX9_235 rfl (Nat.le_of_ble_eq_true rfl) (Nat.le_of_ble_eq_true rfl) rfl (by omega) (by simp [jj_rk]) (by simp [jj_rk]) ?_
    refine sp_X9_isBit  ?_
    show jj_R _ _ (kc + 1) (ks + 6) (jj_S, 782, h, g) 10 [(0, .ref 0), (1, .int p), (2, .int w)] [.int (vX9_isBit w), .ref 0] Q
    refine rr_callV (As := [.int (vX9_isBit w)]) (rest := []) (kc2 := 1) (ks2 := 6) dX9_ring_10 okX9_require lX9_103 lo_0 sh_0 rfl rfl (Nat.le_of_ble_eq_true rfl) (Nat.le_of_ble_eq_true rfl) rfl (by omega) (by simp [jj_rk]) (by simp [jj_rk]) ?_
    refine sp_X9_require  (fun c2 => ?_) (fun c2 => ?_)
    · skip
      show jj_R _ _ kc ks (jj_S, 782, h, g) 13 [(0, .ref 0), (1, .int p), (2, .int w)] [] Q
      refine rr_iconst 0 rfl dX9_ring_13 ?_
      refine rr_istore_n [(0, .ref 0), (1, .int p), (2, .int w), (3, .int 0)] dX9_ring_14 rfl (by decide) rfl ?_
      refine rr_iload_n 1 rfl rfl dX9_ring_15 ?_
      refine rr_istore [(0, .ref 0), (1, .int p), (2, .int w), (3, .int 0), (4, .int p)] dX9_ring_16 (by decide) rfl ?_
      refine rr_iconst 0 rfl dX9_ring_18 ?_
      refine rr_istore [(0, .ref 0), (1, .int p), (2, .int w), (3, .int 0), (4, .int p), (5, .int 0)] dX9_ring_19 (by decide) rfl ?_
      refine jj_forx (fun k1 (a1 : Int32 × Int32 × Int32) => (nI k1 = a1.2.2 ∨ a1.2.1 = -1) → jj_R _ _ kc ks (jj_S, 782, h, g) 21 [(0, .ref 0), (1, .int p), (2, .int w), (3, .int a1.1), (4, .int a1.2.1), (5, .int a1.2.2)] [] Q) (fX9_ring_1 (h 42)) 10 (0, p, 0) (fun (r1_ : Int32 × Int32 × Int32) => jj_R mX9_ring (d + 7) kc ks (jj_S, 782, h, g) 87 [(0, .ref 0), (1, .int p), (2, .int w), (3, .int r1_.1), (4, .int r1_.2.1), (5, .int r1_.2.2)] [] Q) ?_ ?_ ?_ (Or.inl rfl)
      · intro k1 hk1 a1 ih1 ix1 hi1
        try dsimp only at ih1 ix1 ⊢
        refine rr_iload 5 rfl dX9_ring_21 ?_
        refine rr_bipush 8 rfl dX9_ring_23 ?_
        refine rr_icmp_gt dX9_ring_25 (fun c3 => ?_) (fun c3 => ?_)
        · skip
          try simp only [(nI_clamp (show k1 < 2 ^ 31 by omega))] at c3
          simpa only [nI_1, (nI_clamp (show k1 < 2 ^ 31 by omega)), fX9_ring_1, if_pos c3] using ix1 (a1.1, a1.2.1, a1.2.2) (by simp only [(nI_clamp (show k1 < 2 ^ 31 by omega)), fX9_ring_1, if_pos c3])
        · skip
          refine rr_iload 4 rfl dX9_ring_28 ?_
          refine rr_if_lt dX9_ring_30 (fun c4 => ?_) (fun c4 => ?_)
          · skip
            try simp only [(nI_clamp (show k1 < 2 ^ 31 by omega))] at c3
            try simp only [(nI_clamp (show k1 < 2 ^ 31 by omega))] at c4
            simpa only [nI_1, (nI_clamp (show k1 < 2 ^ 31 by omega)), fX9_ring_1, if_neg c3, if_pos c4] using ix1 (a1.1, a1.2.1, a1.2.2) (by simp only [(nI_clamp (show k1 < 2 ^ 31 by omega)), fX9_ring_1, if_neg c3, if_pos c4])
          · skip
            refine rr_iload 4 rfl dX9_ring_33 ?_
            refine rr_bipush 8 rfl dX9_ring_35 ?_
            refine rr_icmp_ge dX9_ring_37 (fun c5 => ?_) (fun c5 => ?_)
            · skip
              try simp only [(nI_clamp (show k1 < 2 ^ 31 by omega))] at c3
              try simp only [(nI_clamp (show k1 < 2 ^ 31 by omega))] at c4
              try simp only [(nI_clamp (show k1 < 2 ^ 31 by omega))] at c5
              simpa only [nI_1, (nI_clamp (show k1 < 2 ^ 31 by omega)), fX9_ring_1, if_neg c3, if_neg c4, if_pos c5] using ix1 (a1.1, a1.2.1, a1.2.2) (by simp only [(nI_clamp (show k1 < 2 ^ 31 by omega)), fX9_ring_1, if_neg c3, if_neg c4, if_pos c5])
            · skip
              refine rr_iload_n 3 rfl rfl dX9_ring_40 ?_
              refine rr_iconst 1 rfl dX9_ring_41 ?_
              refine rr_iload 4 rfl dX9_ring_42 ?_
              refine rr_ishl dX9_ring_44 ?_
              refine rr_iand dX9_ring_45 ?_
              refine rr_if_ne dX9_ring_46 (fun c6 => ?_) (fun c6 => ?_)
              · skip
                try simp only [(nI_clamp (show k1 < 2 ^ 31 by omega))] at c3
                try simp only [(nI_clamp (show k1 < 2 ^ 31 by omega))] at c4
                try simp only [(nI_clamp (show k1 < 2 ^ 31 by omega))] at c5
                try simp only [(nI_clamp (show k1 < 2 ^ 31 by omega))] at c6
                simpa only [nI_1, (nI_clamp (show k1 < 2 ^ 31 by omega)), fX9_ring_1, if_neg c3, if_neg c4, if_neg c5, if_neg c6] using ix1 (a1.1, a1.2.1, a1.2.2) (by simp only [(nI_clamp (show k1 < 2 ^ 31 by omega)), fX9_ring_1, if_neg c3, if_neg c4, if_neg c5, if_neg c6])
              · skip
                refine rr_iload_n 3 rfl rfl dX9_ring_49 ?_
                refine rr_iconst 1 rfl dX9_ring_50 ?_
                refine rr_iload 4 rfl dX9_ring_51 ?_
                refine rr_ishl dX9_ring_53 ?_
                refine rr_ior dX9_ring_54 ?_
                refine rr_istore_n [(0, .ref 0), (1, .int p), (2, .int w), (3, .int (a1.1 ||| (1 <<< (a1.2.1 &&& 31)))), (4, .int a1.2.1), (5, .int a1.2.2)] dX9_ring_55 rfl (by decide) rfl ?_
                refine rr_aload_n 0 rfl rfl dX9_ring_56 ?_
                refine rr_getR dX9_ring_57 fX9_80 lo_0 sh_0 rfl ?_
                refine rr_getR dX9_ring_60 fX9_229 lo_38 sh_38 rfl ?_
                refine rr_iload 4 rfl dX9_ring_63 ?_
                refine rr_iaload dX9_ring_65 lo_42 sh_42 (by first | exact jj_inC (by assumption) (by assumption) | assumption | exact jj_pers hP hn (by assumption) | exact vp_in_nI (by omega) (by decide) | decide | omega) ?_
                refine rr_istore [(0, .ref 0), (1, .int p), (2, .int w), (3, .int (a1.1 ||| (1 <<< (a1.2.1 &&& 31)))), (4, .int ((h 42) (a1.2.1 : Int32).toNatClampNeg)), (5, .int a1.2.2)] dX9_ring_66 (by decide) rfl ?_
                refine rr_iload 5 rfl dX9_ring_68 ?_
                refine rr_iload 4 rfl dX9_ring_70 ?_
                refine rr_iconst (-1) rfl dX9_ring_72 ?_
                refine rr_icmp_ne dX9_ring_73 (fun c7 => ?_) (fun c7 => ?_)
                · skip
                  refine rr_iconst 1 rfl dX9_ring_80 ?_
                  refine rr_iadd dX9_ring_81 ?_
                  refine rr_istore [(0, .ref 0), (1, .int p), (2, .int w), (3, .int (a1.1 ||| (1 <<< (a1.2.1 &&& 31)))), (4, .int ((h 42) (a1.2.1 : Int32).toNatClampNeg)), (5, .int (a1.2.2 + 1))] dX9_ring_82 (by decide) rfl ?_
                  refine rr_goto dX9_ring_84 ?_
                  try simp only [(nI_clamp (show k1 < 2 ^ 31 by omega))] at c3
                  try simp only [(nI_clamp (show k1 < 2 ^ 31 by omega))] at c4
                  try simp only [(nI_clamp (show k1 < 2 ^ 31 by omega))] at c5
                  try simp only [(nI_clamp (show k1 < 2 ^ 31 by omega))] at c6
                  try simp only [(nI_clamp (show k1 < 2 ^ 31 by omega))] at c7
                  simpa only [nI_1, (nI_clamp (show k1 < 2 ^ 31 by omega)), fX9_ring_1, if_neg c3, if_neg c4, if_neg c5, if_pos c6, if_neg c7] using ih1 ((a1.1 ||| (1 <<< (a1.2.1 &&& 31))), ((h 42) (a1.2.1 : Int32).toNatClampNeg), (a1.2.2 + 1)) (by simp only [(nI_clamp (show k1 < 2 ^ 31 by omega)), fX9_ring_1, if_neg c3, if_neg c4, if_neg c5, if_pos c6, if_neg c7]) (by first | exact Or.inr (by assumption) | exact Or.inl (jj_rg hi1 (by assumption) rfl))
                · skip
                  refine rr_iconst 0 rfl dX9_ring_76 ?_
                  refine rr_goto dX9_ring_77 ?_
                  refine rr_iadd dX9_ring_81 ?_
                  refine rr_istore [(0, .ref 0), (1, .int p), (2, .int w), (3, .int (a1.1 ||| (1 <<< (a1.2.1 &&& 31)))), (4, .int ((h 42) (a1.2.1 : Int32).toNatClampNeg)), (5, .int (a1.2.2 + 0))] dX9_ring_82 (by decide) rfl ?_
                  refine rr_goto dX9_ring_84 ?_
                  try simp only [(nI_clamp (show k1 < 2 ^ 31 by omega))] at c3
                  try simp only [(nI_clamp (show k1 < 2 ^ 31 by omega))] at c4
                  try simp only [(nI_clamp (show k1 < 2 ^ 31 by omega))] at c5
                  try simp only [(nI_clamp (show k1 < 2 ^ 31 by omega))] at c6
                  try simp only [(nI_clamp (show k1 < 2 ^ 31 by omega))] at c7
                  simpa only [nI_1, (nI_clamp (show k1 < 2 ^ 31 by omega)), fX9_ring_1, if_neg c3, if_neg c4, if_neg c5, if_pos c6, if_pos c7] using ih1 ((a1.1 ||| (1 <<< (a1.2.1 &&& 31))), ((h 42) (a1.2.1 : Int32).toNatClampNeg), (a1.2.2 + 0)) (by simp only [(nI_clamp (show k1 < 2 ^ 31 by omega)), fX9_ring_1, if_neg c3, if_neg c4, if_neg c5, if_pos c6, if_pos c7]) (by first | exact Or.inr (by assumption) | exact Or.inl (jj_rg hi1 (by assumption) rfl))
      · intro a1 hx1 hi1
        try dsimp only
        refine rr_iload 5 rfl dX9_ring_21 ?_
        refine rr_bipush 8 rfl dX9_ring_23 ?_
        refine rr_icmp_gt dX9_ring_25 (fun c8 => ?_) (fun c8 => ?_)
        · skip
          refine rr_iload_n 2 rfl rfl dX9_ring_87 ?_
          refine rr_if_ne dX9_ring_88 (fun c9 => ?_) (fun c9 => ?_)
          · skip
            refine rr_iload 4 rfl dX9_ring_96 ?_
            refine rr_iconst (-1) rfl dX9_ring_98 ?_
            refine rr_icmp_ne dX9_ring_99 (fun c10 => ?_) (fun c10 => ?_)
            · skip
              refine rr_iconst 1 rfl dX9_ring_106 ?_
              refine rr_ireturn dX9_ring_107 rfl ?_
              refine jj_Qh (jj_addr (B := h) (o := 0) (r := (h 0)) rfl) ?_
              simpa only [vX9_ring, rX9_ring_0, if_neg c1, if_neg c2, hx1, if_pos c8, if_neg c9, if_neg c10, Sum.elim_inl, Sum.elim_inr] using kq
            · skip
              refine rr_iconst 0 rfl dX9_ring_102 ?_
              refine rr_goto dX9_ring_103 ?_
              refine rr_ireturn dX9_ring_107 rfl ?_
              refine jj_Qh (jj_addr (B := h) (o := 0) (r := (h 0)) rfl) ?_
              simpa only [vX9_ring, rX9_ring_0, if_neg c1, if_neg c2, hx1, if_pos c8, if_neg c9, if_pos c10, Sum.elim_inl, Sum.elim_inr] using kq
          · skip
            refine rr_iload 5 rfl dX9_ring_91 ?_
            refine rr_goto dX9_ring_93 ?_
            refine rr_ireturn dX9_ring_107 rfl ?_
            refine jj_Qh (jj_addr (B := h) (o := 0) (r := (h 0)) rfl) ?_
            simpa only [vX9_ring, rX9_ring_0, if_neg c1, if_neg c2, hx1, if_pos c8, if_pos c9, Sum.elim_inl, Sum.elim_inr] using kq
        · skip
          refine rr_iload 4 rfl dX9_ring_28 ?_
          refine rr_if_lt dX9_ring_30 (fun c11 => ?_) (fun c11 => ?_)
          · skip
            refine rr_iload_n 2 rfl rfl dX9_ring_87 ?_
            refine rr_if_ne dX9_ring_88 (fun c12 => ?_) (fun c12 => ?_)
            · skip
              refine rr_iload 4 rfl dX9_ring_96 ?_
              refine rr_iconst (-1) rfl dX9_ring_98 ?_
              refine rr_icmp_ne dX9_ring_99 (fun c13 => ?_) (fun c13 => ?_)
              · skip
                refine rr_iconst 1 rfl dX9_ring_106 ?_
                refine rr_ireturn dX9_ring_107 rfl ?_
                refine jj_Qh (jj_addr (B := h) (o := 0) (r := (h 0)) rfl) ?_
                simpa only [vX9_ring, rX9_ring_0, if_neg c1, if_neg c2, hx1, if_neg c8, if_pos c11, if_neg c12, if_neg c13, Sum.elim_inl, Sum.elim_inr] using kq
              · skip
                refine rr_iconst 0 rfl dX9_ring_102 ?_
                refine rr_goto dX9_ring_103 ?_
                refine rr_ireturn dX9_ring_107 rfl ?_
                refine jj_Qh (jj_addr (B := h) (o := 0) (r := (h 0)) rfl) ?_
                simpa only [vX9_ring, rX9_ring_0, if_neg c1, if_neg c2, hx1, if_neg c8, if_pos c11, if_neg c12, if_pos c13, Sum.elim_inl, Sum.elim_inr] using kq
            · skip
              refine rr_iload 5 rfl dX9_ring_91 ?_
              refine rr_goto dX9_ring_93 ?_
              refine rr_ireturn dX9_ring_107 rfl ?_
              refine jj_Qh (jj_addr (B := h) (o := 0) (r := (h 0)) rfl) ?_
              simpa only [vX9_ring, rX9_ring_0, if_neg c1, if_neg c2, hx1, if_neg c8, if_pos c11, if_pos c12, Sum.elim_inl, Sum.elim_inr] using kq
          · skip
            refine rr_iload 4 rfl dX9_ring_33 ?_
            refine rr_bipush 8 rfl dX9_ring_35 ?_
            refine rr_icmp_ge dX9_ring_37 (fun c14 => ?_) (fun c14 => ?_)
            · skip
              refine rr_iload_n 2 rfl rfl dX9_ring_87 ?_
              refine rr_if_ne dX9_ring_88 (fun c15 => ?_) (fun c15 => ?_)
              · skip
                refine rr_iload 4 rfl dX9_ring_96 ?_
                refine rr_iconst (-1) rfl dX9_ring_98 ?_
                refine rr_icmp_ne dX9_ring_99 (fun c16 => ?_) (fun c16 => ?_)
                · skip
                  refine rr_iconst 1 rfl dX9_ring_106 ?_
                  refine rr_ireturn dX9_ring_107 rfl ?_
                  refine jj_Qh (jj_addr (B := h) (o := 0) (r := (h 0)) rfl) ?_
                  simpa only [vX9_ring, rX9_ring_0, if_neg c1, if_neg c2, hx1, if_neg c8, if_neg c11, if_pos c14, if_neg c15, if_neg c16, Sum.elim_inl, Sum.elim_inr] using kq
                · skip
                  refine rr_iconst 0 rfl dX9_ring_102 ?_
                  refine rr_goto dX9_ring_103 ?_
                  refine rr_ireturn dX9_ring_107 rfl ?_
                  refine jj_Qh (jj_addr (B := h) (o := 0) (r := (h 0)) rfl) ?_
                  simpa only [vX9_ring, rX9_ring_0, if_neg c1, if_neg c2, hx1, if_neg c8, if_neg c11, if_pos c14, if_neg c15, if_pos c16, Sum.elim_inl, Sum.elim_inr] using kq
              · skip
                refine rr_iload 5 rfl dX9_ring_91 ?_
                refine rr_goto dX9_ring_93 ?_
                refine rr_ireturn dX9_ring_107 rfl ?_
                refine jj_Qh (jj_addr (B := h) (o := 0) (r := (h 0)) rfl) ?_
                simpa only [vX9_ring, rX9_ring_0, if_neg c1, if_neg c2, hx1, if_neg c8, if_neg c11, if_pos c14, if_pos c15, Sum.elim_inl, Sum.elim_inr] using kq
            · skip
              refine rr_iload_n 3 rfl rfl dX9_ring_40 ?_
              refine rr_iconst 1 rfl dX9_ring_41 ?_
              refine rr_iload 4 rfl dX9_ring_42 ?_
              refine rr_ishl dX9_ring_44 ?_
              refine rr_iand dX9_ring_45 ?_
              refine rr_if_ne dX9_ring_46 (fun c17 => ?_) (fun c17 => ?_)
              · skip
                refine rr_iload_n 2 rfl rfl dX9_ring_87 ?_
                refine rr_if_ne dX9_ring_88 (fun c18 => ?_) (fun c18 => ?_)
                · skip
                  refine rr_iload 4 rfl dX9_ring_96 ?_
                  refine rr_iconst (-1) rfl dX9_ring_98 ?_
                  refine rr_icmp_ne dX9_ring_99 (fun c19 => ?_) (fun c19 => ?_)
                  · skip
                    refine rr_iconst 1 rfl dX9_ring_106 ?_
                    refine rr_ireturn dX9_ring_107 rfl ?_
                    refine jj_Qh (jj_addr (B := h) (o := 0) (r := (h 0)) rfl) ?_
                    simpa only [vX9_ring, rX9_ring_0, if_neg c1, if_neg c2, hx1, if_neg c8, if_neg c11, if_neg c14, if_neg c18, if_neg c19, Sum.elim_inl, Sum.elim_inr] using kq
                  · skip
                    refine rr_iconst 0 rfl dX9_ring_102 ?_
                    refine rr_goto dX9_ring_103 ?_
                    refine rr_ireturn dX9_ring_107 rfl ?_
                    refine jj_Qh (jj_addr (B := h) (o := 0) (r := (h 0)) rfl) ?_
                    simpa only [vX9_ring, rX9_ring_0, if_neg c1, if_neg c2, hx1, if_neg c8, if_neg c11, if_neg c14, if_neg c18, if_pos c19, Sum.elim_inl, Sum.elim_inr] using kq
                · skip
                  refine rr_iload 5 rfl dX9_ring_91 ?_
                  refine rr_goto dX9_ring_93 ?_
                  refine rr_ireturn dX9_ring_107 rfl ?_
                  refine jj_Qh (jj_addr (B := h) (o := 0) (r := (h 0)) rfl) ?_
                  simpa only [vX9_ring, rX9_ring_0, if_neg c1, if_neg c2, hx1, if_neg c8, if_neg c11, if_neg c14, if_pos c18, Sum.elim_inl, Sum.elim_inr] using kq
              · skip
                exact (jj_rgD hi1 (by assumption) (by assumption)).elim
      · intro r1_ hx1
        try dsimp only
        refine rr_iload_n 2 rfl rfl dX9_ring_87 ?_
        refine rr_if_ne dX9_ring_88 (fun c20 => ?_) (fun c20 => ?_)
        · skip
          refine rr_iload 4 rfl dX9_ring_96 ?_
          refine rr_iconst (-1) rfl dX9_ring_98 ?_
          refine rr_icmp_ne dX9_ring_99 (fun c21 => ?_) (fun c21 => ?_)
          · skip
            refine rr_iconst 1 rfl dX9_ring_106 ?_
            refine rr_ireturn dX9_ring_107 rfl ?_
            refine jj_Qh (jj_addr (B := h) (o := 0) (r := (h 0)) rfl) ?_
            simpa only [vX9_ring, rX9_ring_0, if_neg c1, if_neg c2, hx1, if_neg c20, if_neg c21, Sum.elim_inl, Sum.elim_inr] using kq
          · skip
            refine rr_iconst 0 rfl dX9_ring_102 ?_
            refine rr_goto dX9_ring_103 ?_
            refine rr_ireturn dX9_ring_107 rfl ?_
            refine jj_Qh (jj_addr (B := h) (o := 0) (r := (h 0)) rfl) ?_
            simpa only [vX9_ring, rX9_ring_0, if_neg c1, if_neg c2, hx1, if_neg c20, if_pos c21, Sum.elim_inl, Sum.elim_inr] using kq
        · skip
          refine rr_iload 5 rfl dX9_ring_91 ?_
          refine rr_goto dX9_ring_93 ?_
          refine rr_ireturn dX9_ring_107 rfl ?_
          refine jj_Qh (jj_addr (B := h) (o := 0) (r := (h 0)) rfl) ?_
          simpa only [vX9_ring, rX9_ring_0, if_neg c1, if_neg c2, hx1, if_pos c20, Sum.elim_inl, Sum.elim_inr] using kq
    · skip
      show Q (.inr "java/lang/IllegalArgumentException") (jj_S, 782, (jj_rs h [(0, (upd (h 0) 14 ((h 0) 14 + 1)))]), g)
      simpa only [vX9_ring, rX9_ring_0, if_neg c1, if_pos c2] using kq
  · skip
    show Q (.inr "java/util/NoSuchElementException") (jj_S, 782, (jj_rs h [(0, (upd (h 0) 13 ((h 0) 13 + 1)))]), g)
    simpa only [vX9_ring, rX9_ring_0, if_pos c1] using kq
def fX6_writeTo_35_1 (r39 : Nat → Int32) (r40 : Nat → Int32) (r41 : Nat → Int32) (r42 : Nat → Int32) (q : Nat) (k1 : Nat) (a1 : (Nat → Int32)) : (Nat → Int32) := (upd (upd (upd (upd a1 (((nI (((q * 35) + 3) + (4 * k1))) : Int32).toNatClampNeg) (r39 k1)) (((nI (((q * 35) + 4) + (4 * k1))) : Int32).toNatClampNeg) (r40 k1)) (((nI (((q * 35) + 5) + (4 * k1))) : Int32).toNatClampNeg) (r41 k1)) (((nI (((q * 35) + 6) + (4 * k1))) : Int32).toNatClampNeg) (r42 k1))
def rX6_writeTo_35_35 (r35 : Nat → Int32) (r38 : Nat → Int32) (r39 : Nat → Int32) (r40 : Nat → Int32) (r41 : Nat → Int32) (r42 : Nat → Int32) (q : Nat) : Nat → Int32 := (jj_fo (fX6_writeTo_35_1 r39 r40 r41 r42 q) 8 (upd (upd (upd r35 (((nI (q * 35)) : Int32).toNatClampNeg) (r38 0)) (((nI ((q * 35) + 1)) : Int32).toNatClampNeg) (r38 1)) (((nI ((q * 35) + 2)) : Int32).toNatClampNeg) (r38 2)))
set_option maxHeartbeats 1000000 in
theorem sp_X6_writeTo_35 {d kc ks : Nat} {h : Nat → Nat → Int32} {g : Nat → Nat → Int64} {Q : jj_Rs → jj_St → Prop} {q : Nat} {q_ : Int32} (hq_ : q_ = nI q) (hq : q < 16) (kq : Q (.inl none) (jj_S, 782, (jj_rs h [(35, (rX6_writeTo_35_35 (h 35) (h 38) (h 39) (h 40) (h 41) (h 42) q))]), g)) : jj_R mX6_writeTo (d + 0) kc ks (jj_S, 782, h, g) 0 [(0, .ref 38), (1, .ref 35), (2, .int q_)] [] Q := by
  subst hq_
  refine rr_iload_n 2 rfl rfl dX6_writeTo_0 ?_
  refine rr_bipush 35 rfl dX6_writeTo_1 ?_
  refine rr_imul dX6_writeTo_3 ?_
  rw [show ((nI q) * 35 : Int32) = (nI (q * 35)) from jj_nm (q) (35)]
  refine rr_istore_n [(0, .ref 38), (1, .ref 35), (2, .int (nI q)), (3, .int (nI (q * 35)))] dX6_writeTo_4 rfl (by decide) rfl ?_
  refine rr_iload_n 2 rfl rfl dX6_writeTo_5 ?_
  refine rr_if_lt dX6_writeTo_6 (fun c => absurd c (nI_pos (by omega))) (fun _ => ?_)
  refine rr_iload_n 3 rfl rfl dX6_writeTo_9 ?_
  refine rr_bipush 35 rfl dX6_writeTo_10 ?_
  refine rr_iadd dX6_writeTo_12 ?_
  rw [show ((nI (q * 35)) + 35 : Int32) = (nI ((q * 35) + 35)) from nI_add ((q * 35)) (35)]
  refine rr_aload_n 1 rfl rfl dX6_writeTo_13 ?_
  refine rr_alenI 560 dX6_writeTo_14 lo_35 sh_35 (by decide) rfl ?_
  refine rr_icmp_le dX6_writeTo_15 (fun _ => ?_) (fun c => absurd (jj_le_n (b := 560) (by omega) (by decide)) c)
  refine rr_aload_n 1 rfl rfl dX6_writeTo_19 ?_
  refine rr_iload_n 3 rfl rfl dX6_writeTo_20 ?_
  refine rr_aload_n 0 rfl rfl dX6_writeTo_21 ?_
  refine rr_getI dX6_writeTo_22 fX6_24 lo_38 sh_38 rfl ?_
  refine rr_iastore dX6_writeTo_25 lo_35 sh_35 (by first | assumption | exact jj_pers hP hn (by assumption) | exact vp_in_nI (by omega) (by decide) | decide | omega) ?_
  rw [jj_rs_set0 (B := h) (o := 35) (r := (h 35)) rfl]
  refine rr_aload_n 1 rfl rfl dX6_writeTo_26 ?_
  refine rr_iload_n 3 rfl rfl dX6_writeTo_27 ?_
  refine rr_iconst 1 rfl dX6_writeTo_28 ?_
  refine rr_iadd dX6_writeTo_29 ?_
  rw [show ((nI (q * 35)) + 1 : Int32) = (nI ((q * 35) + 1)) from nI_add ((q * 35)) (1)]
  refine rr_aload_n 0 rfl rfl dX6_writeTo_30 ?_
  refine rr_getI dX6_writeTo_31 fX6_28 lo_38 sh_38 rfl ?_
  rw [show (jj_rs h [(35, (upd (h 35) (((nI (q * 35)) : Int32).toNatClampNeg) ((h 38) 0)))]) 38 = h 38 from rfl]
  refine rr_iastore dX6_writeTo_34 lo_35 sh_35 (by first | assumption | exact jj_pers hP hn (by assumption) | exact vp_in_nI (by omega) (by decide) | decide | omega) ?_
  rw [jj_rs_set (B := h) (L := [(35, (upd (h 35) (((nI (q * 35)) : Int32).toNatClampNeg) ((h 38) 0)))]) (L2 := [(35, (upd (upd (h 35) (((nI (q * 35)) : Int32).toNatClampNeg) ((h 38) 0)) (((nI ((q * 35) + 1)) : Int32).toNatClampNeg) ((h 38) 1)))]) (r := (upd (h 35) (((nI (q * 35)) : Int32).toNatClampNeg) ((h 38) 0))) rfl rfl]
  refine rr_aload_n 1 rfl rfl dX6_writeTo_35 ?_
  refine rr_iload_n 3 rfl rfl dX6_writeTo_36 ?_
  refine rr_iconst 2 rfl dX6_writeTo_37 ?_
  refine rr_iadd dX6_writeTo_38 ?_
  rw [show ((nI (q * 35)) + 2 : Int32) = (nI ((q * 35) + 2)) from nI_add ((q * 35)) (2)]
  refine rr_aload_n 0 rfl rfl dX6_writeTo_39 ?_
  refine rr_getI dX6_writeTo_40 fX6_31 lo_38 sh_38 rfl ?_
  rw [show (jj_rs h [(35, (upd (upd (h 35) (((nI (q * 35)) : Int32).toNatClampNeg) ((h 38) 0)) (((nI ((q * 35) + 1)) : Int32).toNatClampNeg) ((h 38) 1)))]) 38 = h 38 from rfl]
  refine rr_iastore dX6_writeTo_43 lo_35 sh_35 (by first | assumption | exact jj_pers hP hn (by assumption) | exact vp_in_nI (by omega) (by decide) | decide | omega) ?_
  rw [jj_rs_set (B := h) (L := [(35, (upd (upd (h 35) (((nI (q * 35)) : Int32).toNatClampNeg) ((h 38) 0)) (((nI ((q * 35) + 1)) : Int32).toNatClampNeg) ((h 38) 1)))]) (L2 := [(35, (upd (upd (upd (h 35) (((nI (q * 35)) : Int32).toNatClampNeg) ((h 38) 0)) (((nI ((q * 35) + 1)) : Int32).toNatClampNeg) ((h 38) 1)) (((nI ((q * 35) + 2)) : Int32).toNatClampNeg) ((h 38) 2)))]) (r := (upd (upd (h 35) (((nI (q * 35)) : Int32).toNatClampNeg) ((h 38) 0)) (((nI ((q * 35) + 1)) : Int32).toNatClampNeg) ((h 38) 1))) rfl rfl]
  refine rr_iconst 0 rfl dX6_writeTo_44 ?_
  refine rr_istore [(0, .ref 38), (1, .ref 35), (2, .int (nI q)), (3, .int (nI (q * 35))), (4, .int 0)] dX6_writeTo_45 (by decide) rfl ?_
  refine jj_for (fun k1 (a1 : (Nat → Int32)) => jj_R _ _ kc ks (jj_S, 782, (jj_rs h [(35, a1)]), g) 47 [(0, .ref 38), (1, .ref 35), (2, .int (nI q)), (3, .int (nI (q * 35))), (4, .int (nI k1))] [] Q) (fX6_writeTo_35_1 (h 39) (h 40) (h 41) (h 42) q) 8 (upd (upd (upd (h 35) (((nI (q * 35)) : Int32).toNatClampNeg) ((h 38) 0)) (((nI ((q * 35) + 1)) : Int32).toNatClampNeg) ((h 38) 1)) (((nI ((q * 35) + 2)) : Int32).toNatClampNeg) ((h 38) 2)) ?_ ?_
  · intro k1 hk1 ih1
    generalize jj_fo _ k1 _ = a1 at ih1 ⊢
    try dsimp only at ih1 ⊢
    refine rr_iload 4 rfl dX6_writeTo_47 ?_
    refine rr_bipush 8 rfl dX6_writeTo_49 ?_
    refine rr_icmp_ge dX6_writeTo_51 (fun c => absurd c (nI_ge (a := k1) (b := 8) (by omega) (by omega))) (fun _ => ?_)
    refine rr_aload_n 1 rfl rfl dX6_writeTo_54 ?_
    refine rr_iload_n 3 rfl rfl dX6_writeTo_55 ?_
    refine rr_iconst 3 rfl dX6_writeTo_56 ?_
    refine rr_iadd dX6_writeTo_57 ?_
    rw [show ((nI (q * 35)) + 3 : Int32) = (nI ((q * 35) + 3)) from nI_add ((q * 35)) (3)]
    refine rr_iconst 4 rfl dX6_writeTo_58 ?_
    refine rr_iload 4 rfl dX6_writeTo_59 ?_
    refine rr_imul dX6_writeTo_61 ?_
    rw [show ((4 : Int32) * (nI k1) : Int32) = (nI (4 * k1)) from jj_nm (4) (k1)]
    refine rr_iadd dX6_writeTo_62 ?_
    rw [show ((nI ((q * 35) + 3)) + (nI (4 * k1)) : Int32) = (nI (((q * 35) + 3) + (4 * k1))) from nI_add (((q * 35) + 3)) ((4 * k1))]
    refine rr_aload_n 0 rfl rfl dX6_writeTo_63 ?_
    refine rr_getR dX6_writeTo_64 fX6_9 lo_38 sh_38 rfl ?_
    refine rr_iload 4 rfl dX6_writeTo_67 ?_
    refine rr_iaload dX6_writeTo_69 lo_39 sh_39 (by first | assumption | exact jj_pers hP hn (by assumption) | exact vp_in_nI (by omega) (by decide) | decide | omega) ?_
    rw [show (jj_rs h [(35, a1)]) 39 = h 39 from rfl]
    refine rr_iastore dX6_writeTo_70 lo_35 sh_35 (by first | assumption | exact jj_pers hP hn (by assumption) | exact vp_in_nI (by omega) (by decide) | decide | omega) ?_
    rw [jj_rs_set (B := h) (L := [(35, a1)]) (L2 := [(35, (upd a1 (((nI (((q * 35) + 3) + (4 * k1))) : Int32).toNatClampNeg) ((h 39) ((nI k1) : Int32).toNatClampNeg)))]) (r := a1) rfl rfl]
    refine rr_aload_n 1 rfl rfl dX6_writeTo_71 ?_
    refine rr_iload_n 3 rfl rfl dX6_writeTo_72 ?_
    refine rr_iconst 4 rfl dX6_writeTo_73 ?_
    refine rr_iadd dX6_writeTo_74 ?_
    rw [show ((nI (q * 35)) + 4 : Int32) = (nI ((q * 35) + 4)) from nI_add ((q * 35)) (4)]
    refine rr_iconst 4 rfl dX6_writeTo_75 ?_
    refine rr_iload 4 rfl dX6_writeTo_76 ?_
    refine rr_imul dX6_writeTo_78 ?_
    rw [show ((4 : Int32) * (nI k1) : Int32) = (nI (4 * k1)) from jj_nm (4) (k1)]
    refine rr_iadd dX6_writeTo_79 ?_
    rw [show ((nI ((q * 35) + 4)) + (nI (4 * k1)) : Int32) = (nI (((q * 35) + 4) + (4 * k1))) from nI_add (((q * 35) + 4)) ((4 * k1))]
    refine rr_aload_n 0 rfl rfl dX6_writeTo_80 ?_
    refine rr_getR dX6_writeTo_81 fX6_15 lo_38 sh_38 rfl ?_
    refine rr_iload 4 rfl dX6_writeTo_84 ?_
    refine rr_iaload dX6_writeTo_86 lo_40 sh_40 (by first | assumption | exact jj_pers hP hn (by assumption) | exact vp_in_nI (by omega) (by decide) | decide | omega) ?_
    rw [show (jj_rs h [(35, (upd a1 (((nI (((q * 35) + 3) + (4 * k1))) : Int32).toNatClampNeg) ((h 39) ((nI k1) : Int32).toNatClampNeg)))]) 40 = h 40 from rfl]
    refine rr_iastore dX6_writeTo_87 lo_35 sh_35 (by first | assumption | exact jj_pers hP hn (by assumption) | exact vp_in_nI (by omega) (by decide) | decide | omega) ?_
    rw [jj_rs_set (B := h) (L := [(35, (upd a1 (((nI (((q * 35) + 3) + (4 * k1))) : Int32).toNatClampNeg) ((h 39) ((nI k1) : Int32).toNatClampNeg)))]) (L2 := [(35, (upd (upd a1 (((nI (((q * 35) + 3) + (4 * k1))) : Int32).toNatClampNeg) ((h 39) ((nI k1) : Int32).toNatClampNeg)) (((nI (((q * 35) + 4) + (4 * k1))) : Int32).toNatClampNeg) ((h 40) ((nI k1) : Int32).toNatClampNeg)))]) (r := (upd a1 (((nI (((q * 35) + 3) + (4 * k1))) : Int32).toNatClampNeg) ((h 39) ((nI k1) : Int32).toNatClampNeg))) rfl rfl]
    refine rr_aload_n 1 rfl rfl dX6_writeTo_88 ?_
    refine rr_iload_n 3 rfl rfl dX6_writeTo_89 ?_
    refine rr_iconst 5 rfl dX6_writeTo_90 ?_
    refine rr_iadd dX6_writeTo_91 ?_
    rw [show ((nI (q * 35)) + 5 : Int32) = (nI ((q * 35) + 5)) from nI_add ((q * 35)) (5)]
    refine rr_iconst 4 rfl dX6_writeTo_92 ?_
    refine rr_iload 4 rfl dX6_writeTo_93 ?_
    refine rr_imul dX6_writeTo_95 ?_
    rw [show ((4 : Int32) * (nI k1) : Int32) = (nI (4 * k1)) from jj_nm (4) (k1)]
    refine rr_iadd dX6_writeTo_96 ?_
    rw [show ((nI ((q * 35) + 5)) + (nI (4 * k1)) : Int32) = (nI (((q * 35) + 5) + (4 * k1))) from nI_add (((q * 35) + 5)) ((4 * k1))]
    refine rr_aload_n 0 rfl rfl dX6_writeTo_97 ?_
    refine rr_getR dX6_writeTo_98 fX6_18 lo_38 sh_38 rfl ?_
    refine rr_iload 4 rfl dX6_writeTo_101 ?_
    refine rr_iaload dX6_writeTo_103 lo_41 sh_41 (by first | assumption | exact jj_pers hP hn (by assumption) | exact vp_in_nI (by omega) (by decide) | decide | omega) ?_
    rw [show (jj_rs h [(35, (upd (upd a1 (((nI (((q * 35) + 3) + (4 * k1))) : Int32).toNatClampNeg) ((h 39) ((nI k1) : Int32).toNatClampNeg)) (((nI (((q * 35) + 4) + (4 * k1))) : Int32).toNatClampNeg) ((h 40) ((nI k1) : Int32).toNatClampNeg)))]) 41 = h 41 from rfl]
    refine rr_iastore dX6_writeTo_104 lo_35 sh_35 (by first | assumption | exact jj_pers hP hn (by assumption) | exact vp_in_nI (by omega) (by decide) | decide | omega) ?_
    rw [jj_rs_set (B := h) (L := [(35, (upd (upd a1 (((nI (((q * 35) + 3) + (4 * k1))) : Int32).toNatClampNeg) ((h 39) ((nI k1) : Int32).toNatClampNeg)) (((nI (((q * 35) + 4) + (4 * k1))) : Int32).toNatClampNeg) ((h 40) ((nI k1) : Int32).toNatClampNeg)))]) (L2 := [(35, (upd (upd (upd a1 (((nI (((q * 35) + 3) + (4 * k1))) : Int32).toNatClampNeg) ((h 39) ((nI k1) : Int32).toNatClampNeg)) (((nI (((q * 35) + 4) + (4 * k1))) : Int32).toNatClampNeg) ((h 40) ((nI k1) : Int32).toNatClampNeg)) (((nI (((q * 35) + 5) + (4 * k1))) : Int32).toNatClampNeg) ((h 41) ((nI k1) : Int32).toNatClampNeg)))]) (r := (upd (upd a1 (((nI (((q * 35) + 3) + (4 * k1))) : Int32).toNatClampNeg) ((h 39) ((nI k1) : Int32).toNatClampNeg)) (((nI (((q * 35) + 4) + (4 * k1))) : Int32).toNatClampNeg) ((h 40) ((nI k1) : Int32).toNatClampNeg))) rfl rfl]
    refine rr_aload_n 1 rfl rfl dX6_writeTo_105 ?_
    refine rr_iload_n 3 rfl rfl dX6_writeTo_106 ?_
    refine rr_bipush 6 rfl dX6_writeTo_107 ?_
    refine rr_iadd dX6_writeTo_109 ?_
    rw [show ((nI (q * 35)) + 6 : Int32) = (nI ((q * 35) + 6)) from nI_add ((q * 35)) (6)]
    refine rr_iconst 4 rfl dX6_writeTo_110 ?_
    refine rr_iload 4 rfl dX6_writeTo_111 ?_
    refine rr_imul dX6_writeTo_113 ?_
    rw [show ((4 : Int32) * (nI k1) : Int32) = (nI (4 * k1)) from jj_nm (4) (k1)]
    refine rr_iadd dX6_writeTo_114 ?_
    rw [show ((nI ((q * 35) + 6)) + (nI (4 * k1)) : Int32) = (nI (((q * 35) + 6) + (4 * k1))) from nI_add (((q * 35) + 6)) ((4 * k1))]
    refine rr_aload_n 0 rfl rfl dX6_writeTo_115 ?_
    refine rr_getR dX6_writeTo_116 fX6_21 lo_38 sh_38 rfl ?_
    refine rr_iload 4 rfl dX6_writeTo_119 ?_
    refine rr_iaload dX6_writeTo_121 lo_42 sh_42 (by first | assumption | exact jj_pers hP hn (by assumption) | exact vp_in_nI (by omega) (by decide) | decide | omega) ?_
    rw [show (jj_rs h [(35, (upd (upd (upd a1 (((nI (((q * 35) + 3) + (4 * k1))) : Int32).toNatClampNeg) ((h 39) ((nI k1) : Int32).toNatClampNeg)) (((nI (((q * 35) + 4) + (4 * k1))) : Int32).toNatClampNeg) ((h 40) ((nI k1) : Int32).toNatClampNeg)) (((nI (((q * 35) + 5) + (4 * k1))) : Int32).toNatClampNeg) ((h 41) ((nI k1) : Int32).toNatClampNeg)))]) 42 = h 42 from rfl]
    refine rr_iastore dX6_writeTo_122 lo_35 sh_35 (by first | assumption | exact jj_pers hP hn (by assumption) | exact vp_in_nI (by omega) (by decide) | decide | omega) ?_
    rw [jj_rs_set (B := h) (L := [(35, (upd (upd (upd a1 (((nI (((q * 35) + 3) + (4 * k1))) : Int32).toNatClampNeg) ((h 39) ((nI k1) : Int32).toNatClampNeg)) (((nI (((q * 35) + 4) + (4 * k1))) : Int32).toNatClampNeg) ((h 40) ((nI k1) : Int32).toNatClampNeg)) (((nI (((q * 35) + 5) + (4 * k1))) : Int32).toNatClampNeg) ((h 41) ((nI k1) : Int32).toNatClampNeg)))]) (L2 := [(35, (upd (upd (upd (upd a1 (((nI (((q * 35) + 3) + (4 * k1))) : Int32).toNatClampNeg) ((h 39) ((nI k1) : Int32).toNatClampNeg)) (((nI (((q * 35) + 4) + (4 * k1))) : Int32).toNatClampNeg) ((h 40) ((nI k1) : Int32).toNatClampNeg)) (((nI (((q * 35) + 5) + (4 * k1))) : Int32).toNatClampNeg) ((h 41) ((nI k1) : Int32).toNatClampNeg)) (((nI (((q * 35) + 6) + (4 * k1))) : Int32).toNatClampNeg) ((h 42) ((nI k1) : Int32).toNatClampNeg)))]) (r := (upd (upd (upd a1 (((nI (((q * 35) + 3) + (4 * k1))) : Int32).toNatClampNeg) ((h 39) ((nI k1) : Int32).toNatClampNeg)) (((nI (((q * 35) + 4) + (4 * k1))) : Int32).toNatClampNeg) ((h 40) ((nI k1) : Int32).toNatClampNeg)) (((nI (((q * 35) + 5) + (4 * k1))) : Int32).toNatClampNeg) ((h 41) ((nI k1) : Int32).toNatClampNeg))) rfl rfl]
    refine rr_iinc 4 1 [(0, .ref 38), (1, .ref 35), (2, .int (nI q)), (3, .int (nI (q * 35))), (4, .int ((nI k1) + 1))] dX6_writeTo_123 rfl rfl (by decide) rfl ?_
    refine rr_goto dX6_writeTo_126 ?_
    simpa only [nI_1, (nI_clamp (show k1 < 2 ^ 31 by omega)), fX6_writeTo_35_1] using ih1
  · try dsimp only
    refine rr_iload 4 rfl dX6_writeTo_47 ?_
    refine rr_bipush 8 rfl dX6_writeTo_49 ?_
    refine rr_icmp_ge dX6_writeTo_51 (fun _ => ?_) (fun c => absurd (jj_le_rf _) c)
    refine rr_return dX6_writeTo_129 rfl ?_
    simpa only [rX6_writeTo_35_35] using kq
def fX6_readFrom_35_1 (r35 : Nat → Int32) (q : Nat) (k1 : Nat) (a1 : (Nat → Int32) × (Nat → Int32) × (Nat → Int32) × (Nat → Int32)) : (Nat → Int32) × (Nat → Int32) × (Nat → Int32) × (Nat → Int32) := ((upd a1.1 (k1) (r35 ((nI (((q * 35) + 3) + (4 * k1))) : Int32).toNatClampNeg)), (upd a1.2.1 (k1) (r35 ((nI (((q * 35) + 4) + (4 * k1))) : Int32).toNatClampNeg)), (upd a1.2.2.1 (k1) (r35 ((nI (((q * 35) + 5) + (4 * k1))) : Int32).toNatClampNeg)), (upd a1.2.2.2 (k1) (r35 ((nI (((q * 35) + 6) + (4 * k1))) : Int32).toNatClampNeg)))
def rX6_readFrom_35_38 (r35 : Nat → Int32) (r38 : Nat → Int32) (r39 : Nat → Int32) (r40 : Nat → Int32) (r41 : Nat → Int32) (r42 : Nat → Int32) (q : Nat) : Nat → Int32 := (upd (upd (upd r38 (0) (r35 ((nI (q * 35)) : Int32).toNatClampNeg)) (1) (r35 ((nI ((q * 35) + 1)) : Int32).toNatClampNeg)) (2) (r35 ((nI ((q * 35) + 2)) : Int32).toNatClampNeg))
def rX6_readFrom_35_39 (r35 : Nat → Int32) (r38 : Nat → Int32) (r39 : Nat → Int32) (r40 : Nat → Int32) (r41 : Nat → Int32) (r42 : Nat → Int32) (q : Nat) : Nat → Int32 := (jj_fo (fX6_readFrom_35_1 r35 q) 8 (r39, r40, r41, r42)).1
def rX6_readFrom_35_40 (r35 : Nat → Int32) (r38 : Nat → Int32) (r39 : Nat → Int32) (r40 : Nat → Int32) (r41 : Nat → Int32) (r42 : Nat → Int32) (q : Nat) : Nat → Int32 := (jj_fo (fX6_readFrom_35_1 r35 q) 8 (r39, r40, r41, r42)).2.1
def rX6_readFrom_35_41 (r35 : Nat → Int32) (r38 : Nat → Int32) (r39 : Nat → Int32) (r40 : Nat → Int32) (r41 : Nat → Int32) (r42 : Nat → Int32) (q : Nat) : Nat → Int32 := (jj_fo (fX6_readFrom_35_1 r35 q) 8 (r39, r40, r41, r42)).2.2.1
def rX6_readFrom_35_42 (r35 : Nat → Int32) (r38 : Nat → Int32) (r39 : Nat → Int32) (r40 : Nat → Int32) (r41 : Nat → Int32) (r42 : Nat → Int32) (q : Nat) : Nat → Int32 := (jj_fo (fX6_readFrom_35_1 r35 q) 8 (r39, r40, r41, r42)).2.2.2
set_option maxHeartbeats 1000000 in
theorem sp_X6_readFrom_35 {d kc ks : Nat} {h : Nat → Nat → Int32} {g : Nat → Nat → Int64} {Q : jj_Rs → jj_St → Prop} {q : Nat} {q_ : Int32} (hq_ : q_ = nI q) (hq : q < 16) (kq : Q (.inl none) (jj_S, 782, (jj_rs h [(38, (rX6_readFrom_35_38 (h 35) (h 38) (h 39) (h 40) (h 41) (h 42) q)), (39, (rX6_readFrom_35_39 (h 35) (h 38) (h 39) (h 40) (h 41) (h 42) q)), (40, (rX6_readFrom_35_40 (h 35) (h 38) (h 39) (h 40) (h 41) (h 42) q)), (41, (rX6_readFrom_35_41 (h 35) (h 38) (h 39) (h 40) (h 41) (h 42) q)), (42, (rX6_readFrom_35_42 (h 35) (h 38) (h 39) (h 40) (h 41) (h 42) q))]), g)) : jj_R mX6_readFrom (d + 0) kc ks (jj_S, 782, h, g) 0 [(0, .ref 38), (1, .ref 35), (2, .int q_)] [] Q := by
  subst hq_
  refine rr_iload_n 2 rfl rfl dX6_readFrom_0 ?_
  refine rr_bipush 35 rfl dX6_readFrom_1 ?_
  refine rr_imul dX6_readFrom_3 ?_
  rw [show ((nI q) * 35 : Int32) = (nI (q * 35)) from jj_nm (q) (35)]
  refine rr_istore_n [(0, .ref 38), (1, .ref 35), (2, .int (nI q)), (3, .int (nI (q * 35)))] dX6_readFrom_4 rfl (by decide) rfl ?_
  refine rr_iload_n 2 rfl rfl dX6_readFrom_5 ?_
  refine rr_if_lt dX6_readFrom_6 (fun c => absurd c (nI_pos (by omega))) (fun _ => ?_)
  refine rr_iload_n 3 rfl rfl dX6_readFrom_9 ?_
  refine rr_bipush 35 rfl dX6_readFrom_10 ?_
  refine rr_iadd dX6_readFrom_12 ?_
  rw [show ((nI (q * 35)) + 35 : Int32) = (nI ((q * 35) + 35)) from nI_add ((q * 35)) (35)]
  refine rr_aload_n 1 rfl rfl dX6_readFrom_13 ?_
  refine rr_alenI 560 dX6_readFrom_14 lo_35 sh_35 (by decide) rfl ?_
  refine rr_icmp_le dX6_readFrom_15 (fun _ => ?_) (fun c => absurd (jj_le_n (b := 560) (by omega) (by decide)) c)
  refine rr_aload_n 0 rfl rfl dX6_readFrom_19 ?_
  refine rr_aload_n 1 rfl rfl dX6_readFrom_20 ?_
  refine rr_iload_n 3 rfl rfl dX6_readFrom_21 ?_
  refine rr_iaload dX6_readFrom_22 lo_35 sh_35 (by first | assumption | exact jj_pers hP hn (by assumption) | exact vp_in_nI (by omega) (by decide) | decide | omega) ?_
  refine rr_putI dX6_readFrom_23 fX6_24 ni6_0 lo_38 sh_38 rfl ?_
  rw [jj_rs_set0 (B := h) (o := 38) (r := (h 38)) rfl]
  refine rr_aload_n 0 rfl rfl dX6_readFrom_26 ?_
  refine rr_aload_n 1 rfl rfl dX6_readFrom_27 ?_
  refine rr_iload_n 3 rfl rfl dX6_readFrom_28 ?_
  refine rr_iconst 1 rfl dX6_readFrom_29 ?_
  refine rr_iadd dX6_readFrom_30 ?_
  rw [show ((nI (q * 35)) + 1 : Int32) = (nI ((q * 35) + 1)) from nI_add ((q * 35)) (1)]
  refine rr_iaload dX6_readFrom_31 lo_35 sh_35 (by first | assumption | exact jj_pers hP hn (by assumption) | exact vp_in_nI (by omega) (by decide) | decide | omega) ?_
  rw [show (jj_rs h [(38, (upd (h 38) (0) ((h 35) ((nI (q * 35)) : Int32).toNatClampNeg)))]) 35 = h 35 from rfl]
  refine rr_putI dX6_readFrom_32 fX6_28 ni6_1 lo_38 sh_38 rfl ?_
  rw [jj_rs_set (B := h) (L := [(38, (upd (h 38) (0) ((h 35) ((nI (q * 35)) : Int32).toNatClampNeg)))]) (L2 := [(38, (upd (upd (h 38) (0) ((h 35) ((nI (q * 35)) : Int32).toNatClampNeg)) (1) ((h 35) ((nI ((q * 35) + 1)) : Int32).toNatClampNeg)))]) (r := (upd (h 38) (0) ((h 35) ((nI (q * 35)) : Int32).toNatClampNeg))) rfl rfl]
  refine rr_aload_n 0 rfl rfl dX6_readFrom_35 ?_
  refine rr_aload_n 1 rfl rfl dX6_readFrom_36 ?_
  refine rr_iload_n 3 rfl rfl dX6_readFrom_37 ?_
  refine rr_iconst 2 rfl dX6_readFrom_38 ?_
  refine rr_iadd dX6_readFrom_39 ?_
  rw [show ((nI (q * 35)) + 2 : Int32) = (nI ((q * 35) + 2)) from nI_add ((q * 35)) (2)]
  refine rr_iaload dX6_readFrom_40 lo_35 sh_35 (by first | assumption | exact jj_pers hP hn (by assumption) | exact vp_in_nI (by omega) (by decide) | decide | omega) ?_
  rw [show (jj_rs h [(38, (upd (upd (h 38) (0) ((h 35) ((nI (q * 35)) : Int32).toNatClampNeg)) (1) ((h 35) ((nI ((q * 35) + 1)) : Int32).toNatClampNeg)))]) 35 = h 35 from rfl]
  refine rr_putI dX6_readFrom_41 fX6_31 ni6_2 lo_38 sh_38 rfl ?_
  rw [jj_rs_set (B := h) (L := [(38, (upd (upd (h 38) (0) ((h 35) ((nI (q * 35)) : Int32).toNatClampNeg)) (1) ((h 35) ((nI ((q * 35) + 1)) : Int32).toNatClampNeg)))]) (L2 := [(38, (upd (upd (upd (h 38) (0) ((h 35) ((nI (q * 35)) : Int32).toNatClampNeg)) (1) ((h 35) ((nI ((q * 35) + 1)) : Int32).toNatClampNeg)) (2) ((h 35) ((nI ((q * 35) + 2)) : Int32).toNatClampNeg)))]) (r := (upd (upd (h 38) (0) ((h 35) ((nI (q * 35)) : Int32).toNatClampNeg)) (1) ((h 35) ((nI ((q * 35) + 1)) : Int32).toNatClampNeg))) rfl rfl]
  refine rr_iconst 0 rfl dX6_readFrom_44 ?_
  refine rr_istore [(0, .ref 38), (1, .ref 35), (2, .int (nI q)), (3, .int (nI (q * 35))), (4, .int 0)] dX6_readFrom_45 (by decide) rfl ?_
  refine jj_Rh (jj_rs_add (B := h) (L := [(38, (upd (upd (upd (h 38) (0) ((h 35) ((nI (q * 35)) : Int32).toNatClampNeg)) (1) ((h 35) ((nI ((q * 35) + 1)) : Int32).toNatClampNeg)) (2) ((h 35) ((nI ((q * 35) + 2)) : Int32).toNatClampNeg)))]) (L2 := [(38, (upd (upd (upd (h 38) (0) ((h 35) ((nI (q * 35)) : Int32).toNatClampNeg)) (1) ((h 35) ((nI ((q * 35) + 1)) : Int32).toNatClampNeg)) (2) ((h 35) ((nI ((q * 35) + 2)) : Int32).toNatClampNeg))), (39, (h 39))]) (o := 39) (r := (h 39)) rfl rfl) ?_
  refine jj_Rh (jj_rs_add (B := h) (L := [(38, (upd (upd (upd (h 38) (0) ((h 35) ((nI (q * 35)) : Int32).toNatClampNeg)) (1) ((h 35) ((nI ((q * 35) + 1)) : Int32).toNatClampNeg)) (2) ((h 35) ((nI ((q * 35) + 2)) : Int32).toNatClampNeg))), (39, (h 39))]) (L2 := [(38, (upd (upd (upd (h 38) (0) ((h 35) ((nI (q * 35)) : Int32).toNatClampNeg)) (1) ((h 35) ((nI ((q * 35) + 1)) : Int32).toNatClampNeg)) (2) ((h 35) ((nI ((q * 35) + 2)) : Int32).toNatClampNeg))), (39, (h 39)), (40, (h 40))]) (o := 40) (r := (h 40)) rfl rfl) ?_
  refine jj_Rh (jj_rs_add (B := h) (L := [(38, (upd (upd (upd (h 38) (0) ((h 35) ((nI (q * 35)) : Int32).toNatClampNeg)) (1) ((h 35) ((nI ((q * 35) + 1)) : Int32).toNatClampNeg)) (2) ((h 35) ((nI ((q * 35) + 2)) : Int32).toNatClampNeg))), (39, (h 39)), (40, (h 40))]) (L2 := [(38, (upd (upd (upd (h 38) (0) ((h 35) ((nI (q * 35)) : Int32).toNatClampNeg)) (1) ((h 35) ((nI ((q * 35) + 1)) : Int32).toNatClampNeg)) (2) ((h 35) ((nI ((q * 35) + 2)) : Int32).toNatClampNeg))), (39, (h 39)), (40, (h 40)), (41, (h 41))]) (o := 41) (r := (h 41)) rfl rfl) ?_
  refine jj_Rh (jj_rs_add (B := h) (L := [(38, (upd (upd (upd (h 38) (0) ((h 35) ((nI (q * 35)) : Int32).toNatClampNeg)) (1) ((h 35) ((nI ((q * 35) + 1)) : Int32).toNatClampNeg)) (2) ((h 35) ((nI ((q * 35) + 2)) : Int32).toNatClampNeg))), (39, (h 39)), (40, (h 40)), (41, (h 41))]) (L2 := [(38, (upd (upd (upd (h 38) (0) ((h 35) ((nI (q * 35)) : Int32).toNatClampNeg)) (1) ((h 35) ((nI ((q * 35) + 1)) : Int32).toNatClampNeg)) (2) ((h 35) ((nI ((q * 35) + 2)) : Int32).toNatClampNeg))), (39, (h 39)), (40, (h 40)), (41, (h 41)), (42, (h 42))]) (o := 42) (r := (h 42)) rfl rfl) ?_
  refine jj_for (fun k1 (a1 : (Nat → Int32) × (Nat → Int32) × (Nat → Int32) × (Nat → Int32)) => jj_R _ _ kc ks (jj_S, 782, (jj_rs h [(38, (upd (upd (upd (h 38) (0) ((h 35) ((nI (q * 35)) : Int32).toNatClampNeg)) (1) ((h 35) ((nI ((q * 35) + 1)) : Int32).toNatClampNeg)) (2) ((h 35) ((nI ((q * 35) + 2)) : Int32).toNatClampNeg))), (39, a1.1), (40, a1.2.1), (41, a1.2.2.1), (42, a1.2.2.2)]), g) 47 [(0, .ref 38), (1, .ref 35), (2, .int (nI q)), (3, .int (nI (q * 35))), (4, .int (nI k1))] [] Q) (fX6_readFrom_35_1 (h 35) q) 8 ((h 39), (h 40), (h 41), (h 42)) ?_ ?_
  · intro k1 hk1 ih1
    generalize jj_fo _ k1 _ = a1 at ih1 ⊢
    try dsimp only at ih1 ⊢
    refine rr_iload 4 rfl dX6_readFrom_47 ?_
    refine rr_bipush 8 rfl dX6_readFrom_49 ?_
    refine rr_icmp_ge dX6_readFrom_51 (fun c => absurd c (nI_ge (a := k1) (b := 8) (by omega) (by omega))) (fun _ => ?_)
    refine rr_aload_n 0 rfl rfl dX6_readFrom_54 ?_
    refine rr_getR dX6_readFrom_55 fX6_9 lo_38 sh_38 rfl ?_
    refine rr_iload 4 rfl dX6_readFrom_58 ?_
    refine rr_aload_n 1 rfl rfl dX6_readFrom_60 ?_
    refine rr_iload_n 3 rfl rfl dX6_readFrom_61 ?_
    refine rr_iconst 3 rfl dX6_readFrom_62 ?_
    refine rr_iadd dX6_readFrom_63 ?_
    rw [show ((nI (q * 35)) + 3 : Int32) = (nI ((q * 35) + 3)) from nI_add ((q * 35)) (3)]
    refine rr_iconst 4 rfl dX6_readFrom_64 ?_
    refine rr_iload 4 rfl dX6_readFrom_65 ?_
    refine rr_imul dX6_readFrom_67 ?_
    rw [show ((4 : Int32) * (nI k1) : Int32) = (nI (4 * k1)) from jj_nm (4) (k1)]
    refine rr_iadd dX6_readFrom_68 ?_
    rw [show ((nI ((q * 35) + 3)) + (nI (4 * k1)) : Int32) = (nI (((q * 35) + 3) + (4 * k1))) from nI_add (((q * 35) + 3)) ((4 * k1))]
    refine rr_iaload dX6_readFrom_69 lo_35 sh_35 (by first | assumption | exact jj_pers hP hn (by assumption) | exact vp_in_nI (by omega) (by decide) | decide | omega) ?_
    rw [show (jj_rs h [(38, (upd (upd (upd (h 38) (0) ((h 35) ((nI (q * 35)) : Int32).toNatClampNeg)) (1) ((h 35) ((nI ((q * 35) + 1)) : Int32).toNatClampNeg)) (2) ((h 35) ((nI ((q * 35) + 2)) : Int32).toNatClampNeg))), (39, a1.1), (40, a1.2.1), (41, a1.2.2.1), (42, a1.2.2.2)]) 35 = h 35 from rfl]
    refine rr_iastore dX6_readFrom_70 lo_39 sh_39 (by first | assumption | exact jj_pers hP hn (by assumption) | exact vp_in_nI (by omega) (by decide) | decide | omega) ?_
    rw [jj_rs_set (B := h) (L := [(38, (upd (upd (upd (h 38) (0) ((h 35) ((nI (q * 35)) : Int32).toNatClampNeg)) (1) ((h 35) ((nI ((q * 35) + 1)) : Int32).toNatClampNeg)) (2) ((h 35) ((nI ((q * 35) + 2)) : Int32).toNatClampNeg))), (39, a1.1), (40, a1.2.1), (41, a1.2.2.1), (42, a1.2.2.2)]) (L2 := [(38, (upd (upd (upd (h 38) (0) ((h 35) ((nI (q * 35)) : Int32).toNatClampNeg)) (1) ((h 35) ((nI ((q * 35) + 1)) : Int32).toNatClampNeg)) (2) ((h 35) ((nI ((q * 35) + 2)) : Int32).toNatClampNeg))), (39, (upd a1.1 (((nI k1) : Int32).toNatClampNeg) ((h 35) ((nI (((q * 35) + 3) + (4 * k1))) : Int32).toNatClampNeg))), (40, a1.2.1), (41, a1.2.2.1), (42, a1.2.2.2)]) (r := a1.1) rfl rfl]
    refine rr_aload_n 0 rfl rfl dX6_readFrom_71 ?_
    refine rr_getR dX6_readFrom_72 fX6_15 lo_38 sh_38 rfl ?_
    refine rr_iload 4 rfl dX6_readFrom_75 ?_
    refine rr_aload_n 1 rfl rfl dX6_readFrom_77 ?_
    refine rr_iload_n 3 rfl rfl dX6_readFrom_78 ?_
    refine rr_iconst 4 rfl dX6_readFrom_79 ?_
    refine rr_iadd dX6_readFrom_80 ?_
    rw [show ((nI (q * 35)) + 4 : Int32) = (nI ((q * 35) + 4)) from nI_add ((q * 35)) (4)]
    refine rr_iconst 4 rfl dX6_readFrom_81 ?_
    refine rr_iload 4 rfl dX6_readFrom_82 ?_
    refine rr_imul dX6_readFrom_84 ?_
    rw [show ((4 : Int32) * (nI k1) : Int32) = (nI (4 * k1)) from jj_nm (4) (k1)]
    refine rr_iadd dX6_readFrom_85 ?_
    rw [show ((nI ((q * 35) + 4)) + (nI (4 * k1)) : Int32) = (nI (((q * 35) + 4) + (4 * k1))) from nI_add (((q * 35) + 4)) ((4 * k1))]
    refine rr_iaload dX6_readFrom_86 lo_35 sh_35 (by first | assumption | exact jj_pers hP hn (by assumption) | exact vp_in_nI (by omega) (by decide) | decide | omega) ?_
    rw [show (jj_rs h [(38, (upd (upd (upd (h 38) (0) ((h 35) ((nI (q * 35)) : Int32).toNatClampNeg)) (1) ((h 35) ((nI ((q * 35) + 1)) : Int32).toNatClampNeg)) (2) ((h 35) ((nI ((q * 35) + 2)) : Int32).toNatClampNeg))), (39, (upd a1.1 (((nI k1) : Int32).toNatClampNeg) ((h 35) ((nI (((q * 35) + 3) + (4 * k1))) : Int32).toNatClampNeg))), (40, a1.2.1), (41, a1.2.2.1), (42, a1.2.2.2)]) 35 = h 35 from rfl]
    refine rr_iastore dX6_readFrom_87 lo_40 sh_40 (by first | assumption | exact jj_pers hP hn (by assumption) | exact vp_in_nI (by omega) (by decide) | decide | omega) ?_
    rw [jj_rs_set (B := h) (L := [(38, (upd (upd (upd (h 38) (0) ((h 35) ((nI (q * 35)) : Int32).toNatClampNeg)) (1) ((h 35) ((nI ((q * 35) + 1)) : Int32).toNatClampNeg)) (2) ((h 35) ((nI ((q * 35) + 2)) : Int32).toNatClampNeg))), (39, (upd a1.1 (((nI k1) : Int32).toNatClampNeg) ((h 35) ((nI (((q * 35) + 3) + (4 * k1))) : Int32).toNatClampNeg))), (40, a1.2.1), (41, a1.2.2.1), (42, a1.2.2.2)]) (L2 := [(38, (upd (upd (upd (h 38) (0) ((h 35) ((nI (q * 35)) : Int32).toNatClampNeg)) (1) ((h 35) ((nI ((q * 35) + 1)) : Int32).toNatClampNeg)) (2) ((h 35) ((nI ((q * 35) + 2)) : Int32).toNatClampNeg))), (39, (upd a1.1 (((nI k1) : Int32).toNatClampNeg) ((h 35) ((nI (((q * 35) + 3) + (4 * k1))) : Int32).toNatClampNeg))), (40, (upd a1.2.1 (((nI k1) : Int32).toNatClampNeg) ((h 35) ((nI (((q * 35) + 4) + (4 * k1))) : Int32).toNatClampNeg))), (41, a1.2.2.1), (42, a1.2.2.2)]) (r := a1.2.1) rfl rfl]
    refine rr_aload_n 0 rfl rfl dX6_readFrom_88 ?_
    refine rr_getR dX6_readFrom_89 fX6_18 lo_38 sh_38 rfl ?_
    refine rr_iload 4 rfl dX6_readFrom_92 ?_
    refine rr_aload_n 1 rfl rfl dX6_readFrom_94 ?_
    refine rr_iload_n 3 rfl rfl dX6_readFrom_95 ?_
    refine rr_iconst 5 rfl dX6_readFrom_96 ?_
    refine rr_iadd dX6_readFrom_97 ?_
    rw [show ((nI (q * 35)) + 5 : Int32) = (nI ((q * 35) + 5)) from nI_add ((q * 35)) (5)]
    refine rr_iconst 4 rfl dX6_readFrom_98 ?_
    refine rr_iload 4 rfl dX6_readFrom_99 ?_
    refine rr_imul dX6_readFrom_101 ?_
    rw [show ((4 : Int32) * (nI k1) : Int32) = (nI (4 * k1)) from jj_nm (4) (k1)]
    refine rr_iadd dX6_readFrom_102 ?_
    rw [show ((nI ((q * 35) + 5)) + (nI (4 * k1)) : Int32) = (nI (((q * 35) + 5) + (4 * k1))) from nI_add (((q * 35) + 5)) ((4 * k1))]
    refine rr_iaload dX6_readFrom_103 lo_35 sh_35 (by first | assumption | exact jj_pers hP hn (by assumption) | exact vp_in_nI (by omega) (by decide) | decide | omega) ?_
    rw [show (jj_rs h [(38, (upd (upd (upd (h 38) (0) ((h 35) ((nI (q * 35)) : Int32).toNatClampNeg)) (1) ((h 35) ((nI ((q * 35) + 1)) : Int32).toNatClampNeg)) (2) ((h 35) ((nI ((q * 35) + 2)) : Int32).toNatClampNeg))), (39, (upd a1.1 (((nI k1) : Int32).toNatClampNeg) ((h 35) ((nI (((q * 35) + 3) + (4 * k1))) : Int32).toNatClampNeg))), (40, (upd a1.2.1 (((nI k1) : Int32).toNatClampNeg) ((h 35) ((nI (((q * 35) + 4) + (4 * k1))) : Int32).toNatClampNeg))), (41, a1.2.2.1), (42, a1.2.2.2)]) 35 = h 35 from rfl]
    refine rr_iastore dX6_readFrom_104 lo_41 sh_41 (by first | assumption | exact jj_pers hP hn (by assumption) | exact vp_in_nI (by omega) (by decide) | decide | omega) ?_
    rw [jj_rs_set (B := h) (L := [(38, (upd (upd (upd (h 38) (0) ((h 35) ((nI (q * 35)) : Int32).toNatClampNeg)) (1) ((h 35) ((nI ((q * 35) + 1)) : Int32).toNatClampNeg)) (2) ((h 35) ((nI ((q * 35) + 2)) : Int32).toNatClampNeg))), (39, (upd a1.1 (((nI k1) : Int32).toNatClampNeg) ((h 35) ((nI (((q * 35) + 3) + (4 * k1))) : Int32).toNatClampNeg))), (40, (upd a1.2.1 (((nI k1) : Int32).toNatClampNeg) ((h 35) ((nI (((q * 35) + 4) + (4 * k1))) : Int32).toNatClampNeg))), (41, a1.2.2.1), (42, a1.2.2.2)]) (L2 := [(38, (upd (upd (upd (h 38) (0) ((h 35) ((nI (q * 35)) : Int32).toNatClampNeg)) (1) ((h 35) ((nI ((q * 35) + 1)) : Int32).toNatClampNeg)) (2) ((h 35) ((nI ((q * 35) + 2)) : Int32).toNatClampNeg))), (39, (upd a1.1 (((nI k1) : Int32).toNatClampNeg) ((h 35) ((nI (((q * 35) + 3) + (4 * k1))) : Int32).toNatClampNeg))), (40, (upd a1.2.1 (((nI k1) : Int32).toNatClampNeg) ((h 35) ((nI (((q * 35) + 4) + (4 * k1))) : Int32).toNatClampNeg))), (41, (upd a1.2.2.1 (((nI k1) : Int32).toNatClampNeg) ((h 35) ((nI (((q * 35) + 5) + (4 * k1))) : Int32).toNatClampNeg))), (42, a1.2.2.2)]) (r := a1.2.2.1) rfl rfl]
    refine rr_aload_n 0 rfl rfl dX6_readFrom_105 ?_
    refine rr_getR dX6_readFrom_106 fX6_21 lo_38 sh_38 rfl ?_
    refine rr_iload 4 rfl dX6_readFrom_109 ?_
    refine rr_aload_n 1 rfl rfl dX6_readFrom_111 ?_
    refine rr_iload_n 3 rfl rfl dX6_readFrom_112 ?_
    refine rr_bipush 6 rfl dX6_readFrom_113 ?_
    refine rr_iadd dX6_readFrom_115 ?_
    rw [show ((nI (q * 35)) + 6 : Int32) = (nI ((q * 35) + 6)) from nI_add ((q * 35)) (6)]
    refine rr_iconst 4 rfl dX6_readFrom_116 ?_
    refine rr_iload 4 rfl dX6_readFrom_117 ?_
    refine rr_imul dX6_readFrom_119 ?_
    rw [show ((4 : Int32) * (nI k1) : Int32) = (nI (4 * k1)) from jj_nm (4) (k1)]
    refine rr_iadd dX6_readFrom_120 ?_
    rw [show ((nI ((q * 35) + 6)) + (nI (4 * k1)) : Int32) = (nI (((q * 35) + 6) + (4 * k1))) from nI_add (((q * 35) + 6)) ((4 * k1))]
    refine rr_iaload dX6_readFrom_121 lo_35 sh_35 (by first | assumption | exact jj_pers hP hn (by assumption) | exact vp_in_nI (by omega) (by decide) | decide | omega) ?_
    rw [show (jj_rs h [(38, (upd (upd (upd (h 38) (0) ((h 35) ((nI (q * 35)) : Int32).toNatClampNeg)) (1) ((h 35) ((nI ((q * 35) + 1)) : Int32).toNatClampNeg)) (2) ((h 35) ((nI ((q * 35) + 2)) : Int32).toNatClampNeg))), (39, (upd a1.1 (((nI k1) : Int32).toNatClampNeg) ((h 35) ((nI (((q * 35) + 3) + (4 * k1))) : Int32).toNatClampNeg))), (40, (upd a1.2.1 (((nI k1) : Int32).toNatClampNeg) ((h 35) ((nI (((q * 35) + 4) + (4 * k1))) : Int32).toNatClampNeg))), (41, (upd a1.2.2.1 (((nI k1) : Int32).toNatClampNeg) ((h 35) ((nI (((q * 35) + 5) + (4 * k1))) : Int32).toNatClampNeg))), (42, a1.2.2.2)]) 35 = h 35 from rfl]
    refine rr_iastore dX6_readFrom_122 lo_42 sh_42 (by first | assumption | exact jj_pers hP hn (by assumption) | exact vp_in_nI (by omega) (by decide) | decide | omega) ?_
    rw [jj_rs_set (B := h) (L := [(38, (upd (upd (upd (h 38) (0) ((h 35) ((nI (q * 35)) : Int32).toNatClampNeg)) (1) ((h 35) ((nI ((q * 35) + 1)) : Int32).toNatClampNeg)) (2) ((h 35) ((nI ((q * 35) + 2)) : Int32).toNatClampNeg))), (39, (upd a1.1 (((nI k1) : Int32).toNatClampNeg) ((h 35) ((nI (((q * 35) + 3) + (4 * k1))) : Int32).toNatClampNeg))), (40, (upd a1.2.1 (((nI k1) : Int32).toNatClampNeg) ((h 35) ((nI (((q * 35) + 4) + (4 * k1))) : Int32).toNatClampNeg))), (41, (upd a1.2.2.1 (((nI k1) : Int32).toNatClampNeg) ((h 35) ((nI (((q * 35) + 5) + (4 * k1))) : Int32).toNatClampNeg))), (42, a1.2.2.2)]) (L2 := [(38, (upd (upd (upd (h 38) (0) ((h 35) ((nI (q * 35)) : Int32).toNatClampNeg)) (1) ((h 35) ((nI ((q * 35) + 1)) : Int32).toNatClampNeg)) (2) ((h 35) ((nI ((q * 35) + 2)) : Int32).toNatClampNeg))), (39, (upd a1.1 (((nI k1) : Int32).toNatClampNeg) ((h 35) ((nI (((q * 35) + 3) + (4 * k1))) : Int32).toNatClampNeg))), (40, (upd a1.2.1 (((nI k1) : Int32).toNatClampNeg) ((h 35) ((nI (((q * 35) + 4) + (4 * k1))) : Int32).toNatClampNeg))), (41, (upd a1.2.2.1 (((nI k1) : Int32).toNatClampNeg) ((h 35) ((nI (((q * 35) + 5) + (4 * k1))) : Int32).toNatClampNeg))), (42, (upd a1.2.2.2 (((nI k1) : Int32).toNatClampNeg) ((h 35) ((nI (((q * 35) + 6) + (4 * k1))) : Int32).toNatClampNeg)))]) (r := a1.2.2.2) rfl rfl]
    refine rr_iinc 4 1 [(0, .ref 38), (1, .ref 35), (2, .int (nI q)), (3, .int (nI (q * 35))), (4, .int ((nI k1) + 1))] dX6_readFrom_123 rfl rfl (by decide) rfl ?_
    refine rr_goto dX6_readFrom_126 ?_
    simpa only [nI_1, (nI_clamp (show k1 < 2 ^ 31 by omega)), fX6_readFrom_35_1] using ih1
  · try dsimp only
    refine rr_iload 4 rfl dX6_readFrom_47 ?_
    refine rr_bipush 8 rfl dX6_readFrom_49 ?_
    refine rr_icmp_ge dX6_readFrom_51 (fun _ => ?_) (fun c => absurd (jj_le_rf _) c)
    refine rr_return dX6_readFrom_129 rfl ?_
    simpa only [rX6_readFrom_35_38, rX6_readFrom_35_39, rX6_readFrom_35_40, rX6_readFrom_35_41, rX6_readFrom_35_42] using kq
def fX6_writeTo_36_1 (r39 : Nat → Int32) (r40 : Nat → Int32) (r41 : Nat → Int32) (r42 : Nat → Int32) (q : Nat) (k1 : Nat) (a1 : (Nat → Int32)) : (Nat → Int32) := (upd (upd (upd (upd a1 (((nI (((q * 35) + 3) + (4 * k1))) : Int32).toNatClampNeg) (r39 k1)) (((nI (((q * 35) + 4) + (4 * k1))) : Int32).toNatClampNeg) (r40 k1)) (((nI (((q * 35) + 5) + (4 * k1))) : Int32).toNatClampNeg) (r41 k1)) (((nI (((q * 35) + 6) + (4 * k1))) : Int32).toNatClampNeg) (r42 k1))
def rX6_writeTo_36_36 (r36 : Nat → Int32) (r38 : Nat → Int32) (r39 : Nat → Int32) (r40 : Nat → Int32) (r41 : Nat → Int32) (r42 : Nat → Int32) (q : Nat) : Nat → Int32 := (jj_fo (fX6_writeTo_36_1 r39 r40 r41 r42 q) 8 (upd (upd (upd r36 (((nI (q * 35)) : Int32).toNatClampNeg) (r38 0)) (((nI ((q * 35) + 1)) : Int32).toNatClampNeg) (r38 1)) (((nI ((q * 35) + 2)) : Int32).toNatClampNeg) (r38 2)))
set_option maxHeartbeats 1000000 in
theorem sp_X6_writeTo_36 {d kc ks : Nat} {h : Nat → Nat → Int32} {g : Nat → Nat → Int64} {Q : jj_Rs → jj_St → Prop} {q : Nat} {q_ : Int32} (hq_ : q_ = nI q) (hq : q < 51) (kq : Q (.inl none) (jj_S, 782, (jj_rs h [(36, (rX6_writeTo_36_36 (h 36) (h 38) (h 39) (h 40) (h 41) (h 42) q))]), g)) : jj_R mX6_writeTo (d + 0) kc ks (jj_S, 782, h, g) 0 [(0, .ref 38), (1, .ref 36), (2, .int q_)] [] Q := by
  subst hq_
  refine rr_iload_n 2 rfl rfl dX6_writeTo_0 ?_
  refine rr_bipush 35 rfl dX6_writeTo_1 ?_
  refine rr_imul dX6_writeTo_3 ?_
  rw [show ((nI q) * 35 : Int32) = (nI (q * 35)) from jj_nm (q) (35)]
  refine rr_istore_n [(0, .ref 38), (1, .ref 36), (2, .int (nI q)), (3, .int (nI (q * 35)))] dX6_writeTo_4 rfl (by decide) rfl ?_
  refine rr_iload_n 2 rfl rfl dX6_writeTo_5 ?_
  refine rr_if_lt dX6_writeTo_6 (fun c => absurd c (nI_pos (by omega))) (fun _ => ?_)
  refine rr_iload_n 3 rfl rfl dX6_writeTo_9 ?_
  refine rr_bipush 35 rfl dX6_writeTo_10 ?_
  refine rr_iadd dX6_writeTo_12 ?_
  rw [show ((nI (q * 35)) + 35 : Int32) = (nI ((q * 35) + 35)) from nI_add ((q * 35)) (35)]
  refine rr_aload_n 1 rfl rfl dX6_writeTo_13 ?_
  refine rr_alenI 1785 dX6_writeTo_14 lo_36 sh_36 (by decide) rfl ?_
  refine rr_icmp_le dX6_writeTo_15 (fun _ => ?_) (fun c => absurd (jj_le_n (b := 1785) (by omega) (by decide)) c)
  refine rr_aload_n 1 rfl rfl dX6_writeTo_19 ?_
  refine rr_iload_n 3 rfl rfl dX6_writeTo_20 ?_
  refine rr_aload_n 0 rfl rfl dX6_writeTo_21 ?_
  refine rr_getI dX6_writeTo_22 fX6_24 lo_38 sh_38 rfl ?_
  refine rr_iastore dX6_writeTo_25 lo_36 sh_36 (by first | assumption | exact jj_pers hP hn (by assumption) | exact vp_in_nI (by omega) (by decide) | decide | omega) ?_
  rw [jj_rs_set0 (B := h) (o := 36) (r := (h 36)) rfl]
  refine rr_aload_n 1 rfl rfl dX6_writeTo_26 ?_
  refine rr_iload_n 3 rfl rfl dX6_writeTo_27 ?_
  refine rr_iconst 1 rfl dX6_writeTo_28 ?_
  refine rr_iadd dX6_writeTo_29 ?_
  rw [show ((nI (q * 35)) + 1 : Int32) = (nI ((q * 35) + 1)) from nI_add ((q * 35)) (1)]
  refine rr_aload_n 0 rfl rfl dX6_writeTo_30 ?_
  refine rr_getI dX6_writeTo_31 fX6_28 lo_38 sh_38 rfl ?_
  rw [show (jj_rs h [(36, (upd (h 36) (((nI (q * 35)) : Int32).toNatClampNeg) ((h 38) 0)))]) 38 = h 38 from rfl]
  refine rr_iastore dX6_writeTo_34 lo_36 sh_36 (by first | assumption | exact jj_pers hP hn (by assumption) | exact vp_in_nI (by omega) (by decide) | decide | omega) ?_
  rw [jj_rs_set (B := h) (L := [(36, (upd (h 36) (((nI (q * 35)) : Int32).toNatClampNeg) ((h 38) 0)))]) (L2 := [(36, (upd (upd (h 36) (((nI (q * 35)) : Int32).toNatClampNeg) ((h 38) 0)) (((nI ((q * 35) + 1)) : Int32).toNatClampNeg) ((h 38) 1)))]) (r := (upd (h 36) (((nI (q * 35)) : Int32).toNatClampNeg) ((h 38) 0))) rfl rfl]
  refine rr_aload_n 1 rfl rfl dX6_writeTo_35 ?_
  refine rr_iload_n 3 rfl rfl dX6_writeTo_36 ?_
  refine rr_iconst 2 rfl dX6_writeTo_37 ?_
  refine rr_iadd dX6_writeTo_38 ?_
  rw [show ((nI (q * 35)) + 2 : Int32) = (nI ((q * 35) + 2)) from nI_add ((q * 35)) (2)]
  refine rr_aload_n 0 rfl rfl dX6_writeTo_39 ?_
  refine rr_getI dX6_writeTo_40 fX6_31 lo_38 sh_38 rfl ?_
  rw [show (jj_rs h [(36, (upd (upd (h 36) (((nI (q * 35)) : Int32).toNatClampNeg) ((h 38) 0)) (((nI ((q * 35) + 1)) : Int32).toNatClampNeg) ((h 38) 1)))]) 38 = h 38 from rfl]
  refine rr_iastore dX6_writeTo_43 lo_36 sh_36 (by first | assumption | exact jj_pers hP hn (by assumption) | exact vp_in_nI (by omega) (by decide) | decide | omega) ?_
  rw [jj_rs_set (B := h) (L := [(36, (upd (upd (h 36) (((nI (q * 35)) : Int32).toNatClampNeg) ((h 38) 0)) (((nI ((q * 35) + 1)) : Int32).toNatClampNeg) ((h 38) 1)))]) (L2 := [(36, (upd (upd (upd (h 36) (((nI (q * 35)) : Int32).toNatClampNeg) ((h 38) 0)) (((nI ((q * 35) + 1)) : Int32).toNatClampNeg) ((h 38) 1)) (((nI ((q * 35) + 2)) : Int32).toNatClampNeg) ((h 38) 2)))]) (r := (upd (upd (h 36) (((nI (q * 35)) : Int32).toNatClampNeg) ((h 38) 0)) (((nI ((q * 35) + 1)) : Int32).toNatClampNeg) ((h 38) 1))) rfl rfl]
  refine rr_iconst 0 rfl dX6_writeTo_44 ?_
  refine rr_istore [(0, .ref 38), (1, .ref 36), (2, .int (nI q)), (3, .int (nI (q * 35))), (4, .int 0)] dX6_writeTo_45 (by decide) rfl ?_
  refine jj_for (fun k1 (a1 : (Nat → Int32)) => jj_R _ _ kc ks (jj_S, 782, (jj_rs h [(36, a1)]), g) 47 [(0, .ref 38), (1, .ref 36), (2, .int (nI q)), (3, .int (nI (q * 35))), (4, .int (nI k1))] [] Q) (fX6_writeTo_36_1 (h 39) (h 40) (h 41) (h 42) q) 8 (upd (upd (upd (h 36) (((nI (q * 35)) : Int32).toNatClampNeg) ((h 38) 0)) (((nI ((q * 35) + 1)) : Int32).toNatClampNeg) ((h 38) 1)) (((nI ((q * 35) + 2)) : Int32).toNatClampNeg) ((h 38) 2)) ?_ ?_
  · intro k1 hk1 ih1
    generalize jj_fo _ k1 _ = a1 at ih1 ⊢
    try dsimp only at ih1 ⊢
    refine rr_iload 4 rfl dX6_writeTo_47 ?_
    refine rr_bipush 8 rfl dX6_writeTo_49 ?_
    refine rr_icmp_ge dX6_writeTo_51 (fun c => absurd c (nI_ge (a := k1) (b := 8) (by omega) (by omega))) (fun _ => ?_)
    refine rr_aload_n 1 rfl rfl dX6_writeTo_54 ?_
    refine rr_iload_n 3 rfl rfl dX6_writeTo_55 ?_
    refine rr_iconst 3 rfl dX6_writeTo_56 ?_
    refine rr_iadd dX6_writeTo_57 ?_
    rw [show ((nI (q * 35)) + 3 : Int32) = (nI ((q * 35) + 3)) from nI_add ((q * 35)) (3)]
    refine rr_iconst 4 rfl dX6_writeTo_58 ?_
    refine rr_iload 4 rfl dX6_writeTo_59 ?_
    refine rr_imul dX6_writeTo_61 ?_
    rw [show ((4 : Int32) * (nI k1) : Int32) = (nI (4 * k1)) from jj_nm (4) (k1)]
    refine rr_iadd dX6_writeTo_62 ?_
    rw [show ((nI ((q * 35) + 3)) + (nI (4 * k1)) : Int32) = (nI (((q * 35) + 3) + (4 * k1))) from nI_add (((q * 35) + 3)) ((4 * k1))]
    refine rr_aload_n 0 rfl rfl dX6_writeTo_63 ?_
    refine rr_getR dX6_writeTo_64 fX6_9 lo_38 sh_38 rfl ?_
    refine rr_iload 4 rfl dX6_writeTo_67 ?_
    refine rr_iaload dX6_writeTo_69 lo_39 sh_39 (by first | assumption | exact jj_pers hP hn (by assumption) | exact vp_in_nI (by omega) (by decide) | decide | omega) ?_
    rw [show (jj_rs h [(36, a1)]) 39 = h 39 from rfl]
    refine rr_iastore dX6_writeTo_70 lo_36 sh_36 (by first | assumption | exact jj_pers hP hn (by assumption) | exact vp_in_nI (by omega) (by decide) | decide | omega) ?_
    rw [jj_rs_set (B := h) (L := [(36, a1)]) (L2 := [(36, (upd a1 (((nI (((q * 35) + 3) + (4 * k1))) : Int32).toNatClampNeg) ((h 39) ((nI k1) : Int32).toNatClampNeg)))]) (r := a1) rfl rfl]
    refine rr_aload_n 1 rfl rfl dX6_writeTo_71 ?_
    refine rr_iload_n 3 rfl rfl dX6_writeTo_72 ?_
    refine rr_iconst 4 rfl dX6_writeTo_73 ?_
    refine rr_iadd dX6_writeTo_74 ?_
    rw [show ((nI (q * 35)) + 4 : Int32) = (nI ((q * 35) + 4)) from nI_add ((q * 35)) (4)]
    refine rr_iconst 4 rfl dX6_writeTo_75 ?_
    refine rr_iload 4 rfl dX6_writeTo_76 ?_
    refine rr_imul dX6_writeTo_78 ?_
    rw [show ((4 : Int32) * (nI k1) : Int32) = (nI (4 * k1)) from jj_nm (4) (k1)]
    refine rr_iadd dX6_writeTo_79 ?_
    rw [show ((nI ((q * 35) + 4)) + (nI (4 * k1)) : Int32) = (nI (((q * 35) + 4) + (4 * k1))) from nI_add (((q * 35) + 4)) ((4 * k1))]
    refine rr_aload_n 0 rfl rfl dX6_writeTo_80 ?_
    refine rr_getR dX6_writeTo_81 fX6_15 lo_38 sh_38 rfl ?_
    refine rr_iload 4 rfl dX6_writeTo_84 ?_
    refine rr_iaload dX6_writeTo_86 lo_40 sh_40 (by first | assumption | exact jj_pers hP hn (by assumption) | exact vp_in_nI (by omega) (by decide) | decide | omega) ?_
    rw [show (jj_rs h [(36, (upd a1 (((nI (((q * 35) + 3) + (4 * k1))) : Int32).toNatClampNeg) ((h 39) ((nI k1) : Int32).toNatClampNeg)))]) 40 = h 40 from rfl]
    refine rr_iastore dX6_writeTo_87 lo_36 sh_36 (by first | assumption | exact jj_pers hP hn (by assumption) | exact vp_in_nI (by omega) (by decide) | decide | omega) ?_
    rw [jj_rs_set (B := h) (L := [(36, (upd a1 (((nI (((q * 35) + 3) + (4 * k1))) : Int32).toNatClampNeg) ((h 39) ((nI k1) : Int32).toNatClampNeg)))]) (L2 := [(36, (upd (upd a1 (((nI (((q * 35) + 3) + (4 * k1))) : Int32).toNatClampNeg) ((h 39) ((nI k1) : Int32).toNatClampNeg)) (((nI (((q * 35) + 4) + (4 * k1))) : Int32).toNatClampNeg) ((h 40) ((nI k1) : Int32).toNatClampNeg)))]) (r := (upd a1 (((nI (((q * 35) + 3) + (4 * k1))) : Int32).toNatClampNeg) ((h 39) ((nI k1) : Int32).toNatClampNeg))) rfl rfl]
    refine rr_aload_n 1 rfl rfl dX6_writeTo_88 ?_
    refine rr_iload_n 3 rfl rfl dX6_writeTo_89 ?_
    refine rr_iconst 5 rfl dX6_writeTo_90 ?_
    refine rr_iadd dX6_writeTo_91 ?_
    rw [show ((nI (q * 35)) + 5 : Int32) = (nI ((q * 35) + 5)) from nI_add ((q * 35)) (5)]
    refine rr_iconst 4 rfl dX6_writeTo_92 ?_
    refine rr_iload 4 rfl dX6_writeTo_93 ?_
    refine rr_imul dX6_writeTo_95 ?_
    rw [show ((4 : Int32) * (nI k1) : Int32) = (nI (4 * k1)) from jj_nm (4) (k1)]
    refine rr_iadd dX6_writeTo_96 ?_
    rw [show ((nI ((q * 35) + 5)) + (nI (4 * k1)) : Int32) = (nI (((q * 35) + 5) + (4 * k1))) from nI_add (((q * 35) + 5)) ((4 * k1))]
    refine rr_aload_n 0 rfl rfl dX6_writeTo_97 ?_
    refine rr_getR dX6_writeTo_98 fX6_18 lo_38 sh_38 rfl ?_
    refine rr_iload 4 rfl dX6_writeTo_101 ?_
    refine rr_iaload dX6_writeTo_103 lo_41 sh_41 (by first | assumption | exact jj_pers hP hn (by assumption) | exact vp_in_nI (by omega) (by decide) | decide | omega) ?_
    rw [show (jj_rs h [(36, (upd (upd a1 (((nI (((q * 35) + 3) + (4 * k1))) : Int32).toNatClampNeg) ((h 39) ((nI k1) : Int32).toNatClampNeg)) (((nI (((q * 35) + 4) + (4 * k1))) : Int32).toNatClampNeg) ((h 40) ((nI k1) : Int32).toNatClampNeg)))]) 41 = h 41 from rfl]
    refine rr_iastore dX6_writeTo_104 lo_36 sh_36 (by first | assumption | exact jj_pers hP hn (by assumption) | exact vp_in_nI (by omega) (by decide) | decide | omega) ?_
    rw [jj_rs_set (B := h) (L := [(36, (upd (upd a1 (((nI (((q * 35) + 3) + (4 * k1))) : Int32).toNatClampNeg) ((h 39) ((nI k1) : Int32).toNatClampNeg)) (((nI (((q * 35) + 4) + (4 * k1))) : Int32).toNatClampNeg) ((h 40) ((nI k1) : Int32).toNatClampNeg)))]) (L2 := [(36, (upd (upd (upd a1 (((nI (((q * 35) + 3) + (4 * k1))) : Int32).toNatClampNeg) ((h 39) ((nI k1) : Int32).toNatClampNeg)) (((nI (((q * 35) + 4) + (4 * k1))) : Int32).toNatClampNeg) ((h 40) ((nI k1) : Int32).toNatClampNeg)) (((nI (((q * 35) + 5) + (4 * k1))) : Int32).toNatClampNeg) ((h 41) ((nI k1) : Int32).toNatClampNeg)))]) (r := (upd (upd a1 (((nI (((q * 35) + 3) + (4 * k1))) : Int32).toNatClampNeg) ((h 39) ((nI k1) : Int32).toNatClampNeg)) (((nI (((q * 35) + 4) + (4 * k1))) : Int32).toNatClampNeg) ((h 40) ((nI k1) : Int32).toNatClampNeg))) rfl rfl]
    refine rr_aload_n 1 rfl rfl dX6_writeTo_105 ?_
    refine rr_iload_n 3 rfl rfl dX6_writeTo_106 ?_
    refine rr_bipush 6 rfl dX6_writeTo_107 ?_
    refine rr_iadd dX6_writeTo_109 ?_
    rw [show ((nI (q * 35)) + 6 : Int32) = (nI ((q * 35) + 6)) from nI_add ((q * 35)) (6)]
    refine rr_iconst 4 rfl dX6_writeTo_110 ?_
    refine rr_iload 4 rfl dX6_writeTo_111 ?_
    refine rr_imul dX6_writeTo_113 ?_
    rw [show ((4 : Int32) * (nI k1) : Int32) = (nI (4 * k1)) from jj_nm (4) (k1)]
    refine rr_iadd dX6_writeTo_114 ?_
    rw [show ((nI ((q * 35) + 6)) + (nI (4 * k1)) : Int32) = (nI (((q * 35) + 6) + (4 * k1))) from nI_add (((q * 35) + 6)) ((4 * k1))]
    refine rr_aload_n 0 rfl rfl dX6_writeTo_115 ?_
    refine rr_getR dX6_writeTo_116 fX6_21 lo_38 sh_38 rfl ?_
    refine rr_iload 4 rfl dX6_writeTo_119 ?_
    refine rr_iaload dX6_writeTo_121 lo_42 sh_42 (by first | assumption | exact jj_pers hP hn (by assumption) | exact vp_in_nI (by omega) (by decide) | decide | omega) ?_
    rw [show (jj_rs h [(36, (upd (upd (upd a1 (((nI (((q * 35) + 3) + (4 * k1))) : Int32).toNatClampNeg) ((h 39) ((nI k1) : Int32).toNatClampNeg)) (((nI (((q * 35) + 4) + (4 * k1))) : Int32).toNatClampNeg) ((h 40) ((nI k1) : Int32).toNatClampNeg)) (((nI (((q * 35) + 5) + (4 * k1))) : Int32).toNatClampNeg) ((h 41) ((nI k1) : Int32).toNatClampNeg)))]) 42 = h 42 from rfl]
    refine rr_iastore dX6_writeTo_122 lo_36 sh_36 (by first | assumption | exact jj_pers hP hn (by assumption) | exact vp_in_nI (by omega) (by decide) | decide | omega) ?_
    rw [jj_rs_set (B := h) (L := [(36, (upd (upd (upd a1 (((nI (((q * 35) + 3) + (4 * k1))) : Int32).toNatClampNeg) ((h 39) ((nI k1) : Int32).toNatClampNeg)) (((nI (((q * 35) + 4) + (4 * k1))) : Int32).toNatClampNeg) ((h 40) ((nI k1) : Int32).toNatClampNeg)) (((nI (((q * 35) + 5) + (4 * k1))) : Int32).toNatClampNeg) ((h 41) ((nI k1) : Int32).toNatClampNeg)))]) (L2 := [(36, (upd (upd (upd (upd a1 (((nI (((q * 35) + 3) + (4 * k1))) : Int32).toNatClampNeg) ((h 39) ((nI k1) : Int32).toNatClampNeg)) (((nI (((q * 35) + 4) + (4 * k1))) : Int32).toNatClampNeg) ((h 40) ((nI k1) : Int32).toNatClampNeg)) (((nI (((q * 35) + 5) + (4 * k1))) : Int32).toNatClampNeg) ((h 41) ((nI k1) : Int32).toNatClampNeg)) (((nI (((q * 35) + 6) + (4 * k1))) : Int32).toNatClampNeg) ((h 42) ((nI k1) : Int32).toNatClampNeg)))]) (r := (upd (upd (upd a1 (((nI (((q * 35) + 3) + (4 * k1))) : Int32).toNatClampNeg) ((h 39) ((nI k1) : Int32).toNatClampNeg)) (((nI (((q * 35) + 4) + (4 * k1))) : Int32).toNatClampNeg) ((h 40) ((nI k1) : Int32).toNatClampNeg)) (((nI (((q * 35) + 5) + (4 * k1))) : Int32).toNatClampNeg) ((h 41) ((nI k1) : Int32).toNatClampNeg))) rfl rfl]
    refine rr_iinc 4 1 [(0, .ref 38), (1, .ref 36), (2, .int (nI q)), (3, .int (nI (q * 35))), (4, .int ((nI k1) + 1))] dX6_writeTo_123 rfl rfl (by decide) rfl ?_
    refine rr_goto dX6_writeTo_126 ?_
    simpa only [nI_1, (nI_clamp (show k1 < 2 ^ 31 by omega)), fX6_writeTo_36_1] using ih1
  · try dsimp only
    refine rr_iload 4 rfl dX6_writeTo_47 ?_
    refine rr_bipush 8 rfl dX6_writeTo_49 ?_
    refine rr_icmp_ge dX6_writeTo_51 (fun _ => ?_) (fun c => absurd (jj_le_rf _) c)
    refine rr_return dX6_writeTo_129 rfl ?_
    simpa only [rX6_writeTo_36_36] using kq
def fX6_readFrom_36_1 (r36 : Nat → Int32) (q : Nat) (k1 : Nat) (a1 : (Nat → Int32) × (Nat → Int32) × (Nat → Int32) × (Nat → Int32)) : (Nat → Int32) × (Nat → Int32) × (Nat → Int32) × (Nat → Int32) := ((upd a1.1 (k1) (r36 ((nI (((q * 35) + 3) + (4 * k1))) : Int32).toNatClampNeg)), (upd a1.2.1 (k1) (r36 ((nI (((q * 35) + 4) + (4 * k1))) : Int32).toNatClampNeg)), (upd a1.2.2.1 (k1) (r36 ((nI (((q * 35) + 5) + (4 * k1))) : Int32).toNatClampNeg)), (upd a1.2.2.2 (k1) (r36 ((nI (((q * 35) + 6) + (4 * k1))) : Int32).toNatClampNeg)))
def rX6_readFrom_36_38 (r36 : Nat → Int32) (r38 : Nat → Int32) (r39 : Nat → Int32) (r40 : Nat → Int32) (r41 : Nat → Int32) (r42 : Nat → Int32) (q : Nat) : Nat → Int32 := (upd (upd (upd r38 (0) (r36 ((nI (q * 35)) : Int32).toNatClampNeg)) (1) (r36 ((nI ((q * 35) + 1)) : Int32).toNatClampNeg)) (2) (r36 ((nI ((q * 35) + 2)) : Int32).toNatClampNeg))
def rX6_readFrom_36_39 (r36 : Nat → Int32) (r38 : Nat → Int32) (r39 : Nat → Int32) (r40 : Nat → Int32) (r41 : Nat → Int32) (r42 : Nat → Int32) (q : Nat) : Nat → Int32 := (jj_fo (fX6_readFrom_36_1 r36 q) 8 (r39, r40, r41, r42)).1
def rX6_readFrom_36_40 (r36 : Nat → Int32) (r38 : Nat → Int32) (r39 : Nat → Int32) (r40 : Nat → Int32) (r41 : Nat → Int32) (r42 : Nat → Int32) (q : Nat) : Nat → Int32 := (jj_fo (fX6_readFrom_36_1 r36 q) 8 (r39, r40, r41, r42)).2.1
def rX6_readFrom_36_41 (r36 : Nat → Int32) (r38 : Nat → Int32) (r39 : Nat → Int32) (r40 : Nat → Int32) (r41 : Nat → Int32) (r42 : Nat → Int32) (q : Nat) : Nat → Int32 := (jj_fo (fX6_readFrom_36_1 r36 q) 8 (r39, r40, r41, r42)).2.2.1
def rX6_readFrom_36_42 (r36 : Nat → Int32) (r38 : Nat → Int32) (r39 : Nat → Int32) (r40 : Nat → Int32) (r41 : Nat → Int32) (r42 : Nat → Int32) (q : Nat) : Nat → Int32 := (jj_fo (fX6_readFrom_36_1 r36 q) 8 (r39, r40, r41, r42)).2.2.2
set_option maxHeartbeats 1000000 in
theorem sp_X6_readFrom_36 {d kc ks : Nat} {h : Nat → Nat → Int32} {g : Nat → Nat → Int64} {Q : jj_Rs → jj_St → Prop} {q : Nat} {q_ : Int32} (hq_ : q_ = nI q) (hq : q < 51) (kq : Q (.inl none) (jj_S, 782, (jj_rs h [(38, (rX6_readFrom_36_38 (h 36) (h 38) (h 39) (h 40) (h 41) (h 42) q)), (39, (rX6_readFrom_36_39 (h 36) (h 38) (h 39) (h 40) (h 41) (h 42) q)), (40, (rX6_readFrom_36_40 (h 36) (h 38) (h 39) (h 40) (h 41) (h 42) q)), (41, (rX6_readFrom_36_41 (h 36) (h 38) (h 39) (h 40) (h 41) (h 42) q)), (42, (rX6_readFrom_36_42 (h 36) (h 38) (h 39) (h 40) (h 41) (h 42) q))]), g)) : jj_R mX6_readFrom (d + 0) kc ks (jj_S, 782, h, g) 0 [(0, .ref 38), (1, .ref 36), (2, .int q_)] [] Q := by
  subst hq_
  refine rr_iload_n 2 rfl rfl dX6_readFrom_0 ?_
  refine rr_bipush 35 rfl dX6_readFrom_1 ?_
  refine rr_imul dX6_readFrom_3 ?_
  rw [show ((nI q) * 35 : Int32) = (nI (q * 35)) from jj_nm (q) (35)]
  refine rr_istore_n [(0, .ref 38), (1, .ref 36), (2, .int (nI q)), (3, .int (nI (q * 35)))] dX6_readFrom_4 rfl (by decide) rfl ?_
  refine rr_iload_n 2 rfl rfl dX6_readFrom_5 ?_
  refine rr_if_lt dX6_readFrom_6 (fun c => absurd c (nI_pos (by omega))) (fun _ => ?_)
  refine rr_iload_n 3 rfl rfl dX6_readFrom_9 ?_
  refine rr_bipush 35 rfl dX6_readFrom_10 ?_
  refine rr_iadd dX6_readFrom_12 ?_
  rw [show ((nI (q * 35)) + 35 : Int32) = (nI ((q * 35) + 35)) from nI_add ((q * 35)) (35)]
  refine rr_aload_n 1 rfl rfl dX6_readFrom_13 ?_
  refine rr_alenI 1785 dX6_readFrom_14 lo_36 sh_36 (by decide) rfl ?_
  refine rr_icmp_le dX6_readFrom_15 (fun _ => ?_) (fun c => absurd (jj_le_n (b := 1785) (by omega) (by decide)) c)
  refine rr_aload_n 0 rfl rfl dX6_readFrom_19 ?_
  refine rr_aload_n 1 rfl rfl dX6_readFrom_20 ?_
  refine rr_iload_n 3 rfl rfl dX6_readFrom_21 ?_
  refine rr_iaload dX6_readFrom_22 lo_36 sh_36 (by first | assumption | exact jj_pers hP hn (by assumption) | exact vp_in_nI (by omega) (by decide) | decide | omega) ?_
  refine rr_putI dX6_readFrom_23 fX6_24 ni6_0 lo_38 sh_38 rfl ?_
  rw [jj_rs_set0 (B := h) (o := 38) (r := (h 38)) rfl]
  refine rr_aload_n 0 rfl rfl dX6_readFrom_26 ?_
  refine rr_aload_n 1 rfl rfl dX6_readFrom_27 ?_
  refine rr_iload_n 3 rfl rfl dX6_readFrom_28 ?_
  refine rr_iconst 1 rfl dX6_readFrom_29 ?_
  refine rr_iadd dX6_readFrom_30 ?_
  rw [show ((nI (q * 35)) + 1 : Int32) = (nI ((q * 35) + 1)) from nI_add ((q * 35)) (1)]
  refine rr_iaload dX6_readFrom_31 lo_36 sh_36 (by first | assumption | exact jj_pers hP hn (by assumption) | exact vp_in_nI (by omega) (by decide) | decide | omega) ?_
  rw [show (jj_rs h [(38, (upd (h 38) (0) ((h 36) ((nI (q * 35)) : Int32).toNatClampNeg)))]) 36 = h 36 from rfl]
  refine rr_putI dX6_readFrom_32 fX6_28 ni6_1 lo_38 sh_38 rfl ?_
  rw [jj_rs_set (B := h) (L := [(38, (upd (h 38) (0) ((h 36) ((nI (q * 35)) : Int32).toNatClampNeg)))]) (L2 := [(38, (upd (upd (h 38) (0) ((h 36) ((nI (q * 35)) : Int32).toNatClampNeg)) (1) ((h 36) ((nI ((q * 35) + 1)) : Int32).toNatClampNeg)))]) (r := (upd (h 38) (0) ((h 36) ((nI (q * 35)) : Int32).toNatClampNeg))) rfl rfl]
  refine rr_aload_n 0 rfl rfl dX6_readFrom_35 ?_
  refine rr_aload_n 1 rfl rfl dX6_readFrom_36 ?_
  refine rr_iload_n 3 rfl rfl dX6_readFrom_37 ?_
  refine rr_iconst 2 rfl dX6_readFrom_38 ?_
  refine rr_iadd dX6_readFrom_39 ?_
  rw [show ((nI (q * 35)) + 2 : Int32) = (nI ((q * 35) + 2)) from nI_add ((q * 35)) (2)]
  refine rr_iaload dX6_readFrom_40 lo_36 sh_36 (by first | assumption | exact jj_pers hP hn (by assumption) | exact vp_in_nI (by omega) (by decide) | decide | omega) ?_
  rw [show (jj_rs h [(38, (upd (upd (h 38) (0) ((h 36) ((nI (q * 35)) : Int32).toNatClampNeg)) (1) ((h 36) ((nI ((q * 35) + 1)) : Int32).toNatClampNeg)))]) 36 = h 36 from rfl]
  refine rr_putI dX6_readFrom_41 fX6_31 ni6_2 lo_38 sh_38 rfl ?_
  rw [jj_rs_set (B := h) (L := [(38, (upd (upd (h 38) (0) ((h 36) ((nI (q * 35)) : Int32).toNatClampNeg)) (1) ((h 36) ((nI ((q * 35) + 1)) : Int32).toNatClampNeg)))]) (L2 := [(38, (upd (upd (upd (h 38) (0) ((h 36) ((nI (q * 35)) : Int32).toNatClampNeg)) (1) ((h 36) ((nI ((q * 35) + 1)) : Int32).toNatClampNeg)) (2) ((h 36) ((nI ((q * 35) + 2)) : Int32).toNatClampNeg)))]) (r := (upd (upd (h 38) (0) ((h 36) ((nI (q * 35)) : Int32).toNatClampNeg)) (1) ((h 36) ((nI ((q * 35) + 1)) : Int32).toNatClampNeg))) rfl rfl]
  refine rr_iconst 0 rfl dX6_readFrom_44 ?_
  refine rr_istore [(0, .ref 38), (1, .ref 36), (2, .int (nI q)), (3, .int (nI (q * 35))), (4, .int 0)] dX6_readFrom_45 (by decide) rfl ?_
  refine jj_Rh (jj_rs_add (B := h) (L := [(38, (upd (upd (upd (h 38) (0) ((h 36) ((nI (q * 35)) : Int32).toNatClampNeg)) (1) ((h 36) ((nI ((q * 35) + 1)) : Int32).toNatClampNeg)) (2) ((h 36) ((nI ((q * 35) + 2)) : Int32).toNatClampNeg)))]) (L2 := [(38, (upd (upd (upd (h 38) (0) ((h 36) ((nI (q * 35)) : Int32).toNatClampNeg)) (1) ((h 36) ((nI ((q * 35) + 1)) : Int32).toNatClampNeg)) (2) ((h 36) ((nI ((q * 35) + 2)) : Int32).toNatClampNeg))), (39, (h 39))]) (o := 39) (r := (h 39)) rfl rfl) ?_
  refine jj_Rh (jj_rs_add (B := h) (L := [(38, (upd (upd (upd (h 38) (0) ((h 36) ((nI (q * 35)) : Int32).toNatClampNeg)) (1) ((h 36) ((nI ((q * 35) + 1)) : Int32).toNatClampNeg)) (2) ((h 36) ((nI ((q * 35) + 2)) : Int32).toNatClampNeg))), (39, (h 39))]) (L2 := [(38, (upd (upd (upd (h 38) (0) ((h 36) ((nI (q * 35)) : Int32).toNatClampNeg)) (1) ((h 36) ((nI ((q * 35) + 1)) : Int32).toNatClampNeg)) (2) ((h 36) ((nI ((q * 35) + 2)) : Int32).toNatClampNeg))), (39, (h 39)), (40, (h 40))]) (o := 40) (r := (h 40)) rfl rfl) ?_
  refine jj_Rh (jj_rs_add (B := h) (L := [(38, (upd (upd (upd (h 38) (0) ((h 36) ((nI (q * 35)) : Int32).toNatClampNeg)) (1) ((h 36) ((nI ((q * 35) + 1)) : Int32).toNatClampNeg)) (2) ((h 36) ((nI ((q * 35) + 2)) : Int32).toNatClampNeg))), (39, (h 39)), (40, (h 40))]) (L2 := [(38, (upd (upd (upd (h 38) (0) ((h 36) ((nI (q * 35)) : Int32).toNatClampNeg)) (1) ((h 36) ((nI ((q * 35) + 1)) : Int32).toNatClampNeg)) (2) ((h 36) ((nI ((q * 35) + 2)) : Int32).toNatClampNeg))), (39, (h 39)), (40, (h 40)), (41, (h 41))]) (o := 41) (r := (h 41)) rfl rfl) ?_
  refine jj_Rh (jj_rs_add (B := h) (L := [(38, (upd (upd (upd (h 38) (0) ((h 36) ((nI (q * 35)) : Int32).toNatClampNeg)) (1) ((h 36) ((nI ((q * 35) + 1)) : Int32).toNatClampNeg)) (2) ((h 36) ((nI ((q * 35) + 2)) : Int32).toNatClampNeg))), (39, (h 39)), (40, (h 40)), (41, (h 41))]) (L2 := [(38, (upd (upd (upd (h 38) (0) ((h 36) ((nI (q * 35)) : Int32).toNatClampNeg)) (1) ((h 36) ((nI ((q * 35) + 1)) : Int32).toNatClampNeg)) (2) ((h 36) ((nI ((q * 35) + 2)) : Int32).toNatClampNeg))), (39, (h 39)), (40, (h 40)), (41, (h 41)), (42, (h 42))]) (o := 42) (r := (h 42)) rfl rfl) ?_
  refine jj_for (fun k1 (a1 : (Nat → Int32) × (Nat → Int32) × (Nat → Int32) × (Nat → Int32)) => jj_R _ _ kc ks (jj_S, 782, (jj_rs h [(38, (upd (upd (upd (h 38) (0) ((h 36) ((nI (q * 35)) : Int32).toNatClampNeg)) (1) ((h 36) ((nI ((q * 35) + 1)) : Int32).toNatClampNeg)) (2) ((h 36) ((nI ((q * 35) + 2)) : Int32).toNatClampNeg))), (39, a1.1), (40, a1.2.1), (41, a1.2.2.1), (42, a1.2.2.2)]), g) 47 [(0, .ref 38), (1, .ref 36), (2, .int (nI q)), (3, .int (nI (q * 35))), (4, .int (nI k1))] [] Q) (fX6_readFrom_36_1 (h 36) q) 8 ((h 39), (h 40), (h 41), (h 42)) ?_ ?_
  · intro k1 hk1 ih1
    generalize jj_fo _ k1 _ = a1 at ih1 ⊢
    try dsimp only at ih1 ⊢
    refine rr_iload 4 rfl dX6_readFrom_47 ?_
    refine rr_bipush 8 rfl dX6_readFrom_49 ?_
    refine rr_icmp_ge dX6_readFrom_51 (fun c => absurd c (nI_ge (a := k1) (b := 8) (by omega) (by omega))) (fun _ => ?_)
    refine rr_aload_n 0 rfl rfl dX6_readFrom_54 ?_
    refine rr_getR dX6_readFrom_55 fX6_9 lo_38 sh_38 rfl ?_
    refine rr_iload 4 rfl dX6_readFrom_58 ?_
    refine rr_aload_n 1 rfl rfl dX6_readFrom_60 ?_
    refine rr_iload_n 3 rfl rfl dX6_readFrom_61 ?_
    refine rr_iconst 3 rfl dX6_readFrom_62 ?_
    refine rr_iadd dX6_readFrom_63 ?_
    rw [show ((nI (q * 35)) + 3 : Int32) = (nI ((q * 35) + 3)) from nI_add ((q * 35)) (3)]
    refine rr_iconst 4 rfl dX6_readFrom_64 ?_
    refine rr_iload 4 rfl dX6_readFrom_65 ?_
    refine rr_imul dX6_readFrom_67 ?_
    rw [show ((4 : Int32) * (nI k1) : Int32) = (nI (4 * k1)) from jj_nm (4) (k1)]
    refine rr_iadd dX6_readFrom_68 ?_
    rw [show ((nI ((q * 35) + 3)) + (nI (4 * k1)) : Int32) = (nI (((q * 35) + 3) + (4 * k1))) from nI_add (((q * 35) + 3)) ((4 * k1))]
    refine rr_iaload dX6_readFrom_69 lo_36 sh_36 (by first | assumption | exact jj_pers hP hn (by assumption) | exact vp_in_nI (by omega) (by decide) | decide | omega) ?_
    rw [show (jj_rs h [(38, (upd (upd (upd (h 38) (0) ((h 36) ((nI (q * 35)) : Int32).toNatClampNeg)) (1) ((h 36) ((nI ((q * 35) + 1)) : Int32).toNatClampNeg)) (2) ((h 36) ((nI ((q * 35) + 2)) : Int32).toNatClampNeg))), (39, a1.1), (40, a1.2.1), (41, a1.2.2.1), (42, a1.2.2.2)]) 36 = h 36 from rfl]
    refine rr_iastore dX6_readFrom_70 lo_39 sh_39 (by first | assumption | exact jj_pers hP hn (by assumption) | exact vp_in_nI (by omega) (by decide) | decide | omega) ?_
    rw [jj_rs_set (B := h) (L := [(38, (upd (upd (upd (h 38) (0) ((h 36) ((nI (q * 35)) : Int32).toNatClampNeg)) (1) ((h 36) ((nI ((q * 35) + 1)) : Int32).toNatClampNeg)) (2) ((h 36) ((nI ((q * 35) + 2)) : Int32).toNatClampNeg))), (39, a1.1), (40, a1.2.1), (41, a1.2.2.1), (42, a1.2.2.2)]) (L2 := [(38, (upd (upd (upd (h 38) (0) ((h 36) ((nI (q * 35)) : Int32).toNatClampNeg)) (1) ((h 36) ((nI ((q * 35) + 1)) : Int32).toNatClampNeg)) (2) ((h 36) ((nI ((q * 35) + 2)) : Int32).toNatClampNeg))), (39, (upd a1.1 (((nI k1) : Int32).toNatClampNeg) ((h 36) ((nI (((q * 35) + 3) + (4 * k1))) : Int32).toNatClampNeg))), (40, a1.2.1), (41, a1.2.2.1), (42, a1.2.2.2)]) (r := a1.1) rfl rfl]
    refine rr_aload_n 0 rfl rfl dX6_readFrom_71 ?_
    refine rr_getR dX6_readFrom_72 fX6_15 lo_38 sh_38 rfl ?_
    refine rr_iload 4 rfl dX6_readFrom_75 ?_
    refine rr_aload_n 1 rfl rfl dX6_readFrom_77 ?_
    refine rr_iload_n 3 rfl rfl dX6_readFrom_78 ?_
    refine rr_iconst 4 rfl dX6_readFrom_79 ?_
    refine rr_iadd dX6_readFrom_80 ?_
    rw [show ((nI (q * 35)) + 4 : Int32) = (nI ((q * 35) + 4)) from nI_add ((q * 35)) (4)]
    refine rr_iconst 4 rfl dX6_readFrom_81 ?_
    refine rr_iload 4 rfl dX6_readFrom_82 ?_
    refine rr_imul dX6_readFrom_84 ?_
    rw [show ((4 : Int32) * (nI k1) : Int32) = (nI (4 * k1)) from jj_nm (4) (k1)]
    refine rr_iadd dX6_readFrom_85 ?_
    rw [show ((nI ((q * 35) + 4)) + (nI (4 * k1)) : Int32) = (nI (((q * 35) + 4) + (4 * k1))) from nI_add (((q * 35) + 4)) ((4 * k1))]
    refine rr_iaload dX6_readFrom_86 lo_36 sh_36 (by first | assumption | exact jj_pers hP hn (by assumption) | exact vp_in_nI (by omega) (by decide) | decide | omega) ?_
    rw [show (jj_rs h [(38, (upd (upd (upd (h 38) (0) ((h 36) ((nI (q * 35)) : Int32).toNatClampNeg)) (1) ((h 36) ((nI ((q * 35) + 1)) : Int32).toNatClampNeg)) (2) ((h 36) ((nI ((q * 35) + 2)) : Int32).toNatClampNeg))), (39, (upd a1.1 (((nI k1) : Int32).toNatClampNeg) ((h 36) ((nI (((q * 35) + 3) + (4 * k1))) : Int32).toNatClampNeg))), (40, a1.2.1), (41, a1.2.2.1), (42, a1.2.2.2)]) 36 = h 36 from rfl]
    refine rr_iastore dX6_readFrom_87 lo_40 sh_40 (by first | assumption | exact jj_pers hP hn (by assumption) | exact vp_in_nI (by omega) (by decide) | decide | omega) ?_
    rw [jj_rs_set (B := h) (L := [(38, (upd (upd (upd (h 38) (0) ((h 36) ((nI (q * 35)) : Int32).toNatClampNeg)) (1) ((h 36) ((nI ((q * 35) + 1)) : Int32).toNatClampNeg)) (2) ((h 36) ((nI ((q * 35) + 2)) : Int32).toNatClampNeg))), (39, (upd a1.1 (((nI k1) : Int32).toNatClampNeg) ((h 36) ((nI (((q * 35) + 3) + (4 * k1))) : Int32).toNatClampNeg))), (40, a1.2.1), (41, a1.2.2.1), (42, a1.2.2.2)]) (L2 := [(38, (upd (upd (upd (h 38) (0) ((h 36) ((nI (q * 35)) : Int32).toNatClampNeg)) (1) ((h 36) ((nI ((q * 35) + 1)) : Int32).toNatClampNeg)) (2) ((h 36) ((nI ((q * 35) + 2)) : Int32).toNatClampNeg))), (39, (upd a1.1 (((nI k1) : Int32).toNatClampNeg) ((h 36) ((nI (((q * 35) + 3) + (4 * k1))) : Int32).toNatClampNeg))), (40, (upd a1.2.1 (((nI k1) : Int32).toNatClampNeg) ((h 36) ((nI (((q * 35) + 4) + (4 * k1))) : Int32).toNatClampNeg))), (41, a1.2.2.1), (42, a1.2.2.2)]) (r := a1.2.1) rfl rfl]
    refine rr_aload_n 0 rfl rfl dX6_readFrom_88 ?_
    refine rr_getR dX6_readFrom_89 fX6_18 lo_38 sh_38 rfl ?_
    refine rr_iload 4 rfl dX6_readFrom_92 ?_
    refine rr_aload_n 1 rfl rfl dX6_readFrom_94 ?_
    refine rr_iload_n 3 rfl rfl dX6_readFrom_95 ?_
    refine rr_iconst 5 rfl dX6_readFrom_96 ?_
    refine rr_iadd dX6_readFrom_97 ?_
    rw [show ((nI (q * 35)) + 5 : Int32) = (nI ((q * 35) + 5)) from nI_add ((q * 35)) (5)]
    refine rr_iconst 4 rfl dX6_readFrom_98 ?_
    refine rr_iload 4 rfl dX6_readFrom_99 ?_
    refine rr_imul dX6_readFrom_101 ?_
    rw [show ((4 : Int32) * (nI k1) : Int32) = (nI (4 * k1)) from jj_nm (4) (k1)]
    refine rr_iadd dX6_readFrom_102 ?_
    rw [show ((nI ((q * 35) + 5)) + (nI (4 * k1)) : Int32) = (nI (((q * 35) + 5) + (4 * k1))) from nI_add (((q * 35) + 5)) ((4 * k1))]
    refine rr_iaload dX6_readFrom_103 lo_36 sh_36 (by first | assumption | exact jj_pers hP hn (by assumption) | exact vp_in_nI (by omega) (by decide) | decide | omega) ?_
    rw [show (jj_rs h [(38, (upd (upd (upd (h 38) (0) ((h 36) ((nI (q * 35)) : Int32).toNatClampNeg)) (1) ((h 36) ((nI ((q * 35) + 1)) : Int32).toNatClampNeg)) (2) ((h 36) ((nI ((q * 35) + 2)) : Int32).toNatClampNeg))), (39, (upd a1.1 (((nI k1) : Int32).toNatClampNeg) ((h 36) ((nI (((q * 35) + 3) + (4 * k1))) : Int32).toNatClampNeg))), (40, (upd a1.2.1 (((nI k1) : Int32).toNatClampNeg) ((h 36) ((nI (((q * 35) + 4) + (4 * k1))) : Int32).toNatClampNeg))), (41, a1.2.2.1), (42, a1.2.2.2)]) 36 = h 36 from rfl]
    refine rr_iastore dX6_readFrom_104 lo_41 sh_41 (by first | assumption | exact jj_pers hP hn (by assumption) | exact vp_in_nI (by omega) (by decide) | decide | omega) ?_
    rw [jj_rs_set (B := h) (L := [(38, (upd (upd (upd (h 38) (0) ((h 36) ((nI (q * 35)) : Int32).toNatClampNeg)) (1) ((h 36) ((nI ((q * 35) + 1)) : Int32).toNatClampNeg)) (2) ((h 36) ((nI ((q * 35) + 2)) : Int32).toNatClampNeg))), (39, (upd a1.1 (((nI k1) : Int32).toNatClampNeg) ((h 36) ((nI (((q * 35) + 3) + (4 * k1))) : Int32).toNatClampNeg))), (40, (upd a1.2.1 (((nI k1) : Int32).toNatClampNeg) ((h 36) ((nI (((q * 35) + 4) + (4 * k1))) : Int32).toNatClampNeg))), (41, a1.2.2.1), (42, a1.2.2.2)]) (L2 := [(38, (upd (upd (upd (h 38) (0) ((h 36) ((nI (q * 35)) : Int32).toNatClampNeg)) (1) ((h 36) ((nI ((q * 35) + 1)) : Int32).toNatClampNeg)) (2) ((h 36) ((nI ((q * 35) + 2)) : Int32).toNatClampNeg))), (39, (upd a1.1 (((nI k1) : Int32).toNatClampNeg) ((h 36) ((nI (((q * 35) + 3) + (4 * k1))) : Int32).toNatClampNeg))), (40, (upd a1.2.1 (((nI k1) : Int32).toNatClampNeg) ((h 36) ((nI (((q * 35) + 4) + (4 * k1))) : Int32).toNatClampNeg))), (41, (upd a1.2.2.1 (((nI k1) : Int32).toNatClampNeg) ((h 36) ((nI (((q * 35) + 5) + (4 * k1))) : Int32).toNatClampNeg))), (42, a1.2.2.2)]) (r := a1.2.2.1) rfl rfl]
    refine rr_aload_n 0 rfl rfl dX6_readFrom_105 ?_
    refine rr_getR dX6_readFrom_106 fX6_21 lo_38 sh_38 rfl ?_
    refine rr_iload 4 rfl dX6_readFrom_109 ?_
    refine rr_aload_n 1 rfl rfl dX6_readFrom_111 ?_
    refine rr_iload_n 3 rfl rfl dX6_readFrom_112 ?_
    refine rr_bipush 6 rfl dX6_readFrom_113 ?_
    refine rr_iadd dX6_readFrom_115 ?_
    rw [show ((nI (q * 35)) + 6 : Int32) = (nI ((q * 35) + 6)) from nI_add ((q * 35)) (6)]
    refine rr_iconst 4 rfl dX6_readFrom_116 ?_
    refine rr_iload 4 rfl dX6_readFrom_117 ?_
    refine rr_imul dX6_readFrom_119 ?_
    rw [show ((4 : Int32) * (nI k1) : Int32) = (nI (4 * k1)) from jj_nm (4) (k1)]
    refine rr_iadd dX6_readFrom_120 ?_
    rw [show ((nI ((q * 35) + 6)) + (nI (4 * k1)) : Int32) = (nI (((q * 35) + 6) + (4 * k1))) from nI_add (((q * 35) + 6)) ((4 * k1))]
    refine rr_iaload dX6_readFrom_121 lo_36 sh_36 (by first | assumption | exact jj_pers hP hn (by assumption) | exact vp_in_nI (by omega) (by decide) | decide | omega) ?_
    rw [show (jj_rs h [(38, (upd (upd (upd (h 38) (0) ((h 36) ((nI (q * 35)) : Int32).toNatClampNeg)) (1) ((h 36) ((nI ((q * 35) + 1)) : Int32).toNatClampNeg)) (2) ((h 36) ((nI ((q * 35) + 2)) : Int32).toNatClampNeg))), (39, (upd a1.1 (((nI k1) : Int32).toNatClampNeg) ((h 36) ((nI (((q * 35) + 3) + (4 * k1))) : Int32).toNatClampNeg))), (40, (upd a1.2.1 (((nI k1) : Int32).toNatClampNeg) ((h 36) ((nI (((q * 35) + 4) + (4 * k1))) : Int32).toNatClampNeg))), (41, (upd a1.2.2.1 (((nI k1) : Int32).toNatClampNeg) ((h 36) ((nI (((q * 35) + 5) + (4 * k1))) : Int32).toNatClampNeg))), (42, a1.2.2.2)]) 36 = h 36 from rfl]
    refine rr_iastore dX6_readFrom_122 lo_42 sh_42 (by first | assumption | exact jj_pers hP hn (by assumption) | exact vp_in_nI (by omega) (by decide) | decide | omega) ?_
    rw [jj_rs_set (B := h) (L := [(38, (upd (upd (upd (h 38) (0) ((h 36) ((nI (q * 35)) : Int32).toNatClampNeg)) (1) ((h 36) ((nI ((q * 35) + 1)) : Int32).toNatClampNeg)) (2) ((h 36) ((nI ((q * 35) + 2)) : Int32).toNatClampNeg))), (39, (upd a1.1 (((nI k1) : Int32).toNatClampNeg) ((h 36) ((nI (((q * 35) + 3) + (4 * k1))) : Int32).toNatClampNeg))), (40, (upd a1.2.1 (((nI k1) : Int32).toNatClampNeg) ((h 36) ((nI (((q * 35) + 4) + (4 * k1))) : Int32).toNatClampNeg))), (41, (upd a1.2.2.1 (((nI k1) : Int32).toNatClampNeg) ((h 36) ((nI (((q * 35) + 5) + (4 * k1))) : Int32).toNatClampNeg))), (42, a1.2.2.2)]) (L2 := [(38, (upd (upd (upd (h 38) (0) ((h 36) ((nI (q * 35)) : Int32).toNatClampNeg)) (1) ((h 36) ((nI ((q * 35) + 1)) : Int32).toNatClampNeg)) (2) ((h 36) ((nI ((q * 35) + 2)) : Int32).toNatClampNeg))), (39, (upd a1.1 (((nI k1) : Int32).toNatClampNeg) ((h 36) ((nI (((q * 35) + 3) + (4 * k1))) : Int32).toNatClampNeg))), (40, (upd a1.2.1 (((nI k1) : Int32).toNatClampNeg) ((h 36) ((nI (((q * 35) + 4) + (4 * k1))) : Int32).toNatClampNeg))), (41, (upd a1.2.2.1 (((nI k1) : Int32).toNatClampNeg) ((h 36) ((nI (((q * 35) + 5) + (4 * k1))) : Int32).toNatClampNeg))), (42, (upd a1.2.2.2 (((nI k1) : Int32).toNatClampNeg) ((h 36) ((nI (((q * 35) + 6) + (4 * k1))) : Int32).toNatClampNeg)))]) (r := a1.2.2.2) rfl rfl]
    refine rr_iinc 4 1 [(0, .ref 38), (1, .ref 36), (2, .int (nI q)), (3, .int (nI (q * 35))), (4, .int ((nI k1) + 1))] dX6_readFrom_123 rfl rfl (by decide) rfl ?_
    refine rr_goto dX6_readFrom_126 ?_
    simpa only [nI_1, (nI_clamp (show k1 < 2 ^ 31 by omega)), fX6_readFrom_36_1] using ih1
  · try dsimp only
    refine rr_iload 4 rfl dX6_readFrom_47 ?_
    refine rr_bipush 8 rfl dX6_readFrom_49 ?_
    refine rr_icmp_ge dX6_readFrom_51 (fun _ => ?_) (fun c => absurd (jj_le_rf _) c)
    refine rr_return dX6_readFrom_129 rfl ?_
    simpa only [rX6_readFrom_36_38, rX6_readFrom_36_39, rX6_readFrom_36_40, rX6_readFrom_36_41, rX6_readFrom_36_42] using kq
def rX1_keepWork_34 (r34 : Nat → Int32) (r35 : Nat → Int32) (r38 : Nat → Int32) (r39 : Nat → Int32) (r40 : Nat → Int32) (r41 : Nat → Int32) (r42 : Nat → Int32) (u : Nat) : Nat → Int32 := (if 16 ≤ (nI u) then r34 else (upd r34 (0) (nI (u + 1))))
def rX1_keepWork_35 (r34 : Nat → Int32) (r35 : Nat → Int32) (r38 : Nat → Int32) (r39 : Nat → Int32) (r40 : Nat → Int32) (r41 : Nat → Int32) (r42 : Nat → Int32) (u : Nat) : Nat → Int32 := (if 16 ≤ (nI u) then r35 else (rX6_writeTo_35_35 r35 r38 r39 r40 r41 r42 u))
set_option maxHeartbeats 1000000 in
theorem sp_X1_keepWork {d kc ks : Nat} {h : Nat → Nat → Int32} {g : Nat → Nat → Int64} {Q : jj_Rs → jj_St → Prop} {u : Nat} (hu : h 34 0 = nI u) (hu2 : u ≤ 16) (kq : Q (.inl none) (jj_S, 782, (jj_rs h [(34, (rX1_keepWork_34 (h 34) (h 35) (h 38) (h 39) (h 40) (h 41) (h 42) u)), (35, (rX1_keepWork_35 (h 34) (h 35) (h 38) (h 39) (h 40) (h 41) (h 42) u))]), g)) : jj_R mX1_keepWork (d + 1) kc ks (jj_S, 782, h, g) 0 [(0, .ref 34), (1, .ref 38)] [] Q := by
  refine rr_aload_n 0 rfl rfl dX1_keepWork_0 ?_
  refine rr_getI dX1_keepWork_1 fX1_23 lo_34 sh_34 rfl ?_
  rw [hu]
  refine rr_bipush 16 rfl dX1_keepWork_4 ?_
  refine rr_icmp_ge dX1_keepWork_6 (fun c1 => ?_) (fun c1 => ?_)
  · skip
    refine rr_return dX1_keepWork_31 rfl ?_
    refine jj_Qh (jj_addr (B := h) (o := 34) (r := (h 34)) rfl) ?_
    refine jj_Qh (jj_rs_add (B := h) (L := [(34, (h 34))]) (L2 := [(34, (h 34)), (35, (h 35))]) (o := 35) (r := (h 35)) rfl rfl) ?_
    simpa only [rX1_keepWork_34, rX1_keepWork_35, if_pos c1] using kq
  · skip
    refine rr_aload_n 1 rfl rfl dX1_keepWork_9 ?_
    refine rr_aload_n 0 rfl rfl dX1_keepWork_10 ?_
    refine rr_getR dX1_keepWork_11 fX1_11 lo_34 sh_34 rfl ?_
    refine rr_aload_n 0 rfl rfl dX1_keepWork_14 ?_
    refine rr_getI dX1_keepWork_15 fX1_23 lo_34 sh_34 rfl ?_
    rw [hu]
    refine rr_callV (As := [.ref 35, .int (nI u)]) (rest := []) (kc2 := 0) (ks2 := 0) dX1_keepWork_18 okX6_writeTo lX1_30 lo_38 sh_38 rfl rfl (Nat.le_of_ble_eq_true rfl) (Nat.le_of_ble_eq_true rfl) rfl (by omega) (by simp [jj_rk]) (by simp [jj_rk]) ?_
    refine sp_X6_writeTo_35 (q := u) rfl (by first | omega | exact jj_nl (by omega) (by decide) (by assumption)) ?_
    show jj_R _ _ kc ks (jj_S, 782, (jj_rs h [(35, (rX6_writeTo_35_35 (h 35) (h 38) (h 39) (h 40) (h 41) (h 42) u))]), g) 21 [(0, .ref 34), (1, .ref 38)] [] Q
    refine rr_aload_n 0 rfl rfl dX1_keepWork_21 ?_
    refine rr_dup rfl dX1_keepWork_22 ?_
    refine rr_getI dX1_keepWork_23 fX1_23 lo_34 sh_34 rfl ?_
    rw [show (jj_rs h [(35, (rX6_writeTo_35_35 (h 35) (h 38) (h 39) (h 40) (h 41) (h 42) u))]) 34 = h 34 from rfl]
    rw [hu]
    refine rr_iconst 1 rfl dX1_keepWork_26 ?_
    refine rr_iadd dX1_keepWork_27 ?_
    rw [show ((nI u) + 1 : Int32) = (nI (u + 1)) from nI_add (u) (1)]
    refine rr_putI dX1_keepWork_28 fX1_23 ni1_0 lo_34 sh_34 rfl ?_
    rw [jj_rs_set (B := h) (L := [(35, (rX6_writeTo_35_35 (h 35) (h 38) (h 39) (h 40) (h 41) (h 42) u))]) (L2 := [(34, (upd (h 34) (0) (nI (u + 1)))), (35, (rX6_writeTo_35_35 (h 35) (h 38) (h 39) (h 40) (h 41) (h 42) u))]) (r := (h 34)) rfl rfl]
    refine rr_return dX1_keepWork_31 rfl ?_
    simpa only [rX1_keepWork_34, rX1_keepWork_35, if_neg c1] using kq
def rX1_takeWorkBack_34 (r34 : Nat → Int32) (r35 : Nat → Int32) (r38 : Nat → Int32) (r39 : Nat → Int32) (r40 : Nat → Int32) (r41 : Nat → Int32) (r42 : Nat → Int32) (u : Nat) : Nat → Int32 := (if (nI u) ≤ 0 then r34 else (upd r34 (0) (nI (u - 1))))
def rX1_takeWorkBack_38 (r34 : Nat → Int32) (r35 : Nat → Int32) (r38 : Nat → Int32) (r39 : Nat → Int32) (r40 : Nat → Int32) (r41 : Nat → Int32) (r42 : Nat → Int32) (u : Nat) : Nat → Int32 := (if (nI u) ≤ 0 then r38 else (rX6_readFrom_35_38 r35 r38 r39 r40 r41 r42 (u - 1)))
def rX1_takeWorkBack_39 (r34 : Nat → Int32) (r35 : Nat → Int32) (r38 : Nat → Int32) (r39 : Nat → Int32) (r40 : Nat → Int32) (r41 : Nat → Int32) (r42 : Nat → Int32) (u : Nat) : Nat → Int32 := (if (nI u) ≤ 0 then r39 else (rX6_readFrom_35_39 r35 r38 r39 r40 r41 r42 (u - 1)))
def rX1_takeWorkBack_40 (r34 : Nat → Int32) (r35 : Nat → Int32) (r38 : Nat → Int32) (r39 : Nat → Int32) (r40 : Nat → Int32) (r41 : Nat → Int32) (r42 : Nat → Int32) (u : Nat) : Nat → Int32 := (if (nI u) ≤ 0 then r40 else (rX6_readFrom_35_40 r35 r38 r39 r40 r41 r42 (u - 1)))
def rX1_takeWorkBack_41 (r34 : Nat → Int32) (r35 : Nat → Int32) (r38 : Nat → Int32) (r39 : Nat → Int32) (r40 : Nat → Int32) (r41 : Nat → Int32) (r42 : Nat → Int32) (u : Nat) : Nat → Int32 := (if (nI u) ≤ 0 then r41 else (rX6_readFrom_35_41 r35 r38 r39 r40 r41 r42 (u - 1)))
def rX1_takeWorkBack_42 (r34 : Nat → Int32) (r35 : Nat → Int32) (r38 : Nat → Int32) (r39 : Nat → Int32) (r40 : Nat → Int32) (r41 : Nat → Int32) (r42 : Nat → Int32) (u : Nat) : Nat → Int32 := (if (nI u) ≤ 0 then r42 else (rX6_readFrom_35_42 r35 r38 r39 r40 r41 r42 (u - 1)))
set_option maxHeartbeats 1000000 in
theorem sp_X1_takeWorkBack {d kc ks : Nat} {h : Nat → Nat → Int32} {g : Nat → Nat → Int64} {Q : jj_Rs → jj_St → Prop} {u : Nat} (hu : h 34 0 = nI u) (hu2 : u ≤ 16) (kq : Q (.inl none) (jj_S, 782, (jj_rs h [(34, (rX1_takeWorkBack_34 (h 34) (h 35) (h 38) (h 39) (h 40) (h 41) (h 42) u)), (38, (rX1_takeWorkBack_38 (h 34) (h 35) (h 38) (h 39) (h 40) (h 41) (h 42) u)), (39, (rX1_takeWorkBack_39 (h 34) (h 35) (h 38) (h 39) (h 40) (h 41) (h 42) u)), (40, (rX1_takeWorkBack_40 (h 34) (h 35) (h 38) (h 39) (h 40) (h 41) (h 42) u)), (41, (rX1_takeWorkBack_41 (h 34) (h 35) (h 38) (h 39) (h 40) (h 41) (h 42) u)), (42, (rX1_takeWorkBack_42 (h 34) (h 35) (h 38) (h 39) (h 40) (h 41) (h 42) u))]), g)) : jj_R mX1_takeWorkBack (d + 1) kc ks (jj_S, 782, h, g) 0 [(0, .ref 34), (1, .ref 38)] [] Q := by
  refine rr_aload_n 0 rfl rfl dX1_takeWorkBack_0 ?_
  refine rr_getI dX1_takeWorkBack_1 fX1_23 lo_34 sh_34 rfl ?_
  rw [hu]
  refine rr_if_le dX1_takeWorkBack_4 (fun c1 => ?_) (fun c1 => ?_)
  · skip
    refine rr_return dX1_takeWorkBack_29 rfl ?_
    refine jj_Qh (jj_addr (B := h) (o := 34) (r := (h 34)) rfl) ?_
    refine jj_Qh (jj_rs_add (B := h) (L := [(34, (h 34))]) (L2 := [(34, (h 34)), (38, (h 38))]) (o := 38) (r := (h 38)) rfl rfl) ?_
    refine jj_Qh (jj_rs_add (B := h) (L := [(34, (h 34)), (38, (h 38))]) (L2 := [(34, (h 34)), (38, (h 38)), (39, (h 39))]) (o := 39) (r := (h 39)) rfl rfl) ?_
    refine jj_Qh (jj_rs_add (B := h) (L := [(34, (h 34)), (38, (h 38)), (39, (h 39))]) (L2 := [(34, (h 34)), (38, (h 38)), (39, (h 39)), (40, (h 40))]) (o := 40) (r := (h 40)) rfl rfl) ?_
    refine jj_Qh (jj_rs_add (B := h) (L := [(34, (h 34)), (38, (h 38)), (39, (h 39)), (40, (h 40))]) (L2 := [(34, (h 34)), (38, (h 38)), (39, (h 39)), (40, (h 40)), (41, (h 41))]) (o := 41) (r := (h 41)) rfl rfl) ?_
    refine jj_Qh (jj_rs_add (B := h) (L := [(34, (h 34)), (38, (h 38)), (39, (h 39)), (40, (h 40)), (41, (h 41))]) (L2 := [(34, (h 34)), (38, (h 38)), (39, (h 39)), (40, (h 40)), (41, (h 41)), (42, (h 42))]) (o := 42) (r := (h 42)) rfl rfl) ?_
    simpa only [rX1_takeWorkBack_34, rX1_takeWorkBack_38, rX1_takeWorkBack_39, rX1_takeWorkBack_40, rX1_takeWorkBack_41, rX1_takeWorkBack_42, if_pos c1] using kq
  · skip
    have hu1 : 0 < u := jj_np (by omega) (by assumption)
    refine rr_aload_n 0 rfl rfl dX1_takeWorkBack_7 ?_
    refine rr_dup rfl dX1_takeWorkBack_8 ?_
    refine rr_getI dX1_takeWorkBack_9 fX1_23 lo_34 sh_34 rfl ?_
    rw [hu]
    refine rr_iconst 1 rfl dX1_takeWorkBack_12 ?_
    refine rr_isub dX1_takeWorkBack_13 ?_
    rw [show ((nI u) - 1 : Int32) = (nI (u - 1)) from jj_nsub (a := u) (b := 1) (by omega)]
    refine rr_putI dX1_takeWorkBack_14 fX1_23 ni1_0 lo_34 sh_34 rfl ?_
    rw [jj_rs_set0 (B := h) (o := 34) (r := (h 34)) rfl]
    refine rr_aload_n 1 rfl rfl dX1_takeWorkBack_17 ?_
    refine rr_aload_n 0 rfl rfl dX1_takeWorkBack_18 ?_
    refine rr_getR dX1_takeWorkBack_19 fX1_11 lo_34 sh_34 rfl ?_
    refine rr_aload_n 0 rfl rfl dX1_takeWorkBack_22 ?_
    refine rr_getI dX1_takeWorkBack_23 fX1_23 lo_34 sh_34 rfl ?_
    rw [show (jj_rs h [(34, (upd (h 34) (0) (nI (u - 1))))]) 34 = (upd (h 34) (0) (nI (u - 1))) from rfl]
    rw [show (upd (h 34) (0) (nI (u - 1))) 0 = (nI (u - 1)) from rfl]
    refine rr_callV (As := [.ref 35, .int (nI (u - 1))]) (rest := []) (kc2 := 0) (ks2 := 0) dX1_takeWorkBack_26 okX6_readFrom lX1_34 lo_38 sh_38 rfl rfl (Nat.le_of_ble_eq_true rfl) (Nat.le_of_ble_eq_true rfl) rfl (by omega) (by simp [jj_rk]) (by simp [jj_rk]) ?_
    refine sp_X6_readFrom_35 (q := (u - 1)) rfl (by first | omega | exact jj_nl (by omega) (by decide) (by assumption)) ?_
    show jj_R _ _ kc ks (jj_S, 782, (jj_rs (jj_rs h [(34, (upd (h 34) (0) (nI (u - 1))))]) [(38, (rX6_readFrom_35_38 (h 35) (h 38) (h 39) (h 40) (h 41) (h 42) (u - 1))), (39, (rX6_readFrom_35_39 (h 35) (h 38) (h 39) (h 40) (h 41) (h 42) (u - 1))), (40, (rX6_readFrom_35_40 (h 35) (h 38) (h 39) (h 40) (h 41) (h 42) (u - 1))), (41, (rX6_readFrom_35_41 (h 35) (h 38) (h 39) (h 40) (h 41) (h 42) (u - 1))), (42, (rX6_readFrom_35_42 (h 35) (h 38) (h 39) (h 40) (h 41) (h 42) (u - 1)))]), g) 29 [(0, .ref 34), (1, .ref 38)] [] Q
    rw [jj_rs_rs (B := h) (L := [(34, (upd (h 34) (0) (nI (u - 1))))]) (M := [(38, (rX6_readFrom_35_38 (h 35) (h 38) (h 39) (h 40) (h 41) (h 42) (u - 1))), (39, (rX6_readFrom_35_39 (h 35) (h 38) (h 39) (h 40) (h 41) (h 42) (u - 1))), (40, (rX6_readFrom_35_40 (h 35) (h 38) (h 39) (h 40) (h 41) (h 42) (u - 1))), (41, (rX6_readFrom_35_41 (h 35) (h 38) (h 39) (h 40) (h 41) (h 42) (u - 1))), (42, (rX6_readFrom_35_42 (h 35) (h 38) (h 39) (h 40) (h 41) (h 42) (u - 1)))]) (L2 := [(34, (upd (h 34) (0) (nI (u - 1)))), (38, (rX6_readFrom_35_38 (h 35) (h 38) (h 39) (h 40) (h 41) (h 42) (u - 1))), (39, (rX6_readFrom_35_39 (h 35) (h 38) (h 39) (h 40) (h 41) (h 42) (u - 1))), (40, (rX6_readFrom_35_40 (h 35) (h 38) (h 39) (h 40) (h 41) (h 42) (u - 1))), (41, (rX6_readFrom_35_41 (h 35) (h 38) (h 39) (h 40) (h 41) (h 42) (u - 1))), (42, (rX6_readFrom_35_42 (h 35) (h 38) (h 39) (h 40) (h 41) (h 42) (u - 1)))]) rfl]
    refine rr_return dX1_takeWorkBack_29 rfl ?_
    simpa only [rX1_takeWorkBack_34, rX1_takeWorkBack_38, rX1_takeWorkBack_39, rX1_takeWorkBack_40, rX1_takeWorkBack_41, rX1_takeWorkBack_42, if_neg c1] using kq
def rX1_keepImage_34 (r34 : Nat → Int32) (r35 : Nat → Int32) (r36 : Nat → Int32) (r37 : Nat → Int32) (r38 : Nat → Int32) (r39 : Nat → Int32) (r40 : Nat → Int32) (r41 : Nat → Int32) (r42 : Nat → Int32) (u : Nat) (t : Nat) : Nat → Int32 := (if 3 ≤ (nI t) then r34 else (upd r34 (1) (nI (t + 1))))
def rX1_keepImage_36 (r34 : Nat → Int32) (r35 : Nat → Int32) (r36 : Nat → Int32) (r37 : Nat → Int32) (r38 : Nat → Int32) (r39 : Nat → Int32) (r40 : Nat → Int32) (r41 : Nat → Int32) (r42 : Nat → Int32) (u : Nat) (t : Nat) : Nat → Int32 := (if 3 ≤ (nI t) then r36 else (rX6_writeTo_36_36 (va_cpy r35 r36 (0 : Int32).toNatClampNeg ((nI ((t * 17) * 35)) : Int32).toNatClampNeg (560 : Int32).toNatClampNeg) r38 r39 r40 r41 r42 ((t * 17) + 16)))
def rX1_keepImage_37 (r34 : Nat → Int32) (r35 : Nat → Int32) (r36 : Nat → Int32) (r37 : Nat → Int32) (r38 : Nat → Int32) (r39 : Nat → Int32) (r40 : Nat → Int32) (r41 : Nat → Int32) (r42 : Nat → Int32) (u : Nat) (t : Nat) : Nat → Int32 := (if 3 ≤ (nI t) then r37 else (upd r37 (((nI t) : Int32).toNatClampNeg) (nI u)))
set_option maxHeartbeats 1000000 in
theorem sp_X1_keepImage {d kc ks : Nat} {h : Nat → Nat → Int32} {g : Nat → Nat → Int64} {Q : jj_Rs → jj_St → Prop} {u : Nat} {t : Nat} (hu : h 34 0 = nI u) (hu2 : u ≤ 16) (ht : h 34 1 = nI t) (ht2 : t ≤ 3) (kq : Q (.inl none) (jj_S, 782, (jj_rs h [(34, (rX1_keepImage_34 (h 34) (h 35) (h 36) (h 37) (h 38) (h 39) (h 40) (h 41) (h 42) u t)), (36, (rX1_keepImage_36 (h 34) (h 35) (h 36) (h 37) (h 38) (h 39) (h 40) (h 41) (h 42) u t)), (37, (rX1_keepImage_37 (h 34) (h 35) (h 36) (h 37) (h 38) (h 39) (h 40) (h 41) (h 42) u t))]), g)) : jj_R mX1_keepImage (d + 1) kc ks (jj_S, 782, h, g) 0 [(0, .ref 34), (1, .ref 38)] [] Q := by
  refine rr_aload_n 0 rfl rfl dX1_keepImage_0 ?_
  refine rr_getI dX1_keepImage_1 fX1_27 lo_34 sh_34 rfl ?_
  rw [ht]
  refine rr_iconst 3 rfl dX1_keepImage_4 ?_
  refine rr_icmp_ge dX1_keepImage_5 (fun c1 => ?_) (fun c1 => ?_)
  · skip
    refine rr_return dX1_keepImage_70 rfl ?_
    refine jj_Qh (jj_addr (B := h) (o := 34) (r := (h 34)) rfl) ?_
    refine jj_Qh (jj_rs_add (B := h) (L := [(34, (h 34))]) (L2 := [(34, (h 34)), (36, (h 36))]) (o := 36) (r := (h 36)) rfl rfl) ?_
    refine jj_Qh (jj_rs_add (B := h) (L := [(34, (h 34)), (36, (h 36))]) (L2 := [(34, (h 34)), (36, (h 36)), (37, (h 37))]) (o := 37) (r := (h 37)) rfl rfl) ?_
    simpa only [rX1_keepImage_34, rX1_keepImage_36, rX1_keepImage_37, if_pos c1] using kq
  · skip
    have ht1 : t < 3 := jj_nl (by omega) (by decide) (by assumption)
    refine rr_aload_n 0 rfl rfl dX1_keepImage_8 ?_
    refine rr_getI dX1_keepImage_9 fX1_27 lo_34 sh_34 rfl ?_
    rw [ht]
    refine rr_bipush 17 rfl dX1_keepImage_12 ?_
    refine rr_imul dX1_keepImage_14 ?_
    rw [show ((nI t) * 17 : Int32) = (nI (t * 17)) from jj_nm (t) (17)]
    refine rr_istore_n [(0, .ref 34), (1, .ref 38), (2, .int (nI (t * 17)))] dX1_keepImage_15 rfl (by decide) rfl ?_
    refine rr_aload_n 0 rfl rfl dX1_keepImage_16 ?_
    refine rr_getR dX1_keepImage_17 fX1_11 lo_34 sh_34 rfl ?_
    refine rr_iconst 0 rfl dX1_keepImage_20 ?_
    refine rr_aload_n 0 rfl rfl dX1_keepImage_21 ?_
    refine rr_getR dX1_keepImage_22 fX1_17 lo_34 sh_34 rfl ?_
    refine rr_iload_n 2 rfl rfl dX1_keepImage_25 ?_
    refine rr_bipush 35 rfl dX1_keepImage_26 ?_
    refine rr_imul dX1_keepImage_28 ?_
    rw [show ((nI (t * 17)) * 35 : Int32) = (nI ((t * 17) * 35)) from jj_nm ((t * 17)) (35)]
    refine rr_sipush 560 rfl dX1_keepImage_29 ?_
    refine rr_copy (st := []) dX1_keepImage_32 lX1_37 (Nat.le_of_ble_eq_true rfl) lo_35 lo_36 sh_35 sh_36 (by first | decide | exact nI_pos (by omega) | (rw [nI_clamp (show t * 17 * 35 < 2 ^ 31 by omega), show (560 : Int32).toNatClampNeg = 560 from rfl]; omega) | omega) (by first | decide | exact nI_pos (by omega) | (rw [nI_clamp (show t * 17 * 35 < 2 ^ 31 by omega), show (560 : Int32).toNatClampNeg = 560 from rfl]; omega) | omega) (by first | decide | exact nI_pos (by omega) | (rw [nI_clamp (show t * 17 * 35 < 2 ^ 31 by omega), show (560 : Int32).toNatClampNeg = 560 from rfl]; omega) | omega) (by first | decide | exact nI_pos (by omega) | (rw [nI_clamp (show t * 17 * 35 < 2 ^ 31 by omega), show (560 : Int32).toNatClampNeg = 560 from rfl]; omega) | omega) (by first | decide | exact nI_pos (by omega) | (rw [nI_clamp (show t * 17 * 35 < 2 ^ 31 by omega), show (560 : Int32).toNatClampNeg = 560 from rfl]; omega) | omega) ?_
    rw [← jj_rs_nil (B := h), jj_rs_cp (B := h) (L := []) (L2 := [(36, (va_cpy (h 35) (h 36) (0 : Int32).toNatClampNeg ((nI ((t * 17) * 35)) : Int32).toNatClampNeg (560 : Int32).toNatClampNeg))]) (f := (h 35)) (r := (h 36)) rfl rfl rfl]
    refine rr_aload_n 1 rfl rfl dX1_keepImage_35 ?_
    refine rr_aload_n 0 rfl rfl dX1_keepImage_36 ?_
    refine rr_getR dX1_keepImage_37 fX1_17 lo_34 sh_34 rfl ?_
    refine rr_iload_n 2 rfl rfl dX1_keepImage_40 ?_
    refine rr_bipush 16 rfl dX1_keepImage_41 ?_
    refine rr_iadd dX1_keepImage_43 ?_
    rw [show ((nI (t * 17)) + 16 : Int32) = (nI ((t * 17) + 16)) from nI_add ((t * 17)) (16)]
    refine rr_callV (As := [.ref 36, .int (nI ((t * 17) + 16))]) (rest := []) (kc2 := 0) (ks2 := 0) dX1_keepImage_44 okX6_writeTo lX1_30 lo_38 sh_38 rfl rfl (Nat.le_of_ble_eq_true rfl) (Nat.le_of_ble_eq_true rfl) rfl (by omega) (by simp [jj_rk]) (by simp [jj_rk]) ?_
    refine sp_X6_writeTo_36 (q := ((t * 17) + 16)) rfl (by first | omega | exact jj_nl (by omega) (by decide) (by assumption)) ?_
    show jj_R _ _ kc ks (jj_S, 782, (jj_rs (jj_rs h [(36, (va_cpy (h 35) (h 36) (0 : Int32).toNatClampNeg ((nI ((t * 17) * 35)) : Int32).toNatClampNeg (560 : Int32).toNatClampNeg))]) [(36, (rX6_writeTo_36_36 (va_cpy (h 35) (h 36) (0 : Int32).toNatClampNeg ((nI ((t * 17) * 35)) : Int32).toNatClampNeg (560 : Int32).toNatClampNeg) (h 38) (h 39) (h 40) (h 41) (h 42) ((t * 17) + 16)))]), g) 47 [(0, .ref 34), (1, .ref 38), (2, .int (nI (t * 17)))] [] Q
    rw [jj_rs_rs (B := h) (L := [(36, (va_cpy (h 35) (h 36) (0 : Int32).toNatClampNeg ((nI ((t * 17) * 35)) : Int32).toNatClampNeg (560 : Int32).toNatClampNeg))]) (M := [(36, (rX6_writeTo_36_36 (va_cpy (h 35) (h 36) (0 : Int32).toNatClampNeg ((nI ((t * 17) * 35)) : Int32).toNatClampNeg (560 : Int32).toNatClampNeg) (h 38) (h 39) (h 40) (h 41) (h 42) ((t * 17) + 16)))]) (L2 := [(36, (rX6_writeTo_36_36 (va_cpy (h 35) (h 36) (0 : Int32).toNatClampNeg ((nI ((t * 17) * 35)) : Int32).toNatClampNeg (560 : Int32).toNatClampNeg) (h 38) (h 39) (h 40) (h 41) (h 42) ((t * 17) + 16)))]) rfl]
    refine rr_aload_n 0 rfl rfl dX1_keepImage_47 ?_
    refine rr_getR dX1_keepImage_48 fX1_20 lo_34 sh_34 rfl ?_
    refine rr_aload_n 0 rfl rfl dX1_keepImage_51 ?_
    refine rr_getI dX1_keepImage_52 fX1_27 lo_34 sh_34 rfl ?_
    rw [show (jj_rs h [(36, (rX6_writeTo_36_36 (va_cpy (h 35) (h 36) (0 : Int32).toNatClampNeg ((nI ((t * 17) * 35)) : Int32).toNatClampNeg (560 : Int32).toNatClampNeg) (h 38) (h 39) (h 40) (h 41) (h 42) ((t * 17) + 16)))]) 34 = h 34 from rfl]
    rw [ht]
    refine rr_aload_n 0 rfl rfl dX1_keepImage_55 ?_
    refine rr_getI dX1_keepImage_56 fX1_23 lo_34 sh_34 rfl ?_
    rw [show (jj_rs h [(36, (rX6_writeTo_36_36 (va_cpy (h 35) (h 36) (0 : Int32).toNatClampNeg ((nI ((t * 17) * 35)) : Int32).toNatClampNeg (560 : Int32).toNatClampNeg) (h 38) (h 39) (h 40) (h 41) (h 42) ((t * 17) + 16)))]) 34 = h 34 from rfl]
    rw [hu]
    refine rr_iastore dX1_keepImage_59 lo_37 sh_37 (by first | assumption | exact jj_pers hP hn (by assumption) | exact vp_in_nI (by omega) (by decide) | decide | omega) ?_
    rw [jj_rs_set (B := h) (L := [(36, (rX6_writeTo_36_36 (va_cpy (h 35) (h 36) (0 : Int32).toNatClampNeg ((nI ((t * 17) * 35)) : Int32).toNatClampNeg (560 : Int32).toNatClampNeg) (h 38) (h 39) (h 40) (h 41) (h 42) ((t * 17) + 16)))]) (L2 := [(36, (rX6_writeTo_36_36 (va_cpy (h 35) (h 36) (0 : Int32).toNatClampNeg ((nI ((t * 17) * 35)) : Int32).toNatClampNeg (560 : Int32).toNatClampNeg) (h 38) (h 39) (h 40) (h 41) (h 42) ((t * 17) + 16))), (37, (upd (h 37) (((nI t) : Int32).toNatClampNeg) (nI u)))]) (r := (h 37)) rfl rfl]
    refine rr_aload_n 0 rfl rfl dX1_keepImage_60 ?_
    refine rr_dup rfl dX1_keepImage_61 ?_
    refine rr_getI dX1_keepImage_62 fX1_27 lo_34 sh_34 rfl ?_
    rw [show (jj_rs h [(36, (rX6_writeTo_36_36 (va_cpy (h 35) (h 36) (0 : Int32).toNatClampNeg ((nI ((t * 17) * 35)) : Int32).toNatClampNeg (560 : Int32).toNatClampNeg) (h 38) (h 39) (h 40) (h 41) (h 42) ((t * 17) + 16))), (37, (upd (h 37) (((nI t) : Int32).toNatClampNeg) (nI u)))]) 34 = h 34 from rfl]
    rw [ht]
    refine rr_iconst 1 rfl dX1_keepImage_65 ?_
    refine rr_iadd dX1_keepImage_66 ?_
    rw [show ((nI t) + 1 : Int32) = (nI (t + 1)) from nI_add (t) (1)]
    refine rr_putI dX1_keepImage_67 fX1_27 ni1_1 lo_34 sh_34 rfl ?_
    rw [jj_rs_set (B := h) (L := [(36, (rX6_writeTo_36_36 (va_cpy (h 35) (h 36) (0 : Int32).toNatClampNeg ((nI ((t * 17) * 35)) : Int32).toNatClampNeg (560 : Int32).toNatClampNeg) (h 38) (h 39) (h 40) (h 41) (h 42) ((t * 17) + 16))), (37, (upd (h 37) (((nI t) : Int32).toNatClampNeg) (nI u)))]) (L2 := [(34, (upd (h 34) (1) (nI (t + 1)))), (36, (rX6_writeTo_36_36 (va_cpy (h 35) (h 36) (0 : Int32).toNatClampNeg ((nI ((t * 17) * 35)) : Int32).toNatClampNeg (560 : Int32).toNatClampNeg) (h 38) (h 39) (h 40) (h 41) (h 42) ((t * 17) + 16))), (37, (upd (h 37) (((nI t) : Int32).toNatClampNeg) (nI u)))]) (r := (h 34)) rfl rfl]
    refine rr_return dX1_keepImage_70 rfl ?_
    simpa only [rX1_keepImage_34, rX1_keepImage_36, rX1_keepImage_37, if_neg c1] using kq
def rX1_takeImageBack_34 (r34 : Nat → Int32) (r35 : Nat → Int32) (r36 : Nat → Int32) (r37 : Nat → Int32) (r38 : Nat → Int32) (r39 : Nat → Int32) (r40 : Nat → Int32) (r41 : Nat → Int32) (r42 : Nat → Int32) (t : Nat) : Nat → Int32 := (if (nI t) ≤ 0 then r34 else (upd (upd r34 (1) (nI (t - 1))) (0) (r37 ((nI (t - 1)) : Int32).toNatClampNeg)))
def rX1_takeImageBack_35 (r34 : Nat → Int32) (r35 : Nat → Int32) (r36 : Nat → Int32) (r37 : Nat → Int32) (r38 : Nat → Int32) (r39 : Nat → Int32) (r40 : Nat → Int32) (r41 : Nat → Int32) (r42 : Nat → Int32) (t : Nat) : Nat → Int32 := (if (nI t) ≤ 0 then r35 else (va_cpy r36 r35 ((nI (((t - 1) * 17) * 35)) : Int32).toNatClampNeg (0 : Int32).toNatClampNeg (560 : Int32).toNatClampNeg))
def rX1_takeImageBack_38 (r34 : Nat → Int32) (r35 : Nat → Int32) (r36 : Nat → Int32) (r37 : Nat → Int32) (r38 : Nat → Int32) (r39 : Nat → Int32) (r40 : Nat → Int32) (r41 : Nat → Int32) (r42 : Nat → Int32) (t : Nat) : Nat → Int32 := (if (nI t) ≤ 0 then r38 else (rX6_readFrom_36_38 r36 r38 r39 r40 r41 r42 (((t - 1) * 17) + 16)))
def rX1_takeImageBack_39 (r34 : Nat → Int32) (r35 : Nat → Int32) (r36 : Nat → Int32) (r37 : Nat → Int32) (r38 : Nat → Int32) (r39 : Nat → Int32) (r40 : Nat → Int32) (r41 : Nat → Int32) (r42 : Nat → Int32) (t : Nat) : Nat → Int32 := (if (nI t) ≤ 0 then r39 else (rX6_readFrom_36_39 r36 r38 r39 r40 r41 r42 (((t - 1) * 17) + 16)))
def rX1_takeImageBack_40 (r34 : Nat → Int32) (r35 : Nat → Int32) (r36 : Nat → Int32) (r37 : Nat → Int32) (r38 : Nat → Int32) (r39 : Nat → Int32) (r40 : Nat → Int32) (r41 : Nat → Int32) (r42 : Nat → Int32) (t : Nat) : Nat → Int32 := (if (nI t) ≤ 0 then r40 else (rX6_readFrom_36_40 r36 r38 r39 r40 r41 r42 (((t - 1) * 17) + 16)))
def rX1_takeImageBack_41 (r34 : Nat → Int32) (r35 : Nat → Int32) (r36 : Nat → Int32) (r37 : Nat → Int32) (r38 : Nat → Int32) (r39 : Nat → Int32) (r40 : Nat → Int32) (r41 : Nat → Int32) (r42 : Nat → Int32) (t : Nat) : Nat → Int32 := (if (nI t) ≤ 0 then r41 else (rX6_readFrom_36_41 r36 r38 r39 r40 r41 r42 (((t - 1) * 17) + 16)))
def rX1_takeImageBack_42 (r34 : Nat → Int32) (r35 : Nat → Int32) (r36 : Nat → Int32) (r37 : Nat → Int32) (r38 : Nat → Int32) (r39 : Nat → Int32) (r40 : Nat → Int32) (r41 : Nat → Int32) (r42 : Nat → Int32) (t : Nat) : Nat → Int32 := (if (nI t) ≤ 0 then r42 else (rX6_readFrom_36_42 r36 r38 r39 r40 r41 r42 (((t - 1) * 17) + 16)))
set_option maxHeartbeats 1000000 in
theorem sp_X1_takeImageBack {d kc ks : Nat} {h : Nat → Nat → Int32} {g : Nat → Nat → Int64} {Q : jj_Rs → jj_St → Prop} {u : Nat} {t : Nat} (hu : h 34 0 = nI u) (hu2 : u ≤ 16) (ht : h 34 1 = nI t) (ht2 : t ≤ 3) (kq : Q (.inl none) (jj_S, 782, (jj_rs h [(34, (rX1_takeImageBack_34 (h 34) (h 35) (h 36) (h 37) (h 38) (h 39) (h 40) (h 41) (h 42) t)), (35, (rX1_takeImageBack_35 (h 34) (h 35) (h 36) (h 37) (h 38) (h 39) (h 40) (h 41) (h 42) t)), (38, (rX1_takeImageBack_38 (h 34) (h 35) (h 36) (h 37) (h 38) (h 39) (h 40) (h 41) (h 42) t)), (39, (rX1_takeImageBack_39 (h 34) (h 35) (h 36) (h 37) (h 38) (h 39) (h 40) (h 41) (h 42) t)), (40, (rX1_takeImageBack_40 (h 34) (h 35) (h 36) (h 37) (h 38) (h 39) (h 40) (h 41) (h 42) t)), (41, (rX1_takeImageBack_41 (h 34) (h 35) (h 36) (h 37) (h 38) (h 39) (h 40) (h 41) (h 42) t)), (42, (rX1_takeImageBack_42 (h 34) (h 35) (h 36) (h 37) (h 38) (h 39) (h 40) (h 41) (h 42) t))]), g)) : jj_R mX1_takeImageBack (d + 1) kc ks (jj_S, 782, h, g) 0 [(0, .ref 34), (1, .ref 38)] [] Q := by
  refine rr_aload_n 0 rfl rfl dX1_takeImageBack_0 ?_
  refine rr_getI dX1_takeImageBack_1 fX1_27 lo_34 sh_34 rfl ?_
  rw [ht]
  refine rr_if_le dX1_takeImageBack_4 (fun c1 => ?_) (fun c1 => ?_)
  · skip
    refine rr_return dX1_takeImageBack_69 rfl ?_
    refine jj_Qh (jj_addr (B := h) (o := 34) (r := (h 34)) rfl) ?_
    refine jj_Qh (jj_rs_add (B := h) (L := [(34, (h 34))]) (L2 := [(34, (h 34)), (35, (h 35))]) (o := 35) (r := (h 35)) rfl rfl) ?_
    refine jj_Qh (jj_rs_add (B := h) (L := [(34, (h 34)), (35, (h 35))]) (L2 := [(34, (h 34)), (35, (h 35)), (38, (h 38))]) (o := 38) (r := (h 38)) rfl rfl) ?_
    refine jj_Qh (jj_rs_add (B := h) (L := [(34, (h 34)), (35, (h 35)), (38, (h 38))]) (L2 := [(34, (h 34)), (35, (h 35)), (38, (h 38)), (39, (h 39))]) (o := 39) (r := (h 39)) rfl rfl) ?_
    refine jj_Qh (jj_rs_add (B := h) (L := [(34, (h 34)), (35, (h 35)), (38, (h 38)), (39, (h 39))]) (L2 := [(34, (h 34)), (35, (h 35)), (38, (h 38)), (39, (h 39)), (40, (h 40))]) (o := 40) (r := (h 40)) rfl rfl) ?_
    refine jj_Qh (jj_rs_add (B := h) (L := [(34, (h 34)), (35, (h 35)), (38, (h 38)), (39, (h 39)), (40, (h 40))]) (L2 := [(34, (h 34)), (35, (h 35)), (38, (h 38)), (39, (h 39)), (40, (h 40)), (41, (h 41))]) (o := 41) (r := (h 41)) rfl rfl) ?_
    refine jj_Qh (jj_rs_add (B := h) (L := [(34, (h 34)), (35, (h 35)), (38, (h 38)), (39, (h 39)), (40, (h 40)), (41, (h 41))]) (L2 := [(34, (h 34)), (35, (h 35)), (38, (h 38)), (39, (h 39)), (40, (h 40)), (41, (h 41)), (42, (h 42))]) (o := 42) (r := (h 42)) rfl rfl) ?_
    simpa only [rX1_takeImageBack_34, rX1_takeImageBack_35, rX1_takeImageBack_38, rX1_takeImageBack_39, rX1_takeImageBack_40, rX1_takeImageBack_41, rX1_takeImageBack_42, if_pos c1] using kq
  · skip
    have ht1 : 0 < t := jj_np (by omega) (by assumption)
    refine rr_aload_n 0 rfl rfl dX1_takeImageBack_7 ?_
    refine rr_dup rfl dX1_takeImageBack_8 ?_
    refine rr_getI dX1_takeImageBack_9 fX1_27 lo_34 sh_34 rfl ?_
    rw [ht]
    refine rr_iconst 1 rfl dX1_takeImageBack_12 ?_
    refine rr_isub dX1_takeImageBack_13 ?_
    rw [show ((nI t) - 1 : Int32) = (nI (t - 1)) from jj_nsub (a := t) (b := 1) (by omega)]
    refine rr_putI dX1_takeImageBack_14 fX1_27 ni1_1 lo_34 sh_34 rfl ?_
    rw [jj_rs_set0 (B := h) (o := 34) (r := (h 34)) rfl]
    refine rr_aload_n 0 rfl rfl dX1_takeImageBack_17 ?_
    refine rr_getI dX1_takeImageBack_18 fX1_27 lo_34 sh_34 rfl ?_
    rw [show (jj_rs h [(34, (upd (h 34) (1) (nI (t - 1))))]) 34 = (upd (h 34) (1) (nI (t - 1))) from rfl]
    rw [show (upd (h 34) (1) (nI (t - 1))) 1 = (nI (t - 1)) from rfl]
    refine rr_bipush 17 rfl dX1_takeImageBack_21 ?_
    refine rr_imul dX1_takeImageBack_23 ?_
    rw [show ((nI (t - 1)) * 17 : Int32) = (nI ((t - 1) * 17)) from jj_nm ((t - 1)) (17)]
    refine rr_istore_n [(0, .ref 34), (1, .ref 38), (2, .int (nI ((t - 1) * 17)))] dX1_takeImageBack_24 rfl (by decide) rfl ?_
    refine rr_aload_n 0 rfl rfl dX1_takeImageBack_25 ?_
    refine rr_getR dX1_takeImageBack_26 fX1_17 lo_34 sh_34 rfl ?_
    refine rr_iload_n 2 rfl rfl dX1_takeImageBack_29 ?_
    refine rr_bipush 35 rfl dX1_takeImageBack_30 ?_
    refine rr_imul dX1_takeImageBack_32 ?_
    rw [show ((nI ((t - 1) * 17)) * 35 : Int32) = (nI (((t - 1) * 17) * 35)) from jj_nm (((t - 1) * 17)) (35)]
    refine rr_aload_n 0 rfl rfl dX1_takeImageBack_33 ?_
    refine rr_getR dX1_takeImageBack_34 fX1_11 lo_34 sh_34 rfl ?_
    refine rr_iconst 0 rfl dX1_takeImageBack_37 ?_
    refine rr_sipush 560 rfl dX1_takeImageBack_38 ?_
    refine rr_copy (st := []) dX1_takeImageBack_41 lX1_37 (Nat.le_of_ble_eq_true rfl) lo_36 lo_35 sh_36 sh_35 (by first | decide | exact nI_pos (by omega) | (rw [nI_clamp (show (t - 1) * 17 * 35 < 2 ^ 31 by omega), show (560 : Int32).toNatClampNeg = 560 from rfl]; omega) | omega) (by first | decide | exact nI_pos (by omega) | (rw [nI_clamp (show (t - 1) * 17 * 35 < 2 ^ 31 by omega), show (560 : Int32).toNatClampNeg = 560 from rfl]; omega) | omega) (by first | decide | exact nI_pos (by omega) | (rw [nI_clamp (show (t - 1) * 17 * 35 < 2 ^ 31 by omega), show (560 : Int32).toNatClampNeg = 560 from rfl]; omega) | omega) (by first | decide | exact nI_pos (by omega) | (rw [nI_clamp (show (t - 1) * 17 * 35 < 2 ^ 31 by omega), show (560 : Int32).toNatClampNeg = 560 from rfl]; omega) | omega) (by first | decide | exact nI_pos (by omega) | (rw [nI_clamp (show (t - 1) * 17 * 35 < 2 ^ 31 by omega), show (560 : Int32).toNatClampNeg = 560 from rfl]; omega) | omega) ?_
    rw [jj_rs_cp (B := h) (L := [(34, (upd (h 34) (1) (nI (t - 1))))]) (L2 := [(34, (upd (h 34) (1) (nI (t - 1)))), (35, (va_cpy (h 36) (h 35) ((nI (((t - 1) * 17) * 35)) : Int32).toNatClampNeg (0 : Int32).toNatClampNeg (560 : Int32).toNatClampNeg))]) (f := (h 36)) (r := (h 35)) rfl rfl rfl]
    refine rr_aload_n 1 rfl rfl dX1_takeImageBack_44 ?_
    refine rr_aload_n 0 rfl rfl dX1_takeImageBack_45 ?_
    refine rr_getR dX1_takeImageBack_46 fX1_17 lo_34 sh_34 rfl ?_
    refine rr_iload_n 2 rfl rfl dX1_takeImageBack_49 ?_
    refine rr_bipush 16 rfl dX1_takeImageBack_50 ?_
    refine rr_iadd dX1_takeImageBack_52 ?_
    rw [show ((nI ((t - 1) * 17)) + 16 : Int32) = (nI (((t - 1) * 17) + 16)) from nI_add (((t - 1) * 17)) (16)]
    refine rr_callV (As := [.ref 36, .int (nI (((t - 1) * 17) + 16))]) (rest := []) (kc2 := 0) (ks2 := 0) dX1_takeImageBack_53 okX6_readFrom lX1_34 lo_38 sh_38 rfl rfl (Nat.le_of_ble_eq_true rfl) (Nat.le_of_ble_eq_true rfl) rfl (by omega) (by simp [jj_rk]) (by simp [jj_rk]) ?_
    refine sp_X6_readFrom_36 (q := (((t - 1) * 17) + 16)) rfl (by first | omega | exact jj_nl (by omega) (by decide) (by assumption)) ?_
    show jj_R _ _ kc ks (jj_S, 782, (jj_rs (jj_rs h [(34, (upd (h 34) (1) (nI (t - 1)))), (35, (va_cpy (h 36) (h 35) ((nI (((t - 1) * 17) * 35)) : Int32).toNatClampNeg (0 : Int32).toNatClampNeg (560 : Int32).toNatClampNeg))]) [(38, (rX6_readFrom_36_38 (h 36) (h 38) (h 39) (h 40) (h 41) (h 42) (((t - 1) * 17) + 16))), (39, (rX6_readFrom_36_39 (h 36) (h 38) (h 39) (h 40) (h 41) (h 42) (((t - 1) * 17) + 16))), (40, (rX6_readFrom_36_40 (h 36) (h 38) (h 39) (h 40) (h 41) (h 42) (((t - 1) * 17) + 16))), (41, (rX6_readFrom_36_41 (h 36) (h 38) (h 39) (h 40) (h 41) (h 42) (((t - 1) * 17) + 16))), (42, (rX6_readFrom_36_42 (h 36) (h 38) (h 39) (h 40) (h 41) (h 42) (((t - 1) * 17) + 16)))]), g) 56 [(0, .ref 34), (1, .ref 38), (2, .int (nI ((t - 1) * 17)))] [] Q
    rw [jj_rs_rs (B := h) (L := [(34, (upd (h 34) (1) (nI (t - 1)))), (35, (va_cpy (h 36) (h 35) ((nI (((t - 1) * 17) * 35)) : Int32).toNatClampNeg (0 : Int32).toNatClampNeg (560 : Int32).toNatClampNeg))]) (M := [(38, (rX6_readFrom_36_38 (h 36) (h 38) (h 39) (h 40) (h 41) (h 42) (((t - 1) * 17) + 16))), (39, (rX6_readFrom_36_39 (h 36) (h 38) (h 39) (h 40) (h 41) (h 42) (((t - 1) * 17) + 16))), (40, (rX6_readFrom_36_40 (h 36) (h 38) (h 39) (h 40) (h 41) (h 42) (((t - 1) * 17) + 16))), (41, (rX6_readFrom_36_41 (h 36) (h 38) (h 39) (h 40) (h 41) (h 42) (((t - 1) * 17) + 16))), (42, (rX6_readFrom_36_42 (h 36) (h 38) (h 39) (h 40) (h 41) (h 42) (((t - 1) * 17) + 16)))]) (L2 := [(34, (upd (h 34) (1) (nI (t - 1)))), (35, (va_cpy (h 36) (h 35) ((nI (((t - 1) * 17) * 35)) : Int32).toNatClampNeg (0 : Int32).toNatClampNeg (560 : Int32).toNatClampNeg)), (38, (rX6_readFrom_36_38 (h 36) (h 38) (h 39) (h 40) (h 41) (h 42) (((t - 1) * 17) + 16))), (39, (rX6_readFrom_36_39 (h 36) (h 38) (h 39) (h 40) (h 41) (h 42) (((t - 1) * 17) + 16))), (40, (rX6_readFrom_36_40 (h 36) (h 38) (h 39) (h 40) (h 41) (h 42) (((t - 1) * 17) + 16))), (41, (rX6_readFrom_36_41 (h 36) (h 38) (h 39) (h 40) (h 41) (h 42) (((t - 1) * 17) + 16))), (42, (rX6_readFrom_36_42 (h 36) (h 38) (h 39) (h 40) (h 41) (h 42) (((t - 1) * 17) + 16)))]) rfl]
    refine rr_aload_n 0 rfl rfl dX1_takeImageBack_56 ?_
    refine rr_aload_n 0 rfl rfl dX1_takeImageBack_57 ?_
    refine rr_getR dX1_takeImageBack_58 fX1_20 lo_34 sh_34 rfl ?_
    refine rr_aload_n 0 rfl rfl dX1_takeImageBack_61 ?_
    refine rr_getI dX1_takeImageBack_62 fX1_27 lo_34 sh_34 rfl ?_
    rw [show (jj_rs h [(34, (upd (h 34) (1) (nI (t - 1)))), (35, (va_cpy (h 36) (h 35) ((nI (((t - 1) * 17) * 35)) : Int32).toNatClampNeg (0 : Int32).toNatClampNeg (560 : Int32).toNatClampNeg)), (38, (rX6_readFrom_36_38 (h 36) (h 38) (h 39) (h 40) (h 41) (h 42) (((t - 1) * 17) + 16))), (39, (rX6_readFrom_36_39 (h 36) (h 38) (h 39) (h 40) (h 41) (h 42) (((t - 1) * 17) + 16))), (40, (rX6_readFrom_36_40 (h 36) (h 38) (h 39) (h 40) (h 41) (h 42) (((t - 1) * 17) + 16))), (41, (rX6_readFrom_36_41 (h 36) (h 38) (h 39) (h 40) (h 41) (h 42) (((t - 1) * 17) + 16))), (42, (rX6_readFrom_36_42 (h 36) (h 38) (h 39) (h 40) (h 41) (h 42) (((t - 1) * 17) + 16)))]) 34 = (upd (h 34) (1) (nI (t - 1))) from rfl]
    rw [show (upd (h 34) (1) (nI (t - 1))) 1 = (nI (t - 1)) from rfl]
    refine rr_iaload dX1_takeImageBack_65 lo_37 sh_37 (by first | assumption | exact jj_pers hP hn (by assumption) | exact vp_in_nI (by omega) (by decide) | decide | omega) ?_
    rw [show (jj_rs h [(34, (upd (h 34) (1) (nI (t - 1)))), (35, (va_cpy (h 36) (h 35) ((nI (((t - 1) * 17) * 35)) : Int32).toNatClampNeg (0 : Int32).toNatClampNeg (560 : Int32).toNatClampNeg)), (38, (rX6_readFrom_36_38 (h 36) (h 38) (h 39) (h 40) (h 41) (h 42) (((t - 1) * 17) + 16))), (39, (rX6_readFrom_36_39 (h 36) (h 38) (h 39) (h 40) (h 41) (h 42) (((t - 1) * 17) + 16))), (40, (rX6_readFrom_36_40 (h 36) (h 38) (h 39) (h 40) (h 41) (h 42) (((t - 1) * 17) + 16))), (41, (rX6_readFrom_36_41 (h 36) (h 38) (h 39) (h 40) (h 41) (h 42) (((t - 1) * 17) + 16))), (42, (rX6_readFrom_36_42 (h 36) (h 38) (h 39) (h 40) (h 41) (h 42) (((t - 1) * 17) + 16)))]) 37 = h 37 from rfl]
    refine rr_putI dX1_takeImageBack_66 fX1_23 ni1_0 lo_34 sh_34 rfl ?_
    rw [jj_rs_set (B := h) (L := [(34, (upd (h 34) (1) (nI (t - 1)))), (35, (va_cpy (h 36) (h 35) ((nI (((t - 1) * 17) * 35)) : Int32).toNatClampNeg (0 : Int32).toNatClampNeg (560 : Int32).toNatClampNeg)), (38, (rX6_readFrom_36_38 (h 36) (h 38) (h 39) (h 40) (h 41) (h 42) (((t - 1) * 17) + 16))), (39, (rX6_readFrom_36_39 (h 36) (h 38) (h 39) (h 40) (h 41) (h 42) (((t - 1) * 17) + 16))), (40, (rX6_readFrom_36_40 (h 36) (h 38) (h 39) (h 40) (h 41) (h 42) (((t - 1) * 17) + 16))), (41, (rX6_readFrom_36_41 (h 36) (h 38) (h 39) (h 40) (h 41) (h 42) (((t - 1) * 17) + 16))), (42, (rX6_readFrom_36_42 (h 36) (h 38) (h 39) (h 40) (h 41) (h 42) (((t - 1) * 17) + 16)))]) (L2 := [(34, (upd (upd (h 34) (1) (nI (t - 1))) (0) ((h 37) ((nI (t - 1)) : Int32).toNatClampNeg))), (35, (va_cpy (h 36) (h 35) ((nI (((t - 1) * 17) * 35)) : Int32).toNatClampNeg (0 : Int32).toNatClampNeg (560 : Int32).toNatClampNeg)), (38, (rX6_readFrom_36_38 (h 36) (h 38) (h 39) (h 40) (h 41) (h 42) (((t - 1) * 17) + 16))), (39, (rX6_readFrom_36_39 (h 36) (h 38) (h 39) (h 40) (h 41) (h 42) (((t - 1) * 17) + 16))), (40, (rX6_readFrom_36_40 (h 36) (h 38) (h 39) (h 40) (h 41) (h 42) (((t - 1) * 17) + 16))), (41, (rX6_readFrom_36_41 (h 36) (h 38) (h 39) (h 40) (h 41) (h 42) (((t - 1) * 17) + 16))), (42, (rX6_readFrom_36_42 (h 36) (h 38) (h 39) (h 40) (h 41) (h 42) (((t - 1) * 17) + 16)))]) (r := (upd (h 34) (1) (nI (t - 1)))) rfl rfl]
    refine rr_return dX1_takeImageBack_69 rfl ?_
    simpa only [rX1_takeImageBack_34, rX1_takeImageBack_35, rX1_takeImageBack_38, rX1_takeImageBack_39, rX1_takeImageBack_40, rX1_takeImageBack_41, rX1_takeImageBack_42, if_neg c1] using kq
