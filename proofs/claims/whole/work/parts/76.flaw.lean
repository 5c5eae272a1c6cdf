theorem cf_law_bad {T d kc ks : Nat} {n : Int32} {h : hp_} {g : Nat → Nat → Int64} {Q : jj_Rs → jj_St → Prop} (hT : h 13 1 = nI T) (hb : n < 0 ∨ nI T < n ∨ 150 < n) (kq : Q (.inr "java/lang/IllegalArgumentException") (jj_S, 782, jj_rs h [(0, upd (h 0) 14 (h 0 14 + 1))], g)) : jj_R mX9_law (d + 7) (kc + 1) (ks + 6) (jj_S, 782, h, g) 0 [(0, .ref 0), (1, .int n)] [] Q := by
  refine rr_aload_n 0 rfl rfl dX9_law_0 ?_
  refine rr_iload_n 1 rfl rfl dX9_law_1 ?_
  refine rr_if_lt dX9_law_2 (fun c1 => ?_) (fun c1 => ?_)
  · skip
    refine rr_iconst 0 rfl dX9_law_27 ?_
    refine rr_callV (As := [.int 0]) (rest := []) (kc2 := 1) (ks2 := 6) dX9_law_28 okX9_require lX9_103 lo_0 sh_0 rfl rfl (Nat.le_of_ble_eq_true rfl) (Nat.le_of_ble_eq_true rfl) rfl (by omega) (by simp [jj_rk]) (by simp [jj_rk]) ?_
    refine sp_X9_require (fun c => absurd rfl c) (fun _ => ?_)
    exact kq
  · skip
    refine rr_iload_n 1 rfl rfl dX9_law_5 ?_
    refine rr_aload_n 0 rfl rfl dX9_law_6 ?_
    refine rr_getR dX9_law_7 fX9_21 lo_0 sh_0 rfl ?_
    refine rr_getI dX9_law_10 fX9_99 lo_13 sh_13 rfl ?_
    rw [show (h 13) 1 = (nI T) from hT]
    refine rr_icmp_gt dX9_law_13 (fun c2 => ?_) (fun c2 => ?_)
    · skip
      refine rr_iconst 0 rfl dX9_law_27 ?_
      refine rr_callV (As := [.int 0]) (rest := []) (kc2 := 1) (ks2 := 6) dX9_law_28 okX9_require lX9_103 lo_0 sh_0 rfl rfl (Nat.le_of_ble_eq_true rfl) (Nat.le_of_ble_eq_true rfl) rfl (by omega) (by simp [jj_rk]) (by simp [jj_rk]) ?_
      refine sp_X9_require (fun c => absurd rfl c) (fun _ => ?_)
      exact kq
    · skip
      refine rr_iload_n 1 rfl rfl dX9_law_16 ?_
      refine rr_sipush 150 rfl dX9_law_17 ?_
      refine rr_icmp_gt dX9_law_20 (fun c3 => ?_) (fun c3 => ?_)
      · skip
        refine rr_iconst 0 rfl dX9_law_27 ?_
        refine rr_callV (As := [.int 0]) (rest := []) (kc2 := 1) (ks2 := 6) dX9_law_28 okX9_require lX9_103 lo_0 sh_0 rfl rfl (Nat.le_of_ble_eq_true rfl) (Nat.le_of_ble_eq_true rfl) rfl (by omega) (by simp [jj_rk]) (by simp [jj_rk]) ?_
        refine sp_X9_require (fun c => absurd rfl c) (fun _ => ?_)
        exact kq
      · skip
        refine rr_iconst 1 rfl dX9_law_23 ?_
        refine rr_goto dX9_law_24 ?_
        refine rr_callV (As := [.int 1]) (rest := []) (kc2 := 1) (ks2 := 6) dX9_law_28 okX9_require lX9_103 lo_0 sh_0 rfl rfl (Nat.le_of_ble_eq_true rfl) (Nat.le_of_ble_eq_true rfl) rfl (by omega) (by simp [jj_rk]) (by simp [jj_rk]) ?_
        exfalso
        rcases hb with q | q | q
        · exact c1 q
        · exact c2 q
        · exact c3 q
set_option maxHeartbeats 2000000 in
theorem cf_law {c : Nat → Nat} {N T D kc ks : Nat} {h : hp_} {g : Nat → Nat → Int64} {Q : jj_Rs → jj_St → Prop} (hB : bytesok (h 14) c) (hT : h 13 1 = nI T) (hT6 : T ≤ 600) (hNT : N ≤ T) (hN5 : N ≤ 150) (hD : 34 ≤ D) (k1 : ∀ L h9, plaw c N = .ok L → lawT h h9 L → Q (.inl (some (.int 1))) (jj_S, 782, jj_rs h9 [(13, upd (h9 13) 1 0)], g)) (k2 : ∀ k p h9, plaw c N = .error (k, p) → lawE h h9 k p → Q (.inl (some (.int (nI k - 10)))) (jj_S, 782, jj_rs h9 [(13, upd (h9 13) 1 0)], g)) : jj_R mX9_law D (kc + 1) (ks + 6) (jj_S, 782, h, g) 0 [(0, .ref 0), (1, .int (nI N))] [] Q := by
  obtain ⟨d, rfl⟩ : ∃ d, D = d + 34 := ⟨D - 34, by omega⟩
  refine rr_aload_n 0 rfl rfl dX9_law_0 ?_
  refine rr_iload_n 1 rfl rfl dX9_law_1 ?_
  refine rr_if_lt dX9_law_2 (fun c => absurd c (nI_pos (by omega))) (fun _ => ?_)
  refine rr_iload_n 1 rfl rfl dX9_law_5 ?_
  refine rr_aload_n 0 rfl rfl dX9_law_6 ?_
  refine rr_getR dX9_law_7 fX9_21 lo_0 sh_0 rfl ?_
  refine rr_getI dX9_law_10 fX9_99 lo_13 sh_13 rfl ?_
  rw [show (h 13) 1 = (nI T) from hT]
  refine rr_icmp_gt dX9_law_13 (fun c => absurd c (nI_nlt (by omega) (by omega))) (fun _ => ?_)
  refine rr_iload_n 1 rfl rfl dX9_law_16 ?_
  refine rr_sipush 150 rfl dX9_law_17 ?_
  refine rr_icmp_gt dX9_law_20 (fun c => absurd c (nI_nlt (by omega) (by decide))) (fun _ => ?_)
  refine rr_iconst 1 rfl dX9_law_23 ?_
  refine rr_goto dX9_law_24 ?_
  refine rr_callV (As := [.int 1]) (rest := []) (kc2 := 1) (ks2 := 6) dX9_law_28 okX9_require lX9_103 lo_0 sh_0 rfl rfl (Nat.le_of_ble_eq_true rfl) (Nat.le_of_ble_eq_true rfl) rfl (by omega) (by simp [jj_rk]) (by simp [jj_rk]) ?_
  refine sp_X9_require (fun _ => ?_) (fun c => absurd c (by decide))
  show jj_R _ _ kc ks (jj_S, 782, h, g) 31 [(0, .ref 0), (1, .int (nI N))] [] Q
  refine rr_aload_n 0 rfl rfl dX9_law_31 ?_
  refine rr_getR dX9_law_32 fX9_21 lo_0 sh_0 rfl ?_
  refine rr_iload_n 1 rfl rfl dX9_law_35 ?_
  refine rr_callV (As := [.int (nI N)]) (rest := []) (kc2 := 0) (ks2 := 0) dX9_law_36 okX5_open lX9_107 lo_13 sh_13 rfl rfl (Nat.le_of_ble_eq_true rfl) (Nat.le_of_ble_eq_true rfl) rfl (by omega) (by simp [jj_rk]) (by simp [jj_rk]) ?_
  refine cl_open hB (by omega) (by omega) (fun h m h8 h1 ho => ?_)
  show jj_R _ _ kc ks (jj_S, 782, h, g) 39 [(0, .ref 0), (1, .int (nI N))] [] Q
  refine rr_aload_n 0 rfl rfl dX9_law_39 ?_
  refine rr_getR dX9_law_40 fX9_34 lo_0 sh_0 rfl ?_
  refine rr_aload_n 0 rfl rfl dX9_law_43 ?_
  refine rr_getR dX9_law_44 fX9_21 lo_0 sh_0 rfl ?_
  refine rr_callV (As := [.ref 13]) (rest := []) (kc2 := 0) (ks2 := 0) dX9_law_47 okX4_readFrom lX9_135 lo_7 sh_7 rfl rfl (Nat.le_of_ble_eq_true rfl) (Nat.le_of_ble_eq_true rfl) rfl (by omega) (by simp [jj_rk]) (by simp [jj_rk]) ?_
  refine cl_law hN5 (by omega) m h8 (fun L h e1 m => ?_) (fun k p h e1 m => ?_)
  · skip
    show jj_R _ _ kc ks (jj_S, 782, h, g) 50 [(0, .ref 0), (1, .int (nI N))] [] Q
    refine rr_aload_n 0 rfl rfl dX9_law_50 ?_
    refine rr_getR dX9_law_51 fX9_21 lo_0 sh_0 rfl ?_
    refine rr_callV (As := []) (rest := []) (kc2 := 0) (ks2 := 0) dX9_law_54 okX5_empty lX9_114 lo_13 sh_13 rfl rfl (Nat.le_of_ble_eq_true rfl) (Nat.le_of_ble_eq_true rfl) rfl (by omega) (by simp [jj_rk]) (by simp [jj_rk]) ?_
    refine sp_X5_empty  ?_
    show jj_R _ _ kc ks (jj_S, 782, (jj_rs h [(13, (upd (h 13) (1) 0))]), g) 57 [(0, .ref 0), (1, .int (nI N))] [] Q
    refine rr_aload_n 0 rfl rfl dX9_law_57 ?_
    refine rr_getR dX9_law_58 fX9_21 lo_0 sh_0 rfl ?_
    refine rr_getI dX9_law_61 fX9_117 lo_13 sh_13 rfl ?_
    rw [show (jj_rs h [(13, (upd (h 13) (1) 0))]) 13 = (upd (h 13) (1) 0) from rfl]
    rw [show (upd (h 13) (1) 0) 7 = 0 from m.1]
    refine rr_if_eq dX9_law_64 (fun _ => ?_) (fun c => absurd (by decide) c)
    refine rr_iconst 1 rfl dX9_law_80 ?_
    refine rr_ireturn dX9_law_81 rfl ?_
    exact k1 L h e1 ⟨m.1, m.2.1, m.2.2.1, m.2.2.2.1, m.2.2.2.2.1, fun x x7 x8 x9 x13 => (m.2.2.2.2.2 x x7 x8 x9 x13).trans (ho x x13)⟩
  · skip
    have ke := plaw_er e1
    have hk0 : ¬ nI k = 0 := nI_k0 ke.1 ke.2
    show jj_R _ _ kc ks (jj_S, 782, h, g) 50 [(0, .ref 0), (1, .int (nI N))] [] Q
    refine rr_aload_n 0 rfl rfl dX9_law_50 ?_
    refine rr_getR dX9_law_51 fX9_21 lo_0 sh_0 rfl ?_
    refine rr_callV (As := []) (rest := []) (kc2 := 0) (ks2 := 0) dX9_law_54 okX5_empty lX9_114 lo_13 sh_13 rfl rfl (Nat.le_of_ble_eq_true rfl) (Nat.le_of_ble_eq_true rfl) rfl (by omega) (by simp [jj_rk]) (by simp [jj_rk]) ?_
    refine sp_X5_empty  ?_
    show jj_R _ _ kc ks (jj_S, 782, (jj_rs h [(13, (upd (h 13) (1) 0))]), g) 57 [(0, .ref 0), (1, .int (nI N))] [] Q
    refine rr_aload_n 0 rfl rfl dX9_law_57 ?_
    refine rr_getR dX9_law_58 fX9_21 lo_0 sh_0 rfl ?_
    refine rr_getI dX9_law_61 fX9_117 lo_13 sh_13 rfl ?_
    rw [show (jj_rs h [(13, (upd (h 13) (1) 0))]) 13 = (upd (h 13) (1) 0) from rfl]
    rw [show (upd (h 13) (1) 0) 7 = (nI k) from m.1]
    refine rr_if_eq dX9_law_64 (fun c => absurd c hk0) (fun _ => ?_)
    refine rr_aload_n 0 rfl rfl dX9_law_67 ?_
    refine rr_getR dX9_law_68 fX9_21 lo_0 sh_0 rfl ?_
    refine rr_getI dX9_law_71 fX9_117 lo_13 sh_13 rfl ?_
    rw [show (jj_rs h [(13, (upd (h 13) (1) 0))]) 13 = (upd (h 13) (1) 0) from rfl]
    rw [show (upd (h 13) (1) 0) 7 = (nI k) from m.1]
    refine rr_bipush 10 rfl dX9_law_74 ?_
    refine rr_isub dX9_law_76 ?_
    refine rr_goto dX9_law_77 ?_
    refine rr_ireturn dX9_law_81 rfl ?_
    exact k2 k p h e1 ⟨m.1, m.2.1, m.2.2.1.trans (by rw [ho 7 (by decide)]), fun x x7 x9 x13 => (m.2.2.2 x x7 x9 x13).trans (ho x x13)⟩
