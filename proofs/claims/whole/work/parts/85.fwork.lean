/-! ===== the class's work ===== -/
def wX_ (x : Nat) : Bool := x == 0 || (x == 10 || (x == 11 || (x == 13 || (pV x || (x == 34 || (x == 35 || (decide (38 ≤ x) && decide (x < 43))))))))
def wrkF (h h9 : hp_) (n m u : Nat) (L : List wE_) (v : Int32) : Prop := ∃ r21 r22 r23 r24 : Nat → Int32, (r21 7 = 0 ∧ r21 8 = 0 ∧ r21 9 = 0) ∧ (∀ i z, L[i]? = some z → crl z (r22 i) (r23 i) (r24 i)) ∧ 4 * L.length ≤ 150 ∧ ∃ R, R = rs (h 2) (h 3) (h 6) (h 8) r22 r23 r24 n m 7 0 (nI L.length) r21 (h 38) (h 39) (h 40) (h 41) (h 42) ∧ v = R.1 8 ∧ h9 0 = upd (h 0) 12 (R.1 9) ∧ (h9 38 = R.2.1 ∧ h9 39 = R.2.2.1 ∧ h9 40 = R.2.2.2.1 ∧ h9 41 = R.2.2.2.2.1 ∧ h9 42 = R.2.2.2.2.2) ∧ h9 34 = upd (h 34) 0 (nI (u + 1)) ∧ h9 35 = rX6_writeTo_35_35 (h 35) (h 38) (h 39) (h 40) (h 41) (h 42) u ∧ h9 13 1 = 0 ∧ h9 13 8 = -1 ∧ ∀ x, wX_ x = false → h9 x = h x
theorem wX_no {x : Nat} (h : wX_ x = false) : ¬ x = 0 ∧ ¬ x = 10 ∧ ¬ x = 11 ∧ ¬ x = 13 ∧ pV x = false ∧ ¬ x = 34 ∧ ¬ x = 35 ∧ ¬ (38 ≤ x ∧ x < 43) := by
  unfold wX_ at h
  simp only [Bool.or_eq_false_iff] at h
  obtain ⟨h1, h2, h3, h4, h5, h6, h7, h8⟩ := h
  refine ⟨by simpa using h1, by simpa using h2, by simpa using h3, by simpa using h4, h5, by simpa using h6, by simpa using h7, fun q => ?_⟩
  simp [q.1] at h8
  omega
theorem kw_34 {r34 r35 r38 r39 r40 r41 r42 : Nat → Int32} {u : Nat} (h : u < 16) : rX1_keepWork_34 r34 r35 r38 r39 r40 r41 r42 u = upd r34 0 (nI (u + 1)) := by
  unfold rX1_keepWork_34
  rw [if_neg (show ¬ (16 : Int32) ≤ nI u from fun q => absurd ((nI_leI (a := 16) (by decide) (by omega)).mp q) (by omega))]
theorem kw_35 {r34 r35 r38 r39 r40 r41 r42 : Nat → Int32} {u : Nat} (h : u < 16) : rX1_keepWork_35 r34 r35 r38 r39 r40 r41 r42 u = rX6_writeTo_35_35 r35 r38 r39 r40 r41 r42 u := by
  unfold rX1_keepWork_35
  rw [if_neg (show ¬ (16 : Int32) ≤ nI u from fun q => absurd ((nI_leI (a := 16) (by decide) (by omega)).mp q) (by omega))]
theorem full_1 {r34 : Nat → Int32} (h : r34 0 = nI 16) : ¬ vX1_isFull r34 = 0 := by
  unfold vX1_isFull
  rw [h, if_neg (by decide)]
  decide
theorem full_0 {r34 : Nat → Int32} {u : Nat} (h : r34 0 = nI u) (hu : u < 16) : vX1_isFull r34 = 0 := by
  unfold vX1_isFull
  rw [h, if_pos (show nI u < 16 from nI_lt (b := 16) hu (by decide))]
def rX8_begin_21 (r21 : Nat → Int32) : Nat → Int32 := (upd (upd (upd (upd r21 (6) 1) (7) 0) (8) 0) (9) 0)
set_option maxHeartbeats 1000000 in
theorem sp_X8_begin {d kc ks : Nat} {h : Nat → Nat → Int32} {g : Nat → Nat → Int64} {Q : jj_Rs → jj_St → Prop}  (kq : Q (.inl none) (jj_S, 782, (jj_rs h [(21, (rX8_begin_21 (h 21)))]), g)) : jj_R mX8_begin (d + 0) kc ks (jj_S, 782, h, g) 0 [(0, .ref 21), (1, .ref 38)] [] Q := by
  refine rr_aload_n 0 rfl rfl dX8_begin_0 ?_
  refine rr_aload_n 1 rfl rfl dX8_begin_1 ?_
  refine rr_putO dX8_begin_2 fX8_87 pf8_6 lo_21 sh_21 rfl ?_
  rw [jj_rs_set0 (B := h) (o := 21) (r := (h 21)) rfl]
  refine rr_aload_n 0 rfl rfl dX8_begin_5 ?_
  refine rr_iconst 0 rfl dX8_begin_6 ?_
  refine rr_putI dX8_begin_7 fX8_91 ni8_7 lo_21 sh_21 rfl ?_
  rw [jj_rs_set (B := h) (L := [(21, (upd (h 21) (6) 1))]) (L2 := [(21, (upd (upd (h 21) (6) 1) (7) 0))]) (r := (upd (h 21) (6) 1)) rfl rfl]
  refine rr_aload_n 0 rfl rfl dX8_begin_10 ?_
  refine rr_iconst 0 rfl dX8_begin_11 ?_
  refine rr_putI dX8_begin_12 fX8_94 ni8_8 lo_21 sh_21 rfl ?_
  rw [jj_rs_set (B := h) (L := [(21, (upd (upd (h 21) (6) 1) (7) 0))]) (L2 := [(21, (upd (upd (upd (h 21) (6) 1) (7) 0) (8) 0))]) (r := (upd (upd (h 21) (6) 1) (7) 0)) rfl rfl]
  refine rr_aload_n 0 rfl rfl dX8_begin_15 ?_
  refine rr_iconst 0 rfl dX8_begin_16 ?_
  refine rr_putI dX8_begin_17 fX8_97 ni8_9 lo_21 sh_21 rfl ?_
  rw [jj_rs_set (B := h) (L := [(21, (upd (upd (upd (h 21) (6) 1) (7) 0) (8) 0))]) (L2 := [(21, (upd (upd (upd (upd (h 21) (6) 1) (7) 0) (8) 0) (9) 0))]) (r := (upd (upd (upd (h 21) (6) 1) (7) 0) (8) 0)) rfl rfl]
  refine rr_return dX8_begin_20 rfl ?_
  simpa only [rX8_begin_21] using kq
set_option maxHeartbeats 2000000 in
theorem cf_work_full {c : Nat → Nat} {N T D kc ks : Nat} {h : hp_} {g : Nat → Nat → Int64} {Q : jj_Rs → jj_St → Prop} (hB : bytesok (h 14) c) (hT : h 13 1 = nI T) (hT6 : T ≤ 600) (hNT : N ≤ T) (hN5 : N ≤ 150) (hu : h 34 0 = nI 16) (hD : 28 ≤ D) (k1 : ∀ h9, h9 13 8 = -1 → (∀ x, ¬ x = 13 → h9 x = h x) → Q (.inl (some (.int (-20)))) (jj_S, 782, jj_rs h9 [(13, upd (h9 13) 1 0)], g)) : jj_R mX9_work D (kc + 1) (ks + 6) (jj_S, 782, h, g) 0 [(0, .ref 0), (1, .int (nI N))] [] Q := by
  obtain ⟨d, rfl⟩ : ∃ d, D = d + 28 := ⟨D - 28, by omega⟩
  refine rr_aload_n 0 rfl rfl dX9_work_0 ?_
  refine rr_iload_n 1 rfl rfl dX9_work_1 ?_
  refine rr_if_lt dX9_work_2 (fun c => absurd c (nI_pos (by omega))) (fun _ => ?_)
  refine rr_iload_n 1 rfl rfl dX9_work_5 ?_
  refine rr_aload_n 0 rfl rfl dX9_work_6 ?_
  refine rr_getR dX9_work_7 fX9_21 lo_0 sh_0 rfl ?_
  refine rr_getI dX9_work_10 fX9_99 lo_13 sh_13 rfl ?_
  rw [show (h 13) 1 = (nI T) from hT]
  refine rr_icmp_gt dX9_work_13 (fun c => absurd c (nI_nlt (by omega) (by omega))) (fun _ => ?_)
  refine rr_iload_n 1 rfl rfl dX9_work_16 ?_
  refine rr_sipush 150 rfl dX9_work_17 ?_
  refine rr_icmp_gt dX9_work_20 (fun c => absurd c (nI_nlt (by omega) (by decide))) (fun _ => ?_)
  refine rr_iconst 1 rfl dX9_work_23 ?_
  refine rr_goto dX9_work_24 ?_
  refine rr_callV (As := [.int 1]) (rest := []) (kc2 := 1) (ks2 := 6) dX9_work_28 okX9_require lX9_103 lo_0 sh_0 rfl rfl (Nat.le_of_ble_eq_true rfl) (Nat.le_of_ble_eq_true rfl) rfl (by omega) (by simp [jj_rk]) (by simp [jj_rk]) ?_
  refine sp_X9_require (fun _ => ?_) (fun c => absurd c (by decide))
  show jj_R _ _ kc ks (jj_S, 782, h, g) 31 [(0, .ref 0), (1, .int (nI N))] [] Q
  refine rr_aload_n 0 rfl rfl dX9_work_31 ?_
  refine rr_getR dX9_work_32 fX9_70 lo_0 sh_0 rfl ?_
  refine rr_callV (As := []) (rest := []) (kc2 := 0) (ks2 := 0) dX9_work_35 okX1_isFull lX9_136 lo_34 sh_34 rfl rfl (Nat.le_of_ble_eq_true rfl) (Nat.le_of_ble_eq_true rfl) rfl (by omega) (by simp [jj_rk]) (by simp [jj_rk]) ?_
  refine sp_X1_isFull  ?_
  show jj_R _ _ kc ks (jj_S, 782, h, g) 38 [(0, .ref 0), (1, .int (nI N))] [.int (vX1_isFull (h 34))] Q
  refine rr_if_eq dX9_work_38 (fun c => absurd c (full_1 hu)) (fun _ => ?_)
  refine rr_aload_n 0 rfl rfl dX9_work_41 ?_
  refine rr_getR dX9_work_42 fX9_21 lo_0 sh_0 rfl ?_
  refine rr_iconst 0 rfl dX9_work_45 ?_
  refine rr_callV (As := [.int 0]) (rest := []) (kc2 := 0) (ks2 := 0) dX9_work_46 okX5_open lX9_107 lo_13 sh_13 rfl rfl (Nat.le_of_ble_eq_true rfl) (Nat.le_of_ble_eq_true rfl) rfl (by omega) (by simp [jj_rk]) (by simp [jj_rk]) ?_
  refine cl_open (N := 0) hB (by omega) (by omega) (fun h m h8 h1 ho => ?_)
  show jj_R _ _ kc ks (jj_S, 782, h, g) 49 [(0, .ref 0), (1, .int (nI N))] [] Q
  refine rr_aload_n 0 rfl rfl dX9_work_49 ?_
  refine rr_getR dX9_work_50 fX9_21 lo_0 sh_0 rfl ?_
  refine rr_callV (As := []) (rest := []) (kc2 := 0) (ks2 := 0) dX9_work_53 okX5_empty lX9_114 lo_13 sh_13 rfl rfl (Nat.le_of_ble_eq_true rfl) (Nat.le_of_ble_eq_true rfl) rfl (by omega) (by simp [jj_rk]) (by simp [jj_rk]) ?_
  refine sp_X5_empty  ?_
  show jj_R _ _ kc ks (jj_S, 782, (jj_rs h [(13, (upd (h 13) (1) 0))]), g) 56 [(0, .ref 0), (1, .int (nI N))] [] Q
  refine rr_bipush (-20) rfl dX9_work_56 ?_
  refine rr_ireturn dX9_work_58 rfl ?_
  exact k1 h h8 ho
set_option maxHeartbeats 4000000 in
theorem cf_work {n m_ u : Nat} {c : Nat → Nat} {N T D kc ks : Nat} {h : hp_} {g : Nat → Nat → Int64} {Q : jj_Rs → jj_St → Prop} (hB : bytesok (h 14) c) (hT : h 13 1 = nI T) (hT6 : T ≤ 600) (hNT : N ≤ T) (hN5 : N ≤ 150) (hP : h 1 0 = nI n) (hn : n ≤ 8) (hm : h 7 1 = nI m_) (hm2 : m_ ≤ 150) (hu : h 34 0 = nI u) (hu2 : u < 16) (hD : 28 ≤ D) (k1 : ∀ L h9 v, pwork c N n = .ok L → wrkF h h9 n m_ u L v → Q (.inl (some (.int v))) (jj_S, 782, h9, g)) (k2 : ∀ k p h9, pwork c N n = .error (k, p) → wrkE h h9 k p → Q (.inl (some (.int (nI k - 10)))) (jj_S, 782, jj_rs h9 [(13, upd (h9 13) 1 0)], g)) : jj_R mX9_work D (kc + 1) (ks + 6) (jj_S, 782, h, g) 0 [(0, .ref 0), (1, .int (nI N))] [] Q := by
  obtain ⟨d, rfl⟩ : ∃ d, D = d + 28 := ⟨D - 28, by omega⟩
  refine rr_aload_n 0 rfl rfl dX9_work_0 ?_
  refine rr_iload_n 1 rfl rfl dX9_work_1 ?_
  refine rr_if_lt dX9_work_2 (fun c => absurd c (nI_pos (by omega))) (fun _ => ?_)
  refine rr_iload_n 1 rfl rfl dX9_work_5 ?_
  refine rr_aload_n 0 rfl rfl dX9_work_6 ?_
  refine rr_getR dX9_work_7 fX9_21 lo_0 sh_0 rfl ?_
  refine rr_getI dX9_work_10 fX9_99 lo_13 sh_13 rfl ?_
  rw [show (h 13) 1 = (nI T) from hT]
  refine rr_icmp_gt dX9_work_13 (fun c => absurd c (nI_nlt (by omega) (by omega))) (fun _ => ?_)
  refine rr_iload_n 1 rfl rfl dX9_work_16 ?_
  refine rr_sipush 150 rfl dX9_work_17 ?_
  refine rr_icmp_gt dX9_work_20 (fun c => absurd c (nI_nlt (by omega) (by decide))) (fun _ => ?_)
  refine rr_iconst 1 rfl dX9_work_23 ?_
  refine rr_goto dX9_work_24 ?_
  refine rr_callV (As := [.int 1]) (rest := []) (kc2 := 1) (ks2 := 6) dX9_work_28 okX9_require lX9_103 lo_0 sh_0 rfl rfl (Nat.le_of_ble_eq_true rfl) (Nat.le_of_ble_eq_true rfl) rfl (by omega) (by simp [jj_rk]) (by simp [jj_rk]) ?_
  refine sp_X9_require (fun _ => ?_) (fun c => absurd c (by decide))
  show jj_R _ _ kc ks (jj_S, 782, h, g) 31 [(0, .ref 0), (1, .int (nI N))] [] Q
  refine rr_aload_n 0 rfl rfl dX9_work_31 ?_
  refine rr_getR dX9_work_32 fX9_70 lo_0 sh_0 rfl ?_
  refine rr_callV (As := []) (rest := []) (kc2 := 0) (ks2 := 0) dX9_work_35 okX1_isFull lX9_136 lo_34 sh_34 rfl rfl (Nat.le_of_ble_eq_true rfl) (Nat.le_of_ble_eq_true rfl) rfl (by omega) (by simp [jj_rk]) (by simp [jj_rk]) ?_
  refine sp_X1_isFull  ?_
  show jj_R _ _ kc ks (jj_S, 782, h, g) 38 [(0, .ref 0), (1, .int (nI N))] [.int (vX1_isFull (h 34))] Q
  refine rr_if_eq dX9_work_38 (fun _ => ?_) (fun c => absurd (full_0 hu hu2) c)
  refine rr_aload_n 0 rfl rfl dX9_work_59 ?_
  refine rr_getR dX9_work_60 fX9_21 lo_0 sh_0 rfl ?_
  refine rr_iload_n 1 rfl rfl dX9_work_63 ?_
  refine rr_callV (As := [.int (nI N)]) (rest := []) (kc2 := 0) (ks2 := 0) dX9_work_64 okX5_open lX9_107 lo_13 sh_13 rfl rfl (Nat.le_of_ble_eq_true rfl) (Nat.le_of_ble_eq_true rfl) rfl (by omega) (by simp [jj_rk]) (by simp [jj_rk]) ?_
  refine cl_open hB (by omega) (by omega) (fun h m h8 h1 ho => ?_)
  show jj_R _ _ kc ks (jj_S, 782, h, g) 67 [(0, .ref 0), (1, .int (nI N))] [] Q
  refine rr_aload_n 0 rfl rfl dX9_work_67 ?_
  refine rr_getR dX9_work_68 fX9_47 lo_0 sh_0 rfl ?_
  refine rr_aload_n 0 rfl rfl dX9_work_71 ?_
  refine rr_getR dX9_work_72 fX9_21 lo_0 sh_0 rfl ?_
  refine rr_aload_n 0 rfl rfl dX9_work_75 ?_
  refine rr_getR dX9_work_76 fX9_27 lo_0 sh_0 rfl ?_
  refine rr_getI dX9_work_79 fX9_132 lo_1 sh_1 rfl ?_
  rw [show (h 1) 0 = (nI n) from (by rw [ho 1 (by decide)]; exact hP)]
  refine rr_callV (As := [.ref 13, .int (nI n)]) (rest := []) (kc2 := 0) (ks2 := 0) dX9_work_82 okX8_readFrom lX9_139 lo_21 sh_21 rfl rfl (Nat.le_of_ble_eq_true rfl) (Nat.le_of_ble_eq_true rfl) rfl (by omega) (by simp [jj_rk]) (by simp [jj_rk]) ?_
  refine cl_work (n := n) hN5 hn (by omega) m h8 (fun L h e1 m => ?_) (fun k p h e1 m => ?_)
  · skip
    obtain ⟨m1, m2, m3, m4, m5, m6, m7, m8⟩ := m
    have hu : h 34 0 = nI u := by rw [m8 34 rfl (by decide), ho 34 (by decide)]; exact hu
    have hm : h 7 1 = nI m_ := by rw [m8 7 rfl (by decide), ho 7 (by decide)]; exact hm
    have wl0 := pwork_wl e1
    have b := fun (x : Nat) (a : ¬ x = 13) (c : pV x = false) => (m8 x c a).trans (ho x a)
    show jj_R _ _ kc ks (jj_S, 782, h, g) 85 [(0, .ref 0), (1, .int (nI N))] [] Q
    refine rr_aload_n 0 rfl rfl dX9_work_85 ?_
    refine rr_getR dX9_work_86 fX9_21 lo_0 sh_0 rfl ?_
    refine rr_callV (As := []) (rest := []) (kc2 := 0) (ks2 := 0) dX9_work_89 okX5_empty lX9_114 lo_13 sh_13 rfl rfl (Nat.le_of_ble_eq_true rfl) (Nat.le_of_ble_eq_true rfl) rfl (by omega) (by simp [jj_rk]) (by simp [jj_rk]) ?_
    refine sp_X5_empty  ?_
    show jj_R _ _ kc ks (jj_S, 782, (jj_rs h [(13, (upd (h 13) (1) 0))]), g) 92 [(0, .ref 0), (1, .int (nI N))] [] Q
    refine rr_aload_n 0 rfl rfl dX9_work_92 ?_
    refine rr_getR dX9_work_93 fX9_21 lo_0 sh_0 rfl ?_
    refine rr_getI dX9_work_96 fX9_117 lo_13 sh_13 rfl ?_
    rw [show (jj_rs h [(13, (upd (h 13) (1) 0))]) 13 = (upd (h 13) (1) 0) from rfl]
    rw [show (upd (h 13) (1) 0) 7 = 0 from m1]
    refine rr_if_eq dX9_work_99 (fun _ => ?_) (fun c => absurd (by decide) c)
    refine rr_aload_n 0 rfl rfl dX9_work_113 ?_
    refine rr_getR dX9_work_114 fX9_70 lo_0 sh_0 rfl ?_
    refine rr_aload_n 0 rfl rfl dX9_work_117 ?_
    refine rr_getR dX9_work_118 fX9_80 lo_0 sh_0 rfl ?_
    refine rr_callV (As := [.ref 38]) (rest := []) (kc2 := 0) (ks2 := 0) dX9_work_121 okX1_keepWork lX9_142 lo_34 sh_34 rfl rfl (Nat.le_of_ble_eq_true rfl) (Nat.le_of_ble_eq_true rfl) rfl (by omega) (by simp [jj_rk]) (by simp [jj_rk]) ?_
    refine sp_X1_keepWork (u := u) hu (by omega) ?_
    rw [kw_34 hu2, kw_35 hu2]
    show jj_R _ _ kc ks (jj_S, 782, _, g) 124 [(0, .ref 0), (1, .int (nI N))] [] Q
    refine jj_fl (fun h9 eh => ?_)
    have y13 : h9 13 = upd (h 13) 1 0 := by rw [eh]; rfl
    have y34 : h9 34 = upd (h 34) 0 (nI (u + 1)) := by rw [eh]; rfl
    have y35 : h9 35 = rX6_writeTo_35_35 (h 35) (h 38) (h 39) (h 40) (h 41) (h 42) u := by rw [eh]; rfl
    have yo : ∀ x, ¬ x = 13 → ¬ x = 34 → ¬ x = 35 → h9 x = h x := fun x a b c => by
      rw [eh]
      have n13 : (x == 13) = false := by rw [beq_eq_false_iff_ne]; omega
      have n34 : (x == 34) = false := by rw [beq_eq_false_iff_ne]; omega
      have n35 : (x == 35) = false := by rw [beq_eq_false_iff_ne]; omega
      simp [jj_rs, List.lookup, n13, n34, n35]
    clear eh
    revert h9
    intro h y13 y34 y35 yo
    show jj_R _ _ kc ks (jj_S, 782, h, g) 124 [(0, .ref 0), (1, .int (nI N))] [] Q
    refine rr_aload_n 0 rfl rfl dX9_work_124 ?_
    refine rr_getR dX9_work_125 fX9_47 lo_0 sh_0 rfl ?_
    refine rr_aload_n 0 rfl rfl dX9_work_128 ?_
    refine rr_getR dX9_work_129 fX9_80 lo_0 sh_0 rfl ?_
    refine rr_callV (As := [.ref 38]) (rest := []) (kc2 := 0) (ks2 := 0) dX9_work_132 okX8_begin lX9_146 lo_21 sh_21 rfl rfl (Nat.le_of_ble_eq_true rfl) (Nat.le_of_ble_eq_true rfl) rfl (by omega) (by simp [jj_rk]) (by simp [jj_rk]) ?_
    refine sp_X8_begin ?_
    show jj_R _ _ kc ks (jj_S, 782, _, g) 135 [(0, .ref 0), (1, .int (nI N))] [] Q
    refine jj_fl (fun h9 eh => ?_)
    have v21 : h9 21 5 = nI n ∧ h9 21 6 = 1 ∧ h9 21 7 = 0 ∧ h9 21 8 = 0 ∧ h9 21 9 = 0 ∧ h9 21 4 = nI L.length := by
      rw [eh]
      exact ⟨(congrFun (yo 21 (by decide) (by decide) (by decide)) 5).trans m5, rfl, rfl, rfl, rfl, (congrFun (yo 21 (by decide) (by decide) (by decide)) 4).trans m3⟩
    have vo : ∀ x, ¬ x = 21 → h9 x = h x := fun x q => by rw [eh]; exact rs_ne q
    have w7 : h9 7 1 = nI m_ := by rw [vo 7 (by decide), yo 7 (by decide) (by decide) (by decide)]; exact hm
    have c22 : ∀ i z, L[i]? = some z → crl z (h9 22 i) (h9 23 i) (h9 24 i) := fun i z q => by
      rw [vo 22 (by decide), vo 23 (by decide), vo 24 (by decide), yo 22 (by decide) (by decide) (by decide), yo 23 (by decide) (by decide) (by decide), yo 24 (by decide) (by decide) (by decide)]
      exact m6 i z q
    clear eh
    revert h9
    intro h v21 vo w7 c22
    show jj_R _ _ kc ks (jj_S, 782, h, g) 135 [(0, .ref 0), (1, .int (nI N))] [] Q
    refine rr_aload_n 0 rfl rfl dX9_work_135 ?_
    refine rr_getR dX9_work_136 fX9_47 lo_0 sh_0 rfl ?_
    refine rr_iconst 0 rfl dX9_work_139 ?_
    refine rr_aload_n 0 rfl rfl dX9_work_140 ?_
    refine rr_getR dX9_work_141 fX9_47 lo_0 sh_0 rfl ?_
    refine rr_getI dX9_work_144 fX9_148 lo_21 sh_21 rfl ?_
    rw [show (h 21) 4 = (nI (L.length)) from v21.2.2.2.2.2]
    refine rr_iconst 0 rfl dX9_work_147 ?_
    refine rr_callV (As := [.int 0, .int (nI (L.length)), .int 0]) (rest := []) (kc2 := 0) (ks2 := 0) dX9_work_148 okX8_runSteps lX9_151 lo_21 sh_21 rfl rfl (Nat.le_of_ble_eq_true rfl) (Nat.le_of_ble_eq_true rfl) rfl (by omega) (by simp [jj_rk]) (by simp [jj_rk]) ?_
    refine sp_rs (n := n) (m := m_) (z := L.length) hn hm2 (by omega) 7 (O := 0) rfl w7 ⟨0, rfl, by decide⟩ ⟨L.length, rfl, Nat.le_refl _⟩ ⟨by rw [v21.2.1]; decide, v21.1, 0, v21.2.2.1, Nat.le_refl _, by decide⟩ (wk_pgok hn (by omega) wl0 c22) (fun h8 hq => ?_)
    show jj_R _ _ kc ks (jj_S, 782, _, g) 151 [(0, .ref 0), (1, .int (nI N))] [] Q
    refine jj_fl (fun h9 eh => ?_)
    obtain ⟨R, eR⟩ : ∃ R, R = (rs (h 2) (h 3) (h 6) (h 8) (h 22) (h 23) (h 24) n m_ 7 0 (nI L.length) (h 21) (h 38) (h 39) (h 40) (h 41) (h 42)) := ⟨_, rfl⟩
    rw [← eR] at eh
    have x21 : h9 21 = R.1 := by rw [eh]; rfl
    have x38 : h9 38 = R.2.1 ∧ h9 39 = R.2.2.1 ∧ h9 40 = R.2.2.2.1 ∧ h9 41 = R.2.2.2.2.1 ∧ h9 42 = R.2.2.2.2.2 := by rw [eh]; exact ⟨rfl, rfl, rfl, rfl, rfl⟩
    have xo : ∀ x, ¬ x = 21 → ¬ (38 ≤ x ∧ x < 43) → x ∉ [10, 11] → h9 x = h x := fun x a b c => by
      rw [eh, ← hq x c]
      have n21 : (x == 21) = false := by rw [beq_eq_false_iff_ne]; omega
      have n38 : (x == 38) = false := by rw [beq_eq_false_iff_ne]; omega
      have n39 : (x == 39) = false := by rw [beq_eq_false_iff_ne]; omega
      have n40 : (x == 40) = false := by rw [beq_eq_false_iff_ne]; omega
      have n41 : (x == 41) = false := by rw [beq_eq_false_iff_ne]; omega
      have n42 : (x == 42) = false := by rw [beq_eq_false_iff_ne]; omega
      simp [jj_rs, List.lookup, n21, n38, n39, n40, n41, n42]
    clear eh
    revert h9
    intro h x21 x38 xo
    show jj_R _ _ kc ks (jj_S, 782, h, g) 151 [(0, .ref 0), (1, .int (nI N))] [] Q
    refine rr_aload_n 0 rfl rfl dX9_work_151 ?_
    refine rr_aload_n 0 rfl rfl dX9_work_152 ?_
    refine rr_getR dX9_work_153 fX9_47 lo_0 sh_0 rfl ?_
    refine rr_getI dX9_work_156 fX9_155 lo_21 sh_21 rfl ?_
    refine rr_putI dX9_work_159 fX9_129 ni9_12 lo_0 sh_0 rfl ?_
    rw [jj_rs_set0 (B := h) (o := 0) (r := (h 0)) rfl]
    refine rr_aload_n 0 rfl rfl dX9_work_162 ?_
    refine rr_getR dX9_work_163 fX9_47 lo_0 sh_0 rfl ?_
    refine rr_getI dX9_work_166 fX9_158 lo_21 sh_21 rfl ?_
    rw [show (jj_rs h [(0, (upd (h 0) (12) ((h 21) 9)))]) 21 = h 21 from rfl]
    refine rr_ireturn dX9_work_169 rfl ?_
    have bl := fun (x : Nat) (a : ¬ x = 13) (c : pV x = false) (d1 : ¬ x = 34) (d2 : ¬ x = 35) => (vo x (fun z => by rw [z] at c; exact absurd c (by decide))).trans ((yo x a d1 d2).trans (b x a c))
    have c22 := c22
    rw [x21]
    have eR2 := eR
    rw [bl 2 (by decide) rfl (by decide) (by decide), bl 3 (by decide) rfl (by decide) (by decide), bl 6 (by decide) rfl (by decide) (by decide), bl 8 (by decide) rfl (by decide) (by decide), bl 38 (by decide) rfl (by decide) (by decide), bl 39 (by decide) rfl (by decide) (by decide), bl 40 (by decide) rfl (by decide) (by decide), bl 41 (by decide) rfl (by decide) (by decide), bl 42 (by decide) rfl (by decide) (by decide)] at eR2
    refine k1 L _ _ e1 ⟨_, _, _, _, ⟨v21.2.2.1, v21.2.2.2.1, v21.2.2.2.2.1⟩, c22, m4, R, eR2, rfl, ?_, x38, ?_, ?_, ?_, ?_, fun x hx => ?_⟩
    · show upd (h 0) 12 (R.1 9) = _
      rw [xo 0 (by decide) (by decide) (by decide), bl 0 (by decide) rfl (by decide) (by decide)]
    · show h 34 = _
      rw [xo 34 (by decide) (by decide) (by decide), vo 34 (by decide), y34, b 34 (by decide) rfl]
    · show h 35 = _
      rw [xo 35 (by decide) (by decide) (by decide), vo 35 (by decide), y35, b 35 (by decide) rfl, b 38 (by decide) rfl, b 39 (by decide) rfl, b 40 (by decide) rfl, b 41 (by decide) rfl, b 42 (by decide) rfl]
    · show h 13 1 = _
      rw [xo 13 (by decide) (by decide) (by decide), vo 13 (by decide), y13]
      rfl
    · show h 13 8 = _
      rw [xo 13 (by decide) (by decide) (by decide), vo 13 (by decide), y13]
      exact m2
    · have q := wX_no hx
      have q21 : ¬ x = 21 := fun z => by rw [z] at hx; exact absurd hx (by decide)
      rw [rs_ne q.1, xo x q21 q.2.2.2.2.2.2.2 (by simp [q.2.1, q.2.2.1]), bl x q.2.2.2.1 q.2.2.2.2.1 q.2.2.2.2.2.1 q.2.2.2.2.2.2.1]
  · skip
    have ke := pwork_er e1
    have hk0 : ¬ nI k = 0 := nI_k0 ke.1 ke.2
    show jj_R _ _ kc ks (jj_S, 782, h, g) 85 [(0, .ref 0), (1, .int (nI N))] [] Q
    refine rr_aload_n 0 rfl rfl dX9_work_85 ?_
    refine rr_getR dX9_work_86 fX9_21 lo_0 sh_0 rfl ?_
    refine rr_callV (As := []) (rest := []) (kc2 := 0) (ks2 := 0) dX9_work_89 okX5_empty lX9_114 lo_13 sh_13 rfl rfl (Nat.le_of_ble_eq_true rfl) (Nat.le_of_ble_eq_true rfl) rfl (by omega) (by simp [jj_rk]) (by simp [jj_rk]) ?_
    refine sp_X5_empty  ?_
    show jj_R _ _ kc ks (jj_S, 782, (jj_rs h [(13, (upd (h 13) (1) 0))]), g) 92 [(0, .ref 0), (1, .int (nI N))] [] Q
    refine rr_aload_n 0 rfl rfl dX9_work_92 ?_
    refine rr_getR dX9_work_93 fX9_21 lo_0 sh_0 rfl ?_
    refine rr_getI dX9_work_96 fX9_117 lo_13 sh_13 rfl ?_
    rw [show (jj_rs h [(13, (upd (h 13) (1) 0))]) 13 = (upd (h 13) (1) 0) from rfl]
    rw [show (upd (h 13) (1) 0) 7 = (nI k) from m.1]
    refine rr_if_eq dX9_work_99 (fun c => absurd c hk0) (fun _ => ?_)
    refine rr_aload_n 0 rfl rfl dX9_work_102 ?_
    refine rr_getR dX9_work_103 fX9_21 lo_0 sh_0 rfl ?_
    refine rr_getI dX9_work_106 fX9_117 lo_13 sh_13 rfl ?_
    rw [show (jj_rs h [(13, (upd (h 13) (1) 0))]) 13 = (upd (h 13) (1) 0) from rfl]
    rw [show (upd (h 13) (1) 0) 7 = (nI k) from m.1]
    refine rr_bipush 10 rfl dX9_work_109 ?_
    refine rr_isub dX9_work_111 ?_
    refine rr_ireturn dX9_work_112 rfl ?_
    exact k2 k p h e1 ⟨m.1, m.2.1, fun x hx hx3 => (m.2.2 x hx hx3).trans (ho x hx3)⟩
