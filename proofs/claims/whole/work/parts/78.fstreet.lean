/-! ===== refused calls of texts; the class's STREET ===== -/
def pstreet (c : Nat → Nat) (e : Nat) : Except (Nat × Nat) sT_ := pb (pls c e e 0 ([], 20, fun _ => 0) (spn isB c e 0)) fun z => if e ≤ z.2 then .ok z.1 else .error (1, z.2)
theorem pcl_60 {c : Nat → Nat} {e j a : Nat} {S : sT_} {z : sT_ × Nat} (h : pclause c e j S a = .ok z) : ¬ j = 60 := by
  intro q
  unfold pclause at h
  split at h
  · rw [if_pos (Or.inl q)] at h; cases h
  · split at h
    · first | cases h | (rw [if_pos q] at h; cases h)
    · split at h
      · first | cases h | (rw [if_pos q] at h; cases h)
      · cases h
def strT (h h9 : hp_) (S : sT_) : Prop := h9 13 7 = 0 ∧ h9 13 8 = -1 ∧ h9 15 0 = nI S.1.length ∧ S.1.length ≤ 8 ∧ h9 15 1 = nI S.2.1 ∧ (∀ i, i < S.1.length → h9 20 i = S.2.2 i) ∧ (∀ i z, S.1[i]? = some z → h9 16 i = nI z.1 ∧ h9 17 i = nI z.2.1 ∧ h9 18 i = nI z.2.2.1 ∧ h9 19 i = nI z.2.2.2) ∧ (∀ i, S.1.length ≤ i → S.2.2 i = 0) ∧ ∀ x, pX x = false → ¬ x = 13 → h9 x = h x
def strE (h h9 : hp_) (k p : Nat) : Prop := h9 13 7 = nI k ∧ h9 13 8 = nI p ∧ ∀ x, pX x = false → ¬ x = 13 → h9 x = h x
theorem cf_work_bad {T d kc ks : Nat} {n : Int32} {h : hp_} {g : Nat → Nat → Int64} {Q : jj_Rs → jj_St → Prop} (hT : h 13 1 = nI T) (hb : n < 0 ∨ nI T < n ∨ 150 < n) (kq : Q (.inr "java/lang/IllegalArgumentException") (jj_S, 782, jj_rs h [(0, upd (h 0) 14 (h 0 14 + 1))], g)) : jj_R mX9_work (d + 7) (kc + 1) (ks + 6) (jj_S, 782, h, g) 0 [(0, .ref 0), (1, .int n)] [] Q := by
  refine rr_aload_n 0 rfl rfl dX9_work_0 ?_
  refine rr_iload_n 1 rfl rfl dX9_work_1 ?_
  refine rr_if_lt dX9_work_2 (fun c1 => ?_) (fun c1 => ?_)
  · skip
    refine rr_iconst 0 rfl dX9_work_27 ?_
    refine rr_callV (As := [.int 0]) (rest := []) (kc2 := 1) (ks2 := 6) dX9_work_28 okX9_require lX9_103 lo_0 sh_0 rfl rfl (Nat.le_of_ble_eq_true rfl) (Nat.le_of_ble_eq_true rfl) rfl (by omega) (by simp [jj_rk]) (by simp [jj_rk]) ?_
    refine sp_X9_require (fun c => absurd rfl c) (fun _ => ?_)
    exact kq
  · skip
    refine rr_iload_n 1 rfl rfl dX9_work_5 ?_
    refine rr_aload_n 0 rfl rfl dX9_work_6 ?_
    refine rr_getR dX9_work_7 fX9_21 lo_0 sh_0 rfl ?_
    refine rr_getI dX9_work_10 fX9_99 lo_13 sh_13 rfl ?_
    rw [show (h 13) 1 = (nI T) from hT]
    refine rr_icmp_gt dX9_work_13 (fun c2 => ?_) (fun c2 => ?_)
    · skip
      refine rr_iconst 0 rfl dX9_work_27 ?_
      refine rr_callV (As := [.int 0]) (rest := []) (kc2 := 1) (ks2 := 6) dX9_work_28 okX9_require lX9_103 lo_0 sh_0 rfl rfl (Nat.le_of_ble_eq_true rfl) (Nat.le_of_ble_eq_true rfl) rfl (by omega) (by simp [jj_rk]) (by simp [jj_rk]) ?_
      refine sp_X9_require (fun c => absurd rfl c) (fun _ => ?_)
      exact kq
    · skip
      refine rr_iload_n 1 rfl rfl dX9_work_16 ?_
      refine rr_sipush 150 rfl dX9_work_17 ?_
      refine rr_icmp_gt dX9_work_20 (fun c3 => ?_) (fun c3 => ?_)
      · skip
        refine rr_iconst 0 rfl dX9_work_27 ?_
        refine rr_callV (As := [.int 0]) (rest := []) (kc2 := 1) (ks2 := 6) dX9_work_28 okX9_require lX9_103 lo_0 sh_0 rfl rfl (Nat.le_of_ble_eq_true rfl) (Nat.le_of_ble_eq_true rfl) rfl (by omega) (by simp [jj_rk]) (by simp [jj_rk]) ?_
        refine sp_X9_require (fun c => absurd rfl c) (fun _ => ?_)
        exact kq
      · skip
        refine rr_iconst 1 rfl dX9_work_23 ?_
        refine rr_goto dX9_work_24 ?_
        refine rr_callV (As := [.int 1]) (rest := []) (kc2 := 1) (ks2 := 6) dX9_work_28 okX9_require lX9_103 lo_0 sh_0 rfl rfl (Nat.le_of_ble_eq_true rfl) (Nat.le_of_ble_eq_true rfl) rfl (by omega) (by simp [jj_rk]) (by simp [jj_rk]) ?_
        exfalso
        rcases hb with q | q | q
        · exact c1 q
        · exact c2 q
        · exact c3 q
theorem cf_book_bad {T d kc ks : Nat} {n : Int32} {h : hp_} {g : Nat → Nat → Int64} {Q : jj_Rs → jj_St → Prop} (hT : h 13 1 = nI T) (hb : n < 0 ∨ nI T < n ∨ 60 < n) (kq : Q (.inr "java/lang/IllegalArgumentException") (jj_S, 782, jj_rs h [(0, upd (h 0) 14 (h 0 14 + 1))], g)) : jj_R mX9_book (d + 7) (kc + 1) (ks + 6) (jj_S, 782, h, g) 0 [(0, .ref 0), (1, .int n)] [] Q := by
  refine rr_aload_n 0 rfl rfl dX9_book_0 ?_
  refine rr_iload_n 1 rfl rfl dX9_book_1 ?_
  refine rr_if_lt dX9_book_2 (fun c1 => ?_) (fun c1 => ?_)
  · skip
    refine rr_iconst 0 rfl dX9_book_26 ?_
    refine rr_callV (As := [.int 0]) (rest := []) (kc2 := 1) (ks2 := 6) dX9_book_27 okX9_require lX9_103 lo_0 sh_0 rfl rfl (Nat.le_of_ble_eq_true rfl) (Nat.le_of_ble_eq_true rfl) rfl (by omega) (by simp [jj_rk]) (by simp [jj_rk]) ?_
    refine sp_X9_require (fun c => absurd rfl c) (fun _ => ?_)
    exact kq
  · skip
    refine rr_iload_n 1 rfl rfl dX9_book_5 ?_
    refine rr_aload_n 0 rfl rfl dX9_book_6 ?_
    refine rr_getR dX9_book_7 fX9_21 lo_0 sh_0 rfl ?_
    refine rr_getI dX9_book_10 fX9_99 lo_13 sh_13 rfl ?_
    rw [show (h 13) 1 = (nI T) from hT]
    refine rr_icmp_gt dX9_book_13 (fun c2 => ?_) (fun c2 => ?_)
    · skip
      refine rr_iconst 0 rfl dX9_book_26 ?_
      refine rr_callV (As := [.int 0]) (rest := []) (kc2 := 1) (ks2 := 6) dX9_book_27 okX9_require lX9_103 lo_0 sh_0 rfl rfl (Nat.le_of_ble_eq_true rfl) (Nat.le_of_ble_eq_true rfl) rfl (by omega) (by simp [jj_rk]) (by simp [jj_rk]) ?_
      refine sp_X9_require (fun c => absurd rfl c) (fun _ => ?_)
      exact kq
    · skip
      refine rr_iload_n 1 rfl rfl dX9_book_16 ?_
      refine rr_bipush 60 rfl dX9_book_17 ?_
      refine rr_icmp_gt dX9_book_19 (fun c3 => ?_) (fun c3 => ?_)
      · skip
        refine rr_iconst 0 rfl dX9_book_26 ?_
        refine rr_callV (As := [.int 0]) (rest := []) (kc2 := 1) (ks2 := 6) dX9_book_27 okX9_require lX9_103 lo_0 sh_0 rfl rfl (Nat.le_of_ble_eq_true rfl) (Nat.le_of_ble_eq_true rfl) rfl (by omega) (by simp [jj_rk]) (by simp [jj_rk]) ?_
        refine sp_X9_require (fun c => absurd rfl c) (fun _ => ?_)
        exact kq
      · skip
        refine rr_iconst 1 rfl dX9_book_22 ?_
        refine rr_goto dX9_book_23 ?_
        refine rr_callV (As := [.int 1]) (rest := []) (kc2 := 1) (ks2 := 6) dX9_book_27 okX9_require lX9_103 lo_0 sh_0 rfl rfl (Nat.le_of_ble_eq_true rfl) (Nat.le_of_ble_eq_true rfl) rfl (by omega) (by simp [jj_rk]) (by simp [jj_rk]) ?_
        exfalso
        rcases hb with q | q | q
        · exact c1 q
        · exact c2 q
        · exact c3 q
theorem cf_street_bad {T d kc ks : Nat} {n : Int32} {h : hp_} {g : Nat → Nat → Int64} {Q : jj_Rs → jj_St → Prop} (hT : h 13 1 = nI T) (hb : n < 0 ∨ nI T < n) (kq : Q (.inr "java/lang/IllegalArgumentException") (jj_S, 782, jj_rs h [(0, upd (h 0) 14 (h 0 14 + 1))], g)) : jj_R mX9_street (d + 7) (kc + 1) (ks + 6) (jj_S, 782, h, g) 0 [(0, .ref 0), (1, .int n)] [] Q := by
  refine rr_aload_n 0 rfl rfl dX9_street_0 ?_
  refine rr_iload_n 1 rfl rfl dX9_street_1 ?_
  refine rr_if_lt dX9_street_2 (fun c1 => ?_) (fun c1 => ?_)
  · skip
    refine rr_iconst 0 rfl dX9_street_20 ?_
    refine rr_callV (As := [.int 0]) (rest := []) (kc2 := 1) (ks2 := 6) dX9_street_21 okX9_require lX9_103 lo_0 sh_0 rfl rfl (Nat.le_of_ble_eq_true rfl) (Nat.le_of_ble_eq_true rfl) rfl (by omega) (by simp [jj_rk]) (by simp [jj_rk]) ?_
    refine sp_X9_require (fun c => absurd rfl c) (fun _ => ?_)
    exact kq
  · skip
    refine rr_iload_n 1 rfl rfl dX9_street_5 ?_
    refine rr_aload_n 0 rfl rfl dX9_street_6 ?_
    refine rr_getR dX9_street_7 fX9_21 lo_0 sh_0 rfl ?_
    refine rr_getI dX9_street_10 fX9_99 lo_13 sh_13 rfl ?_
    rw [show (h 13) 1 = (nI T) from hT]
    refine rr_icmp_gt dX9_street_13 (fun c2 => ?_) (fun c2 => ?_)
    · skip
      refine rr_iconst 0 rfl dX9_street_20 ?_
      refine rr_callV (As := [.int 0]) (rest := []) (kc2 := 1) (ks2 := 6) dX9_street_21 okX9_require lX9_103 lo_0 sh_0 rfl rfl (Nat.le_of_ble_eq_true rfl) (Nat.le_of_ble_eq_true rfl) rfl (by omega) (by simp [jj_rk]) (by simp [jj_rk]) ?_
      refine sp_X9_require (fun c => absurd rfl c) (fun _ => ?_)
      exact kq
    · skip
      refine rr_iconst 1 rfl dX9_street_16 ?_
      refine rr_goto dX9_street_17 ?_
      refine rr_callV (As := [.int 1]) (rest := []) (kc2 := 1) (ks2 := 6) dX9_street_21 okX9_require lX9_103 lo_0 sh_0 rfl rfl (Nat.le_of_ble_eq_true rfl) (Nat.le_of_ble_eq_true rfl) rfl (by omega) (by simp [jj_rk]) (by simp [jj_rk]) ?_
      exfalso
      rcases hb with q | q
      · exact c1 q
      · exact c2 q
theorem rf_law_bad {T D kc ks : Nat} {n : Int32} {h : hp_} {g : Nat → Nat → Int64} {Q : jj_Rs → jj_St → Prop} (hD : 1 ≤ D) (hT : h 49 1 = nI T) (hb : n < 0 ∨ nI T < n ∨ 150 < n) (kq : Q (.inl (some (.int 0))) (jj_S, 782, jj_rs h [(49, upd (upd (h 49) 0 0) 0 1), (51, upd (h 51) 1 (h 51 1 + 1))], g)) : jj_R mX10_law D kc ks (jj_S, 782, h, g) 0 [(0, .ref 49), (1, .int n)] [] Q := by
  obtain ⟨d, rfl⟩ : ∃ d, D = d + 1 := ⟨D - 1, by omega⟩
  refine rr_aload_n 0 rfl rfl dX10_law_0 ?_
  refine rr_iconst 0 rfl dX10_law_1 ?_
  refine rr_putI dX10_law_2 fX10_95 ni10_0 lo_49 sh_49 rfl ?_
  rw [jj_rs_set0 (B := h) (o := 49) (r := (h 49)) rfl]
  refine rr_aload_n 0 rfl rfl dX10_law_5 ?_
  refine rr_iload_n 1 rfl rfl dX10_law_6 ?_
  refine rr_iconst 0 rfl dX10_law_7 ?_
  refine rr_aload_n 0 rfl rfl dX10_law_8 ?_
  refine rr_getI dX10_law_9 fX10_98 lo_49 sh_49 rfl ?_
  rw [show (jj_rs h [(49, (upd (h 49) (0) 0))]) 49 = (upd (h 49) (0) 0) from rfl]
  rw [show (upd (h 49) (0) 0) 1 = (nI T) from hT]
  refine rr_callS (As := [.int n, .int 0, .int (nI T)]) (rest := [.ref 49]) (kc2 := 0) (ks2 := 0) dX10_law_12 okX10_in lX10_129 rfl (Nat.le_of_ble_eq_true rfl) (Nat.le_of_ble_eq_true rfl) rfl (by omega) (by simp [jj_rk]) (by simp [jj_rk]) ?_
  refine sp_X10_in  ?_
  show jj_R _ _ kc ks (jj_S, 782, (jj_rs h [(49, (upd (h 49) (0) 0))]), g) 15 [(0, .ref 49), (1, .int n)] [.int (vX10_in n 0 (nI T)), .ref 49] Q
  refine rr_if_eq dX10_law_15 (fun c1 => ?_) (fun c1 => ?_)
  · skip
    refine rr_iconst 1 rfl dX10_law_25 ?_
    refine rr_goto dX10_law_26 ?_
    refine rr_iconst 1 rfl dX10_law_30 ?_
    refine rr_iconst 1 rfl dX10_law_31 ?_
    refine rr_callV (As := [.int 1, .int 1, .int 1]) (rest := []) (kc2 := 0) (ks2 := 0) dX10_law_32 okX10_bad lX10_171 lo_49 sh_49 rfl rfl (Nat.le_of_ble_eq_true rfl) (Nat.le_of_ble_eq_true rfl) rfl (by omega) (by simp [jj_rk]) (by simp [jj_rk]) ?_
    refine sp_X10_bad1_11 (jj_ueq rfl) ?_
    show jj_R _ _ kc ks (jj_S, 782, jj_rs (jj_rs h [(49, upd (h 49) 0 0)]) [(49, upd (upd (h 49) 0 0) 0 1), (51, upd (h 51) 1 (h 51 1 + 1))], g) 35 [(0, .ref 49), (1, .int n)] [.int 1] Q
    refine rr_if_eq dX10_law_35 (fun c => absurd c (by decide)) (fun _ => ?_)
    refine rr_iconst 0 rfl dX10_law_38 ?_
    refine rr_ireturn dX10_law_39 rfl ?_
    refine jj_Qh (jj_rs_rs (B := h) (L := [(49, upd (h 49) 0 0)]) (M := [(49, upd (upd (h 49) 0 0) 0 1), (51, upd (h 51) 1 (h 51 1 + 1))]) (L2 := [(49, upd (upd (h 49) 0 0) 0 1), (51, upd (h 51) 1 (h 51 1 + 1))]) rfl) ?_
    exact kq
  · skip
    refine rr_iload_n 1 rfl rfl dX10_law_18 ?_
    refine rr_sipush 150 rfl dX10_law_19 ?_
    refine rr_icmp_le dX10_law_22 (fun c2 => ?_) (fun c2 => ?_)
    · skip
      refine rr_iconst 0 rfl dX10_law_29 ?_
      refine rr_iconst 1 rfl dX10_law_30 ?_
      refine rr_iconst 1 rfl dX10_law_31 ?_
      refine rr_callV (As := [.int 0, .int 1, .int 1]) (rest := []) (kc2 := 0) (ks2 := 0) dX10_law_32 okX10_bad lX10_171 lo_49 sh_49 rfl rfl (Nat.le_of_ble_eq_true rfl) (Nat.le_of_ble_eq_true rfl) rfl (by omega) (by simp [jj_rk]) (by simp [jj_rk]) ?_
      exfalso
      unfold vX10_in at c1
      rcases hb with q | q | q
      · rw [if_pos q] at c1; exact c1 rfl
      · by_cases q0 : n < 0
        · rw [if_pos q0] at c1; exact c1 rfl
        · rw [if_neg q0, if_pos q] at c1; exact c1 rfl
      · exact absurd c2 (Int32.not_le.mpr q)
    · skip
      refine rr_iconst 1 rfl dX10_law_25 ?_
      refine rr_goto dX10_law_26 ?_
      refine rr_iconst 1 rfl dX10_law_30 ?_
      refine rr_iconst 1 rfl dX10_law_31 ?_
      refine rr_callV (As := [.int 1, .int 1, .int 1]) (rest := []) (kc2 := 0) (ks2 := 0) dX10_law_32 okX10_bad lX10_171 lo_49 sh_49 rfl rfl (Nat.le_of_ble_eq_true rfl) (Nat.le_of_ble_eq_true rfl) rfl (by omega) (by simp [jj_rk]) (by simp [jj_rk]) ?_
      refine sp_X10_bad1_11 (jj_ueq rfl) ?_
      show jj_R _ _ kc ks (jj_S, 782, jj_rs (jj_rs h [(49, upd (h 49) 0 0)]) [(49, upd (upd (h 49) 0 0) 0 1), (51, upd (h 51) 1 (h 51 1 + 1))], g) 35 [(0, .ref 49), (1, .int n)] [.int 1] Q
      refine rr_if_eq dX10_law_35 (fun c => absurd c (by decide)) (fun _ => ?_)
      refine rr_iconst 0 rfl dX10_law_38 ?_
      refine rr_ireturn dX10_law_39 rfl ?_
      refine jj_Qh (jj_rs_rs (B := h) (L := [(49, upd (h 49) 0 0)]) (M := [(49, upd (upd (h 49) 0 0) 0 1), (51, upd (h 51) 1 (h 51 1 + 1))]) (L2 := [(49, upd (upd (h 49) 0 0) 0 1), (51, upd (h 51) 1 (h 51 1 + 1))]) rfl) ?_
      exact kq
theorem rf_work_bad {T D kc ks : Nat} {n : Int32} {h : hp_} {g : Nat → Nat → Int64} {Q : jj_Rs → jj_St → Prop} (hD : 1 ≤ D) (hT : h 49 1 = nI T) (hb : n < 0 ∨ nI T < n ∨ 150 < n) (kq : Q (.inl (some (.int 0))) (jj_S, 782, jj_rs h [(49, upd (upd (h 49) 0 0) 0 1), (51, upd (h 51) 1 (h 51 1 + 1))], g)) : jj_R mX10_work D kc ks (jj_S, 782, h, g) 0 [(0, .ref 49), (1, .int n)] [] Q := by
  obtain ⟨d, rfl⟩ : ∃ d, D = d + 1 := ⟨D - 1, by omega⟩
  refine rr_aload_n 0 rfl rfl dX10_work_0 ?_
  refine rr_iconst 0 rfl dX10_work_1 ?_
  refine rr_putI dX10_work_2 fX10_95 ni10_0 lo_49 sh_49 rfl ?_
  rw [jj_rs_set0 (B := h) (o := 49) (r := (h 49)) rfl]
  refine rr_aload_n 0 rfl rfl dX10_work_5 ?_
  refine rr_iload_n 1 rfl rfl dX10_work_6 ?_
  refine rr_iconst 0 rfl dX10_work_7 ?_
  refine rr_aload_n 0 rfl rfl dX10_work_8 ?_
  refine rr_getI dX10_work_9 fX10_98 lo_49 sh_49 rfl ?_
  rw [show (jj_rs h [(49, (upd (h 49) (0) 0))]) 49 = (upd (h 49) (0) 0) from rfl]
  rw [show (upd (h 49) (0) 0) 1 = (nI T) from hT]
  refine rr_callS (As := [.int n, .int 0, .int (nI T)]) (rest := [.ref 49]) (kc2 := 0) (ks2 := 0) dX10_work_12 okX10_in lX10_129 rfl (Nat.le_of_ble_eq_true rfl) (Nat.le_of_ble_eq_true rfl) rfl (by omega) (by simp [jj_rk]) (by simp [jj_rk]) ?_
  refine sp_X10_in  ?_
  show jj_R _ _ kc ks (jj_S, 782, (jj_rs h [(49, (upd (h 49) (0) 0))]), g) 15 [(0, .ref 49), (1, .int n)] [.int (vX10_in n 0 (nI T)), .ref 49] Q
  refine rr_if_eq dX10_work_15 (fun c1 => ?_) (fun c1 => ?_)
  · skip
    refine rr_iconst 1 rfl dX10_work_25 ?_
    refine rr_goto dX10_work_26 ?_
    refine rr_iconst 1 rfl dX10_work_30 ?_
    refine rr_iconst 1 rfl dX10_work_31 ?_
    refine rr_callV (As := [.int 1, .int 1, .int 1]) (rest := []) (kc2 := 0) (ks2 := 0) dX10_work_32 okX10_bad lX10_171 lo_49 sh_49 rfl rfl (Nat.le_of_ble_eq_true rfl) (Nat.le_of_ble_eq_true rfl) rfl (by omega) (by simp [jj_rk]) (by simp [jj_rk]) ?_
    refine sp_X10_bad1_11 (jj_ueq rfl) ?_
    show jj_R _ _ kc ks (jj_S, 782, jj_rs (jj_rs h [(49, upd (h 49) 0 0)]) [(49, upd (upd (h 49) 0 0) 0 1), (51, upd (h 51) 1 (h 51 1 + 1))], g) 35 [(0, .ref 49), (1, .int n)] [.int 1] Q
    refine rr_if_eq dX10_work_35 (fun c => absurd c (by decide)) (fun _ => ?_)
    refine rr_iconst 0 rfl dX10_work_38 ?_
    refine rr_ireturn dX10_work_39 rfl ?_
    refine jj_Qh (jj_rs_rs (B := h) (L := [(49, upd (h 49) 0 0)]) (M := [(49, upd (upd (h 49) 0 0) 0 1), (51, upd (h 51) 1 (h 51 1 + 1))]) (L2 := [(49, upd (upd (h 49) 0 0) 0 1), (51, upd (h 51) 1 (h 51 1 + 1))]) rfl) ?_
    exact kq
  · skip
    refine rr_iload_n 1 rfl rfl dX10_work_18 ?_
    refine rr_sipush 150 rfl dX10_work_19 ?_
    refine rr_icmp_le dX10_work_22 (fun c2 => ?_) (fun c2 => ?_)
    · skip
      refine rr_iconst 0 rfl dX10_work_29 ?_
      refine rr_iconst 1 rfl dX10_work_30 ?_
      refine rr_iconst 1 rfl dX10_work_31 ?_
      refine rr_callV (As := [.int 0, .int 1, .int 1]) (rest := []) (kc2 := 0) (ks2 := 0) dX10_work_32 okX10_bad lX10_171 lo_49 sh_49 rfl rfl (Nat.le_of_ble_eq_true rfl) (Nat.le_of_ble_eq_true rfl) rfl (by omega) (by simp [jj_rk]) (by simp [jj_rk]) ?_
      exfalso
      unfold vX10_in at c1
      rcases hb with q | q | q
      · rw [if_pos q] at c1; exact c1 rfl
      · by_cases q0 : n < 0
        · rw [if_pos q0] at c1; exact c1 rfl
        · rw [if_neg q0, if_pos q] at c1; exact c1 rfl
      · exact absurd c2 (Int32.not_le.mpr q)
    · skip
      refine rr_iconst 1 rfl dX10_work_25 ?_
      refine rr_goto dX10_work_26 ?_
      refine rr_iconst 1 rfl dX10_work_30 ?_
      refine rr_iconst 1 rfl dX10_work_31 ?_
      refine rr_callV (As := [.int 1, .int 1, .int 1]) (rest := []) (kc2 := 0) (ks2 := 0) dX10_work_32 okX10_bad lX10_171 lo_49 sh_49 rfl rfl (Nat.le_of_ble_eq_true rfl) (Nat.le_of_ble_eq_true rfl) rfl (by omega) (by simp [jj_rk]) (by simp [jj_rk]) ?_
      refine sp_X10_bad1_11 (jj_ueq rfl) ?_
      show jj_R _ _ kc ks (jj_S, 782, jj_rs (jj_rs h [(49, upd (h 49) 0 0)]) [(49, upd (upd (h 49) 0 0) 0 1), (51, upd (h 51) 1 (h 51 1 + 1))], g) 35 [(0, .ref 49), (1, .int n)] [.int 1] Q
      refine rr_if_eq dX10_work_35 (fun c => absurd c (by decide)) (fun _ => ?_)
      refine rr_iconst 0 rfl dX10_work_38 ?_
      refine rr_ireturn dX10_work_39 rfl ?_
      refine jj_Qh (jj_rs_rs (B := h) (L := [(49, upd (h 49) 0 0)]) (M := [(49, upd (upd (h 49) 0 0) 0 1), (51, upd (h 51) 1 (h 51 1 + 1))]) (L2 := [(49, upd (upd (h 49) 0 0) 0 1), (51, upd (h 51) 1 (h 51 1 + 1))]) rfl) ?_
      exact kq
theorem rf_book_bad {T D kc ks : Nat} {n : Int32} {h : hp_} {g : Nat → Nat → Int64} {Q : jj_Rs → jj_St → Prop} (hD : 1 ≤ D) (hT : h 49 1 = nI T) (hb : n < 0 ∨ nI T < n ∨ 60 < n) (kq : Q (.inl (some (.int 0))) (jj_S, 782, jj_rs h [(49, upd (upd (h 49) 0 0) 0 1), (51, upd (h 51) 1 (h 51 1 + 1))], g)) : jj_R mX10_book D kc ks (jj_S, 782, h, g) 0 [(0, .ref 49), (1, .int n)] [] Q := by
  obtain ⟨d, rfl⟩ : ∃ d, D = d + 1 := ⟨D - 1, by omega⟩
  refine rr_aload_n 0 rfl rfl dX10_book_0 ?_
  refine rr_iconst 0 rfl dX10_book_1 ?_
  refine rr_putI dX10_book_2 fX10_95 ni10_0 lo_49 sh_49 rfl ?_
  rw [jj_rs_set0 (B := h) (o := 49) (r := (h 49)) rfl]
  refine rr_aload_n 0 rfl rfl dX10_book_5 ?_
  refine rr_iload_n 1 rfl rfl dX10_book_6 ?_
  refine rr_iconst 0 rfl dX10_book_7 ?_
  refine rr_aload_n 0 rfl rfl dX10_book_8 ?_
  refine rr_getI dX10_book_9 fX10_98 lo_49 sh_49 rfl ?_
  rw [show (jj_rs h [(49, (upd (h 49) (0) 0))]) 49 = (upd (h 49) (0) 0) from rfl]
  rw [show (upd (h 49) (0) 0) 1 = (nI T) from hT]
  refine rr_callS (As := [.int n, .int 0, .int (nI T)]) (rest := [.ref 49]) (kc2 := 0) (ks2 := 0) dX10_book_12 okX10_in lX10_129 rfl (Nat.le_of_ble_eq_true rfl) (Nat.le_of_ble_eq_true rfl) rfl (by omega) (by simp [jj_rk]) (by simp [jj_rk]) ?_
  refine sp_X10_in  ?_
  show jj_R _ _ kc ks (jj_S, 782, (jj_rs h [(49, (upd (h 49) (0) 0))]), g) 15 [(0, .ref 49), (1, .int n)] [.int (vX10_in n 0 (nI T)), .ref 49] Q
  refine rr_if_eq dX10_book_15 (fun c1 => ?_) (fun c1 => ?_)
  · skip
    refine rr_iconst 1 rfl dX10_book_24 ?_
    refine rr_goto dX10_book_25 ?_
    refine rr_iconst 1 rfl dX10_book_29 ?_
    refine rr_iconst 1 rfl dX10_book_30 ?_
    refine rr_callV (As := [.int 1, .int 1, .int 1]) (rest := []) (kc2 := 0) (ks2 := 0) dX10_book_31 okX10_bad lX10_171 lo_49 sh_49 rfl rfl (Nat.le_of_ble_eq_true rfl) (Nat.le_of_ble_eq_true rfl) rfl (by omega) (by simp [jj_rk]) (by simp [jj_rk]) ?_
    refine sp_X10_bad1_11 (jj_ueq rfl) ?_
    show jj_R _ _ kc ks (jj_S, 782, jj_rs (jj_rs h [(49, upd (h 49) 0 0)]) [(49, upd (upd (h 49) 0 0) 0 1), (51, upd (h 51) 1 (h 51 1 + 1))], g) 34 [(0, .ref 49), (1, .int n)] [.int 1] Q
    refine rr_if_eq dX10_book_34 (fun c => absurd c (by decide)) (fun _ => ?_)
    refine rr_iconst 0 rfl dX10_book_37 ?_
    refine rr_ireturn dX10_book_38 rfl ?_
    refine jj_Qh (jj_rs_rs (B := h) (L := [(49, upd (h 49) 0 0)]) (M := [(49, upd (upd (h 49) 0 0) 0 1), (51, upd (h 51) 1 (h 51 1 + 1))]) (L2 := [(49, upd (upd (h 49) 0 0) 0 1), (51, upd (h 51) 1 (h 51 1 + 1))]) rfl) ?_
    exact kq
  · skip
    refine rr_iload_n 1 rfl rfl dX10_book_18 ?_
    refine rr_bipush 60 rfl dX10_book_19 ?_
    refine rr_icmp_le dX10_book_21 (fun c2 => ?_) (fun c2 => ?_)
    · skip
      refine rr_iconst 0 rfl dX10_book_28 ?_
      refine rr_iconst 1 rfl dX10_book_29 ?_
      refine rr_iconst 1 rfl dX10_book_30 ?_
      refine rr_callV (As := [.int 0, .int 1, .int 1]) (rest := []) (kc2 := 0) (ks2 := 0) dX10_book_31 okX10_bad lX10_171 lo_49 sh_49 rfl rfl (Nat.le_of_ble_eq_true rfl) (Nat.le_of_ble_eq_true rfl) rfl (by omega) (by simp [jj_rk]) (by simp [jj_rk]) ?_
      exfalso
      unfold vX10_in at c1
      rcases hb with q | q | q
      · rw [if_pos q] at c1; exact c1 rfl
      · by_cases q0 : n < 0
        · rw [if_pos q0] at c1; exact c1 rfl
        · rw [if_neg q0, if_pos q] at c1; exact c1 rfl
      · exact absurd c2 (Int32.not_le.mpr q)
    · skip
      refine rr_iconst 1 rfl dX10_book_24 ?_
      refine rr_goto dX10_book_25 ?_
      refine rr_iconst 1 rfl dX10_book_29 ?_
      refine rr_iconst 1 rfl dX10_book_30 ?_
      refine rr_callV (As := [.int 1, .int 1, .int 1]) (rest := []) (kc2 := 0) (ks2 := 0) dX10_book_31 okX10_bad lX10_171 lo_49 sh_49 rfl rfl (Nat.le_of_ble_eq_true rfl) (Nat.le_of_ble_eq_true rfl) rfl (by omega) (by simp [jj_rk]) (by simp [jj_rk]) ?_
      refine sp_X10_bad1_11 (jj_ueq rfl) ?_
      show jj_R _ _ kc ks (jj_S, 782, jj_rs (jj_rs h [(49, upd (h 49) 0 0)]) [(49, upd (upd (h 49) 0 0) 0 1), (51, upd (h 51) 1 (h 51 1 + 1))], g) 34 [(0, .ref 49), (1, .int n)] [.int 1] Q
      refine rr_if_eq dX10_book_34 (fun c => absurd c (by decide)) (fun _ => ?_)
      refine rr_iconst 0 rfl dX10_book_37 ?_
      refine rr_ireturn dX10_book_38 rfl ?_
      refine jj_Qh (jj_rs_rs (B := h) (L := [(49, upd (h 49) 0 0)]) (M := [(49, upd (upd (h 49) 0 0) 0 1), (51, upd (h 51) 1 (h 51 1 + 1))]) (L2 := [(49, upd (upd (h 49) 0 0) 0 1), (51, upd (h 51) 1 (h 51 1 + 1))]) rfl) ?_
      exact kq
theorem rf_street_bad {T D kc ks : Nat} {n : Int32} {h : hp_} {g : Nat → Nat → Int64} {Q : jj_Rs → jj_St → Prop} (hD : 1 ≤ D) (hT : h 49 1 = nI T) (hb : n < 0 ∨ nI T < n) (kq : Q (.inl (some (.int 0))) (jj_S, 782, jj_rs h [(49, upd (upd (h 49) 0 0) 0 1), (51, upd (h 51) 1 (h 51 1 + 1))], g)) : jj_R mX10_street D kc ks (jj_S, 782, h, g) 0 [(0, .ref 49), (1, .int n)] [] Q := by
  obtain ⟨d, rfl⟩ : ∃ d, D = d + 1 := ⟨D - 1, by omega⟩
  refine rr_aload_n 0 rfl rfl dX10_street_0 ?_
  refine rr_iconst 0 rfl dX10_street_1 ?_
  refine rr_putI dX10_street_2 fX10_95 ni10_0 lo_49 sh_49 rfl ?_
  rw [jj_rs_set0 (B := h) (o := 49) (r := (h 49)) rfl]
  refine rr_aload_n 0 rfl rfl dX10_street_5 ?_
  refine rr_iload_n 1 rfl rfl dX10_street_6 ?_
  refine rr_iconst 0 rfl dX10_street_7 ?_
  refine rr_aload_n 0 rfl rfl dX10_street_8 ?_
  refine rr_getI dX10_street_9 fX10_98 lo_49 sh_49 rfl ?_
  rw [show (jj_rs h [(49, (upd (h 49) (0) 0))]) 49 = (upd (h 49) (0) 0) from rfl]
  rw [show (upd (h 49) (0) 0) 1 = (nI T) from hT]
  refine rr_callS (As := [.int n, .int 0, .int (nI T)]) (rest := [.ref 49]) (kc2 := 0) (ks2 := 0) dX10_street_12 okX10_in lX10_129 rfl (Nat.le_of_ble_eq_true rfl) (Nat.le_of_ble_eq_true rfl) rfl (by omega) (by simp [jj_rk]) (by simp [jj_rk]) ?_
  refine sp_X10_in  ?_
  show jj_R _ _ kc ks (jj_S, 782, (jj_rs h [(49, (upd (h 49) (0) 0))]), g) 15 [(0, .ref 49), (1, .int n)] [.int (vX10_in n 0 (nI T)), .ref 49] Q
  refine rr_if_ne dX10_street_15 (fun c1 => ?_) (fun c1 => ?_)
  · skip
    refine rr_iconst 0 rfl dX10_street_22 ?_
    refine rr_iconst 1 rfl dX10_street_23 ?_
    refine rr_iconst 1 rfl dX10_street_24 ?_
    refine rr_callV (As := [.int 0, .int 1, .int 1]) (rest := []) (kc2 := 0) (ks2 := 0) dX10_street_25 okX10_bad lX10_171 lo_49 sh_49 rfl rfl (Nat.le_of_ble_eq_true rfl) (Nat.le_of_ble_eq_true rfl) rfl (by omega) (by simp [jj_rk]) (by simp [jj_rk]) ?_
    exfalso
    unfold vX10_in at c1
    rcases hb with q | q
    · rw [if_pos q] at c1; exact c1 rfl
    · by_cases q0 : n < 0
      · rw [if_pos q0] at c1; exact c1 rfl
      · rw [if_neg q0, if_pos q] at c1; exact c1 rfl
  · skip
    refine rr_iconst 1 rfl dX10_street_18 ?_
    refine rr_goto dX10_street_19 ?_
    refine rr_iconst 1 rfl dX10_street_23 ?_
    refine rr_iconst 1 rfl dX10_street_24 ?_
    refine rr_callV (As := [.int 1, .int 1, .int 1]) (rest := []) (kc2 := 0) (ks2 := 0) dX10_street_25 okX10_bad lX10_171 lo_49 sh_49 rfl rfl (Nat.le_of_ble_eq_true rfl) (Nat.le_of_ble_eq_true rfl) rfl (by omega) (by simp [jj_rk]) (by simp [jj_rk]) ?_
    refine sp_X10_bad1_11 (jj_ueq rfl) ?_
    show jj_R _ _ kc ks (jj_S, 782, jj_rs (jj_rs h [(49, upd (h 49) 0 0)]) [(49, upd (upd (h 49) 0 0) 0 1), (51, upd (h 51) 1 (h 51 1 + 1))], g) 28 [(0, .ref 49), (1, .int n)] [.int 1] Q
    refine rr_if_eq dX10_street_28 (fun c => absurd c (by decide)) (fun _ => ?_)
    refine rr_iconst 0 rfl dX10_street_31 ?_
    refine rr_ireturn dX10_street_32 rfl ?_
    refine jj_Qh (jj_rs_rs (B := h) (L := [(49, upd (h 49) 0 0)]) (M := [(49, upd (upd (h 49) 0 0) 0 1), (51, upd (h 51) 1 (h 51 1 + 1))]) (L2 := [(49, upd (upd (h 49) 0 0) 0 1), (51, upd (h 51) 1 (h 51 1 + 1))]) rfl) ?_
    exact kq
set_option maxHeartbeats 2000000 in
theorem ct_loop {c : Nat → Nat} {e : Nat} (he6 : e ≤ 600) (f : Nat) : ∀ {D kc ks a j : Nat} {S : sT_} {h0 h : hp_} {g : Nat → Nat → Int64} {Q : jj_Rs → jj_St → Prop}, 6 ≤ D → e - a ≤ f → j ≤ 60 → cts c e S [] h0 a h → (∀ S2 b h9, pls c e f j S a = .ok (S2, b) → a ≤ b → cts c e S2 [] h0 b h9 → jj_R mX7_readFrom D kc ks (jj_S, 782, h9, g) 54 [(0, .ref 15), (1, .ref 13)] [] Q) → (∀ k p h9, pls c e f j S a = .error (k, p) → cte h0 k p h9 → Q (.inl none) (jj_S, 782, h9, g)) → jj_R mX7_readFrom D kc ks (jj_S, 782, h, g) 13 [(0, .ref 15), (1, .ref 13), (2, .int (nI j))] [] Q := by
  induction f with
  | zero =>
    intro D0 kc ks a j S h0 h g Q hD hm hj m k1 k2
    obtain ⟨d, rfl⟩ : ∃ d, D0 = d + 6 := ⟨D0 - 6, by omega⟩
    refine rr_iload_n 2 rfl rfl dX7_readFrom_13 ?_
    refine rr_sipush 600 rfl dX7_readFrom_14 ?_
    refine rr_icmp_ge dX7_readFrom_17 (fun c => absurd c (fun q => absurd ((nI_leI (a := 600) (by decide) (by omega)).mp q) (by omega))) (fun _ => ?_)
    refine rr_aload_n 1 rfl rfl dX7_readFrom_20 ?_
    refine rr_getI dX7_readFrom_21 fX7_40 lo_13 sh_13 rfl ?_
    rw [show (h 13) 4 = (nI (kd c e a)) from m.1.2.1.2.2.2.2.1]
    refine rr_iconst 2 rfl dX7_readFrom_24 ?_
    refine rr_icmp_ne dX7_readFrom_25 (fun c1 => ?_) (fun c1 => ?_)
    · skip
      have hop : ¬ kd c e a = 2 := fun q => by
        rw [q] at c1
        exact c1 rfl
      refine rr_drop (ls := [(0, .ref 15), (1, .ref 13)]) [0, 1] rfl ?_
      exact k1 S a h (pls_0 hop _) (Nat.le_refl a) m
    · skip
      have k2x : kd c e a = 2 := (nI_eq (a := kd c e a) (b := 2) (by have := kd_lt (c := c) (e := e) (a := a); omega) (by decide)).mp c1
      have ae := kd_in (c := c) (e := e) (a := a) (by omega)
      exact absurd ae (by omega)
  | succ f ih =>
    intro D0 kc ks a j S h0 h g Q hD hm hj m k1 k2
    obtain ⟨d, rfl⟩ : ∃ d, D0 = d + 6 := ⟨D0 - 6, by omega⟩
    refine rr_iload_n 2 rfl rfl dX7_readFrom_13 ?_
    refine rr_sipush 600 rfl dX7_readFrom_14 ?_
    refine rr_icmp_ge dX7_readFrom_17 (fun c => absurd c (fun q => absurd ((nI_leI (a := 600) (by decide) (by omega)).mp q) (by omega))) (fun _ => ?_)
    refine rr_aload_n 1 rfl rfl dX7_readFrom_20 ?_
    refine rr_getI dX7_readFrom_21 fX7_40 lo_13 sh_13 rfl ?_
    rw [show (h 13) 4 = (nI (kd c e a)) from m.1.2.1.2.2.2.2.1]
    refine rr_iconst 2 rfl dX7_readFrom_24 ?_
    refine rr_icmp_ne dX7_readFrom_25 (fun c1 => ?_) (fun c1 => ?_)
    · skip
      have hop : ¬ kd c e a = 2 := fun q => by
        rw [q] at c1
        exact c1 rfl
      refine rr_drop (ls := [(0, .ref 15), (1, .ref 13)]) [0, 1] rfl ?_
      exact k1 S a h (pls_0 hop _) (Nat.le_refl a) m
    · skip
      have k2x : kd c e a = 2 := (nI_eq (a := kd c e a) (b := 2) (by have := kd_lt (c := c) (e := e) (a := a); omega) (by decide)).mp c1
      have ae := kd_in (c := c) (e := e) (a := a) (by omega)
      refine rr_aload_n 0 rfl rfl dX7_readFrom_28 ?_
      refine rr_aload_n 1 rfl rfl dX7_readFrom_29 ?_
      refine rr_iload_n 2 rfl rfl dX7_readFrom_30 ?_
      refine rr_bipush 60 rfl dX7_readFrom_31 ?_
      refine rr_icmp_lt dX7_readFrom_33 (fun c2 => ?_) (fun c2 => ?_)
      · skip
        refine rr_iconst 0 rfl dX7_readFrom_40 ?_
        refine rr_callV (As := [.ref 13, .int 0]) (rest := []) (kc2 := 0) (ks2 := 0) dX7_readFrom_41 okX7_readClause lX7_45 lo_15 sh_15 rfl rfl (Nat.le_of_ble_eq_true rfl) (Nat.le_of_ble_eq_true rfl) rfl (by omega) (by simp [jj_rk]) (by simp [jj_rk]) ?_
        have ht : (0 : Int32) = if j = 60 then 1 else 0 := by
          rw [if_neg]
          intro q
          rw [q] at c2
          exact absurd c2 (by decide)
        refine ct_clause (j := j) he6 (by omega) ht m k2x (fun S2 b2 h e1 hb2 m => ?_) (fun k p h e1 m => ?_)
        · skip
          rw [pls_s k2x, pb_ok e1] at k1 k2
          show jj_R _ _ kc ks (jj_S, 782, h, g) 44 [(0, .ref 15), (1, .ref 13), (2, .int (nI j))] [.int 1] Q
          refine rr_if_ne dX7_readFrom_44 (fun _ => ?_) (fun c => absurd c (by decide))
          refine rr_iinc 2 1 [(0, .ref 15), (1, .ref 13), (2, .int ((nI j) + 1))] dX7_readFrom_48 rfl rfl (by decide) rfl ?_
          refine rr_goto dX7_readFrom_51 ?_
          rw [nI_1]
          have j6 := pcl_60 e1
          refine ih (j := j + 1) hD (by omega) (by omega) m (fun S9 b9 h9 q1 q2 q3 => k1 S9 b9 h9 q1 (by omega) q3) k2
        · skip
          rw [pls_s k2x, pb_er e1] at k2
          show jj_R _ _ kc ks (jj_S, 782, h, g) 44 [(0, .ref 15), (1, .ref 13), (2, .int (nI j))] [.int 0] Q
          refine rr_if_ne dX7_readFrom_44 (fun c => absurd c (by decide)) (fun _ => ?_)
          refine rr_return dX7_readFrom_47 rfl ?_
          exact k2 k p h rfl m
      · skip
        refine rr_iconst 1 rfl dX7_readFrom_36 ?_
        refine rr_goto dX7_readFrom_37 ?_
        refine rr_callV (As := [.ref 13, .int 1]) (rest := []) (kc2 := 0) (ks2 := 0) dX7_readFrom_41 okX7_readClause lX7_45 lo_15 sh_15 rfl rfl (Nat.le_of_ble_eq_true rfl) (Nat.le_of_ble_eq_true rfl) rfl (by omega) (by simp [jj_rk]) (by simp [jj_rk]) ?_
        have ht : (1 : Int32) = if j = 60 then 1 else 0 := by
          rw [if_pos]
          rcases Nat.lt_or_ge j 60 with q | q
          · exact absurd (nI_lt q (by decide)) c2
          · omega
        refine ct_clause (j := j) he6 (by omega) ht m k2x (fun S2 b2 h e1 hb2 m => ?_) (fun k p h e1 m => ?_)
        · skip
          rw [pls_s k2x, pb_ok e1] at k1 k2
          show jj_R _ _ kc ks (jj_S, 782, h, g) 44 [(0, .ref 15), (1, .ref 13), (2, .int (nI j))] [.int 1] Q
          refine rr_if_ne dX7_readFrom_44 (fun _ => ?_) (fun c => absurd c (by decide))
          refine rr_iinc 2 1 [(0, .ref 15), (1, .ref 13), (2, .int ((nI j) + 1))] dX7_readFrom_48 rfl rfl (by decide) rfl ?_
          refine rr_goto dX7_readFrom_51 ?_
          rw [nI_1]
          have j6 := pcl_60 e1
          refine ih (j := j + 1) hD (by omega) (by omega) m (fun S9 b9 h9 q1 q2 q3 => k1 S9 b9 h9 q1 (by omega) q3) k2
        · skip
          rw [pls_s k2x, pb_er e1] at k2
          show jj_R _ _ kc ks (jj_S, 782, h, g) 44 [(0, .ref 15), (1, .ref 13), (2, .int (nI j))] [.int 0] Q
          refine rr_if_ne dX7_readFrom_44 (fun c => absurd c (by decide)) (fun _ => ?_)
          refine rr_return dX7_readFrom_47 rfl ?_
          exact k2 k p h rfl m
set_option maxHeartbeats 2000000 in
theorem cl_street {c : Nat → Nat} {e D kc ks : Nat} {h : hp_} {g : Nat → Nat → Int64} {Q : jj_Rs → jj_St → Prop} (he6 : e ≤ 600) (hD : 6 ≤ D) (m : cst c e (spn isB c e 0) h) (h8 : h 13 8 = -1) (k1 : ∀ S h9, pstreet c e = .ok S → strT h h9 S → Q (.inl none) (jj_S, 782, h9, g)) (k2 : ∀ k p h9, pstreet c e = .error (k, p) → strE h h9 k p → Q (.inl none) (jj_S, 782, h9, g)) : jj_R mX7_readFrom D kc ks (jj_S, 782, h, g) 0 [(0, .ref 15), (1, .ref 13)] [] Q := by
  obtain ⟨d, rfl⟩ : ∃ d, D = d + 6 := ⟨D - 6, by omega⟩
  refine rr_aload_n 0 rfl rfl dX7_readFrom_0 ?_
  refine rr_iconst 0 rfl dX7_readFrom_1 ?_
  refine rr_putI dX7_readFrom_2 fX7_31 ni7_0 lo_15 sh_15 rfl ?_
  rw [jj_rs_set0 (B := h) (o := 15) (r := (h 15)) rfl]
  refine rr_aload_n 0 rfl rfl dX7_readFrom_5 ?_
  refine rr_bipush 20 rfl dX7_readFrom_6 ?_
  refine rr_putI dX7_readFrom_8 fX7_9 ni7_1 lo_15 sh_15 rfl ?_
  rw [jj_rs_set (B := h) (L := [(15, (upd (h 15) (0) 0))]) (L2 := [(15, (upd (upd (h 15) (0) 0) (1) 20))]) (r := (upd (h 15) (0) 0)) rfl rfl]
  refine jj_fl (fun h9 eh => ?_)
  obtain ⟨hB, ht, hf⟩ := m
  have m9 : cts c e ([], 20, fun _ => 0) [] h9 (spn isB c e 0) h9 := by
    refine ⟨⟨?_, ?_, ?_⟩, ?_, Nat.zero_le _, ?_, fun i hi => absurd hi (Nat.not_lt_zero i), fun i z hi => (by cases hi), fun i z hi => (by cases hi), fun _ _ => rfl, rfl, fr_rf⟩
    · rw [eh]; exact hB
    · rw [eh]; exact ht
    · rw [eh]; exact hf
    · rw [eh]; rfl
    · rw [eh]; rfl
  have z2 : ∀ x, ¬ x = 15 → h9 x = h x := fun x q => by rw [eh]; exact rs_ne q
  have z3 : h9 13 8 = -1 := by rw [eh]; exact h8
  clear eh
  show jj_R _ _ kc ks (jj_S, 782, h9, g) 11 [(0, .ref 15), (1, .ref 13)] [] Q
  refine rr_iconst 0 rfl dX7_readFrom_11 ?_
  refine rr_istore_n [(0, .ref 15), (1, .ref 13), (2, .int 0)] dX7_readFrom_12 rfl (by decide) rfl ?_
  refine ct_loop (j := 0) he6 e (by omega) (by omega) (by omega) m9 (fun S b h e1 hb m => ?_) (fun k p h e1 m => ?_)
  · skip
    refine rr_aload_n 1 rfl rfl dX7_readFrom_54 ?_
    refine rr_callV (As := []) (rest := []) (kc2 := 0) (ks2 := 0) dX7_readFrom_55 okX5_passEnd lX7_49 lo_13 sh_13 rfl rfl (Nat.le_of_ble_eq_true rfl) (Nat.le_of_ble_eq_true rfl) rfl (by omega) (by simp [jj_rk]) (by simp [jj_rk]) ?_
    refine cl_end (cts_R (by decide)) m (by omega) (fun q h m => ?_) (fun q h m => ?_)
    · skip
      show jj_R _ _ kc ks (jj_S, 782, h, g) 58 [(0, .ref 15), (1, .ref 13)] [.int 1] Q
      refine rr_pop rfl dX7_readFrom_58 ?_
      refine rr_return dX7_readFrom_59 rfl ?_
      obtain ⟨m1, m2, m3, m4, m5, m6, m7, m8, m9, m10⟩ := m
      exact k1 S h (by unfold pstreet; rw [pb_ok e1, if_pos q]) ⟨m1.2.2, m9.trans z3, m2, m3, m4, m5, m6, m8, fun x hx hx3 => (m10.1 x hx hx3).trans (z2 x (fun z => by rw [z] at hx; exact absurd hx (by decide)))⟩
    · skip
      show jj_R _ _ kc ks (jj_S, 782, h, g) 58 [(0, .ref 15), (1, .ref 13)] [.int 0] Q
      refine rr_pop rfl dX7_readFrom_58 ?_
      refine rr_return dX7_readFrom_59 rfl ?_
      exact k2 1 b h (by unfold pstreet; rw [pb_ok e1, if_neg q]) ⟨m.1, m.2.1, fun x hx hx3 => (m.2.2.1 x hx hx3).trans (z2 x (fun z => by rw [z] at hx; exact absurd hx (by decide)))⟩
  · exact k2 k p h (by unfold pstreet; rw [pb_er e1]) ⟨m.1, m.2.1, fun x hx hx3 => (m.2.2.1 x hx hx3).trans (z2 x (fun z => by rw [z] at hx; exact absurd hx (by decide)))⟩
