def mnr (r : Nat → Int32) (V lo hi b : Int32) : Nat → Int32 := if vX10_in V lo hi = 0 then rX10_wrong_49 r 2 b else r
def mnv (r : Nat → Int32) (V lo hi b : Int32) : Int32 := if mnr r V lo hi b 5 = 0 then V else 0
theorem wr_0 {r : Nat → Int32} {v p : Int32} (h : r 5 = 0) : rX10_wrong_49 r v p = upd (upd r 5 v) 6 p := by
  unfold rX10_wrong_49
  rw [if_pos h]
theorem wr_1 {r : Nat → Int32} {v p : Int32} (h : ¬ r 5 = 0) : rX10_wrong_49 r v p = r := by
  unfold rX10_wrong_49
  rw [if_neg h]
theorem in_lim {V lim : Nat} (hV : V < 2 ^ 31) (hl : lim < 2 ^ 30) : vX10_in (nI V) 0 (nI lim - 1) = if V < lim then 1 else 0 := by
  unfold vX10_in
  rw [if_neg (nI_pos hV)]
  cases lim with
  | zero =>
    rw [show nI 0 - 1 = (-1 : Int32) from by decide, if_neg (Nat.not_lt_zero V)]
    refine if_pos ?_
    rw [Int32.lt_iff_toInt_lt, nI_toInt hV, show (-1 : Int32).toInt = -1 from rfl]
    omega
  | succ m =>
    rw [nI_lim]
    by_cases q : V < m + 1
    · rw [if_pos q, if_neg (nI_nlt (by omega) (by omega))]
    · rw [if_neg q, if_pos (nI_lt (by omega) hV)]
theorem mn_end {d kc ks : Nat} {h : Nat → Nat → Int32} {g : Nat → Nat → Int64} {Q : jj_Rs → jj_St → Prop} {V lo hi b : Int32} (kq : Q (.inl (some (.int (mnv (h 49) V lo hi b)))) (jj_S, 782, jj_rs h [(49, mnr (h 49) V lo hi b)], g)) : jj_R mX10_number (d + 1) kc ks (jj_S, 782, h, g) 106 [(0, .ref 49), (1, .int lo), (2, .int hi), (3, .int b), (4, .int V)] [] Q := by
  refine rr_iload 4 rfl dX10_number_106 ?_
  refine rr_iload_n 1 rfl rfl dX10_number_108 ?_
  refine rr_iload_n 2 rfl rfl dX10_number_109 ?_
  refine rr_callS (As := [.int V, .int lo, .int hi]) (rest := []) (kc2 := 0) (ks2 := 0) dX10_number_110 okX10_in lX10_129 rfl (Nat.le_of_ble_eq_true rfl) (Nat.le_of_ble_eq_true rfl) rfl (by omega) (by simp [jj_rk]) (by simp [jj_rk]) ?_
  refine sp_X10_in  ?_
  show jj_R _ _ kc ks (jj_S, 782, h, g) 113 [(0, .ref 49), (1, .int lo), (2, .int hi), (3, .int b), (4, .int V)] [.int (vX10_in V lo hi)] Q
  refine rr_if_ne dX10_number_113 (fun c1 => ?_) (fun c1 => ?_)
  · skip
    refine rr_aload_n 0 rfl rfl dX10_number_122 ?_
    refine rr_getI dX10_number_123 fX10_111 lo_49 sh_49 rfl ?_
    refine rr_if_ne dX10_number_126 (fun c2 => ?_) (fun c2 => ?_)
    · skip
      refine rr_iconst 0 rfl dX10_number_134 ?_
      refine rr_ireturn dX10_number_135 rfl ?_
      refine jj_Qh (jj_addr (B := h) (o := 49) (r := h 49) rfl) ?_
      simpa only [mnv, mnr, if_neg c1, if_neg c2] using kq
    · skip
      refine rr_iload 4 rfl dX10_number_129 ?_
      refine rr_goto dX10_number_131 ?_
      refine rr_ireturn dX10_number_135 rfl ?_
      refine jj_Qh (jj_addr (B := h) (o := 49) (r := h 49) rfl) ?_
      simpa only [mnv, mnr, if_neg c1, if_pos c2] using kq
  · skip
    refine rr_aload_n 0 rfl rfl dX10_number_116 ?_
    refine rr_iconst 2 rfl dX10_number_117 ?_
    refine rr_iload_n 3 rfl rfl dX10_number_118 ?_
    refine rr_callV (As := [.int 2, .int b]) (rest := []) (kc2 := 0) (ks2 := 0) dX10_number_119 okX10_wrong lX10_124 lo_49 sh_49 rfl rfl (Nat.le_of_ble_eq_true rfl) (Nat.le_of_ble_eq_true rfl) rfl (by omega) (by simp [jj_rk]) (by simp [jj_rk]) ?_
    refine sp_X10_wrong  ?_
    show jj_R _ _ kc ks (jj_S, 782, (jj_rs h [(49, (rX10_wrong_49 (h 49) 2 b))]), g) 122 [(0, .ref 49), (1, .int lo), (2, .int hi), (3, .int b), (4, .int V)] [] Q
    refine rr_aload_n 0 rfl rfl dX10_number_122 ?_
    refine rr_getI dX10_number_123 fX10_111 lo_49 sh_49 rfl ?_
    rw [show (jj_rs h [(49, (rX10_wrong_49 (h 49) 2 b))]) 49 = (rX10_wrong_49 (h 49) 2 b) from rfl]
    refine rr_if_ne dX10_number_126 (fun c3 => ?_) (fun c3 => ?_)
    · skip
      refine rr_iconst 0 rfl dX10_number_134 ?_
      refine rr_ireturn dX10_number_135 rfl ?_
      simpa only [mnv, mnr, if_pos c1, if_neg c3] using kq
    · skip
      refine rr_iload 4 rfl dX10_number_129 ?_
      refine rr_goto dX10_number_131 ?_
      refine rr_ireturn dX10_number_135 rfl ?_
      simpa only [mnv, mnr, if_pos c1, if_pos c3] using kq
theorem jj_rs1 {B : Nat → Nat → Int32} {o : Nat} {a z : Nat → Int32} : jj_rs (jj_rs B [(o, a)]) [(o, z)] = jj_rs B [(o, z)] := by
  funext q
  by_cases e : q = o
  · subst e; simp [jj_rs, List.lookup]
  · have n : (q == o) = false := by rw [beq_eq_false_iff_ne]; exact e
    simp [jj_rs, List.lookup, n]
/-- the reference's number -/
theorem sp_number {c : Nat → Nat} {e x lim d kc ks : Nat} {h : Nat → Nat → Int32} {g : Nat → Nat → Int64} {Q : jj_Rs → jj_St → Prop} {hi : Int32} (he : e ≤ 600) (hs : h 49 2 = nI e) (ha : h 49 4 = nI x) (hF : fedok (h 50) c) (hx : x ≤ e) (hf : h 49 5 = 0) (ehi : hi = nI lim - 1) (hl : lim < 2 ^ 30)
    (k1 : ∀ v b, pnum c e lim (spn isB c e x) = .ok (v, b) → Q (.inl (some (.int (nI v)))) (jj_S, 782, jj_rs h [(49, upd (h 49) 4 (nI (nx c e (spn isB c e x))))], g))
    (k2 : ∀ k p r, pnum c e lim (spn isB c e x) = .error (k, p) → r 5 = nI k → r 6 = nI p → (∃ y : Nat, y ≤ e ∧ r 4 = nI y) → (∀ i, ¬ i = 4 → ¬ i = 5 → ¬ i = 6 → r i = h 49 i) → Q (.inl (some (.int 0))) (jj_S, 782, jj_rs h [(49, r)], g)) : jj_R mX10_number (d + 2) kc ks (jj_S, 782, h, g) 0 [(0, .ref 49), (1, .int 0), (2, .int hi)] [] Q := by
  have hA : spn isB c e x ≤ e := spn_le hx
  subst ehi
  refine rr_aload_n 0 rfl rfl dX10_number_0 ?_
  refine rr_getI dX10_number_1 fX10_111 lo_49 sh_49 rfl ?_
  rw [show (h 49) 5 = 0 from hf]
  refine rr_if_eq dX10_number_4 (fun _ => ?_) (fun c => absurd (by decide) c)
  refine rr_aload_n 0 rfl rfl dX10_number_9 ?_
  refine rr_callV (As := []) (rest := []) (kc2 := 0) (ks2 := 0) dX10_number_10 okX10_blanks lX10_117 lo_49 sh_49 rfl rfl (Nat.le_of_ble_eq_true rfl) (Nat.le_of_ble_eq_true rfl) rfl (by omega) (by simp [jj_rk]) (by simp [jj_rk]) ?_
  refine sp_blanks he hs ha hF (by omega) ?_
  show jj_R _ _ kc ks (jj_S, 782, (jj_rs h [(49, (upd (h 49) (4) (nI (spn isB c e x))))]), g) 13 [(0, .ref 49), (1, .int 0), (2, .int (nI lim - 1))] [] Q
  refine rr_aload_n 0 rfl rfl dX10_number_13 ?_
  refine rr_getI dX10_number_14 fX10_104 lo_49 sh_49 rfl ?_
  rw [show (jj_rs h [(49, (upd (h 49) (4) (nI (spn isB c e x))))]) 49 = (upd (h 49) (4) (nI (spn isB c e x))) from rfl]
  rw [show (upd (h 49) (4) (nI (spn isB c e x))) 4 = (nI (spn isB c e x)) from rfl]
  refine rr_istore_n [(0, .ref 49), (1, .int 0), (2, .int (nI lim - 1)), (3, .int (nI (spn isB c e x)))] dX10_number_17 rfl (by decide) rfl ?_
  refine rr_iconst 0 rfl dX10_number_18 ?_
  refine rr_istore [(0, .ref 49), (1, .int 0), (2, .int (nI lim - 1)), (3, .int (nI (spn isB c e x))), (4, .int 0)] dX10_number_19 (by decide) rfl ?_
  refine rr_aload_n 0 rfl rfl dX10_number_21 ?_
  refine rr_aload_n 0 rfl rfl dX10_number_22 ?_
  refine rr_getI dX10_number_23 fX10_104 lo_49 sh_49 rfl ?_
  rw [show (jj_rs h [(49, (upd (h 49) (4) (nI (spn isB c e x))))]) 49 = (upd (h 49) (4) (nI (spn isB c e x))) from rfl]
  rw [show (upd (h 49) (4) (nI (spn isB c e x))) 4 = (nI (spn isB c e x)) from rfl]
  refine rr_callV (As := [.int (nI (spn isB c e x))]) (rest := []) (kc2 := 0) (ks2 := 0) dX10_number_26 okX10_byteAt lX10_107 lo_49 sh_49 rfl rfl (Nat.le_of_ble_eq_true rfl) (Nat.le_of_ble_eq_true rfl) rfl (by omega) (by simp [jj_rk]) (by simp [jj_rk]) ?_
  refine sp_X10_byteAt (by_in he hs (by omega)) ?_
  show jj_R _ _ kc ks (jj_S, 782, (jj_rs h [(49, (upd (h 49) (4) (nI (spn isB c e x))))]), g) 29 [(0, .ref 49), (1, .int 0), (2, .int (nI lim - 1)), (3, .int (nI (spn isB c e x))), (4, .int 0)] [.int (vX10_byteAt (upd (h 49) (4) (nI (spn isB c e x))) (h 50) (nI (spn isB c e x)))] Q
  refine rr_callS (As := [.int (vX10_byteAt (upd (h 49) (4) (nI (spn isB c e x))) (h 50) (nI (spn isB c e x)))]) (rest := []) (kc2 := 0) (ks2 := 0) dX10_number_29 okX10_isDigit lX10_120 rfl (Nat.le_of_ble_eq_true rfl) (Nat.le_of_ble_eq_true rfl) rfl (by omega) (by simp [jj_rk]) (by simp [jj_rk]) ?_
  refine sp_X10_isDigit  ?_
  show jj_R _ _ kc ks (jj_S, 782, (jj_rs h [(49, (upd (h 49) (4) (nI (spn isB c e x))))]), g) 32 [(0, .ref 49), (1, .int 0), (2, .int (nI lim - 1)), (3, .int (nI (spn isB c e x))), (4, .int 0)] [.int (vX10_isDigit (vX10_byteAt (upd (h 49) (4) (nI (spn isB c e x))) (h 50) (nI (spn isB c e x))))] Q
  refine rr_if_ne dX10_number_32 (fun c1 => ?_) (fun c1 => ?_)
  · skip
    have e1 : upd (h 49) 4 (nI (spn isB c e x)) 2 = nI e := (jj_une (by decide)).trans hs
    have e5 : upd (h 49) 4 (nI (spn isB c e x)) 5 = 0 := (jj_une (by decide)).trans hf
    rw [by_at hF he (by omega) e1, by_D (fun q => (hF _ (by omega)).2)] at c1
    have hv2 : vl c e (spn isB c e x) ≤ 100000 := nvk_le _
    have hc : spn isB c e x < e ∧ isD (c (spn isB c e x)) = true := by
      by_cases q : spn isB c e x < e ∧ isD (c (spn isB c e x)) = true
      · exact q
      · rw [if_neg q] at c1; exact absurd rfl c1
    have kq1 : kd c e (spn isB c e x) = 1 := by unfold kd; rw [if_neg (by omega), if_pos hc.2]
    have nq : nx c e (spn isB c e x) = spn isD c e (spn isB c e x) := by unfold nx; rw [if_neg (by omega), if_pos hc.2]
    refine sp_numL (a := spn isB c e x) (k := 0) (d := d + 1) he (e - (spn isB c e x)) (by omega) e1 (jj_ueq rfl) hF (by omega) ?_
    refine mn_end (d := d + 1) ?_
    show Q (.inl (some (.int (mnv (upd (upd (h 49) 4 (nI (spn isB c e x))) 4 (nI (spn isD c e (spn isB c e x)))) (nI (vl c e (spn isB c e x))) 0 (nI lim - 1) (nI (spn isB c e x)))))) (jj_S, 782, jj_rs (jj_rs (jj_rs h [(49, (upd (h 49) 4 (nI (spn isB c e x))))]) [(49, upd (upd (h 49) 4 (nI (spn isB c e x))) 4 (nI (spn isD c e (spn isB c e x))))]) [(49, mnr (upd (upd (h 49) 4 (nI (spn isB c e x))) 4 (nI (spn isD c e (spn isB c e x)))) (nI (vl c e (spn isB c e x))) 0 (nI lim - 1) (nI (spn isB c e x)))], g)
    rw [jj_rs1, jj_rs1, up_up]
    have e6 : upd (h 49) 4 (nI (spn isD c e (spn isB c e x))) 5 = 0 := (jj_une (by decide)).trans hf
    have hin := in_lim (V := vl c e (spn isB c e x)) (lim := lim) (by omega) hl
    by_cases u : vl c e (spn isB c e x) < lim
    · rw [if_pos u] at hin
      have em : mnr (upd (h 49) 4 (nI (spn isD c e (spn isB c e x)))) (nI (vl c e (spn isB c e x))) 0 (nI lim - 1) (nI (spn isB c e x)) = upd (h 49) 4 (nI (spn isD c e (spn isB c e x))) := by unfold mnr; rw [hin, if_neg (by decide)]
      unfold mnv
      rw [em, if_pos e6, ← nq]
      exact k1 (vl c e (spn isB c e x)) (nt c e (spn isB c e x)) (by unfold pnum; rw [if_pos kq1, if_pos u])
    · rw [if_neg u] at hin
      have em : mnr (upd (h 49) 4 (nI (spn isD c e (spn isB c e x)))) (nI (vl c e (spn isB c e x))) 0 (nI lim - 1) (nI (spn isB c e x)) = upd (upd (upd (h 49) 4 (nI (spn isD c e (spn isB c e x)))) 5 2) 6 (nI (spn isB c e x)) := by unfold mnr; rw [hin, if_pos rfl, wr_0 e6]
      unfold mnv
      rw [em, if_neg (by rw [jj_une (by decide), jj_ueq rfl]; decide)]
      refine k2 2 (spn isB c e x) _ (by unfold pnum; rw [if_pos kq1, if_neg u]) ((jj_une (by decide)).trans (jj_ueq rfl)) (jj_ueq rfl) ⟨spn isD c e (spn isB c e x), spn_le hA, (jj_une (by decide)).trans ((jj_une (by decide)).trans (jj_ueq rfl))⟩ (fun i i4 i5 i6 => ?_)
      rw [jj_une i6, jj_une i5, jj_une i4]
  · skip
    refine rr_aload_n 0 rfl rfl dX10_number_35 ?_
    refine rr_iconst 1 rfl dX10_number_36 ?_
    refine rr_aload_n 0 rfl rfl dX10_number_37 ?_
    refine rr_getI dX10_number_38 fX10_104 lo_49 sh_49 rfl ?_
    rw [show (jj_rs h [(49, (upd (h 49) (4) (nI (spn isB c e x))))]) 49 = (upd (h 49) (4) (nI (spn isB c e x))) from rfl]
    rw [show (upd (h 49) (4) (nI (spn isB c e x))) 4 = (nI (spn isB c e x)) from rfl]
    refine rr_callV (As := [.int 1, .int (nI (spn isB c e x))]) (rest := []) (kc2 := 0) (ks2 := 0) dX10_number_41 okX10_wrong lX10_124 lo_49 sh_49 rfl rfl (Nat.le_of_ble_eq_true rfl) (Nat.le_of_ble_eq_true rfl) rfl (by omega) (by simp [jj_rk]) (by simp [jj_rk]) ?_
    refine sp_X10_wrong  ?_
    show jj_R _ _ kc ks (jj_S, 782, (jj_rs (jj_rs h [(49, (upd (h 49) (4) (nI (spn isB c e x))))]) [(49, (rX10_wrong_49 (upd (h 49) (4) (nI (spn isB c e x))) 1 (nI (spn isB c e x))))]), g) 44 [(0, .ref 49), (1, .int 0), (2, .int (nI lim - 1)), (3, .int (nI (spn isB c e x))), (4, .int 0)] [] Q
    rw [jj_rs_rs (B := h) (L := [(49, (upd (h 49) (4) (nI (spn isB c e x))))]) (M := [(49, (rX10_wrong_49 (upd (h 49) (4) (nI (spn isB c e x))) 1 (nI (spn isB c e x))))]) (L2 := [(49, (rX10_wrong_49 (upd (h 49) (4) (nI (spn isB c e x))) 1 (nI (spn isB c e x))))]) rfl]
    have e1 : upd (h 49) 4 (nI (spn isB c e x)) 2 = nI e := (jj_une (by decide)).trans hs
    have e5 : upd (h 49) 4 (nI (spn isB c e x)) 5 = 0 := (jj_une (by decide)).trans hf
    rw [by_at hF he (by omega) e1, by_D (fun q => (hF _ (by omega)).2)] at c1
    have hv2 : vl c e (spn isB c e x) ≤ 100000 := nvk_le _
    have hc : ¬ (spn isB c e x < e ∧ isD (c (spn isB c e x)) = true) := fun q => by
      rw [if_pos q] at c1
      exact absurd c1 (by decide)
    have kq1 : ¬ kd c e (spn isB c e x) = 1 := fun q => by
      unfold kd at q
      by_cases z : e ≤ spn isB c e x
      · rw [if_pos z] at q; exact absurd q (by decide)
      · rw [if_neg z] at q
        by_cases z2 : isD (c (spn isB c e x)) = true
        · exact hc ⟨by omega, z2⟩
        · rw [if_neg z2] at q
          revert q
          split <;> exact fun q => absurd q (by decide)
    rw [wr_0 e5]
    refine sp_numL (a := spn isB c e x) (k := 0) (d := d + 1) he (e - (spn isB c e x)) (by omega) ((jj_une (by decide)).trans ((jj_une (by decide)).trans e1)) ((jj_une (by decide)).trans ((jj_une (by decide)).trans (jj_ueq rfl))) hF (by omega) ?_
    refine mn_end (d := d + 1) ?_
    show Q (.inl (some (.int (mnv (upd (upd (upd (upd (h 49) 4 (nI (spn isB c e x))) 5 1) 6 (nI (spn isB c e x))) 4 (nI (spn isD c e (spn isB c e x)))) (nI (nvk c (spn isB c e x) (spn isD c e (spn isB c e x) - (spn isB c e x)))) 0 (nI lim - 1) (nI (spn isB c e x)))))) (jj_S, 782, jj_rs (jj_rs (jj_rs h [(49, (upd (upd (upd (h 49) 4 (nI (spn isB c e x))) 5 1) 6 (nI (spn isB c e x))))]) [(49, upd (upd (upd (upd (h 49) 4 (nI (spn isB c e x))) 5 1) 6 (nI (spn isB c e x))) 4 (nI (spn isD c e (spn isB c e x))))]) [(49, mnr (upd (upd (upd (upd (h 49) 4 (nI (spn isB c e x))) 5 1) 6 (nI (spn isB c e x))) 4 (nI (spn isD c e (spn isB c e x)))) (nI (nvk c (spn isB c e x) (spn isD c e (spn isB c e x) - (spn isB c e x)))) 0 (nI lim - 1) (nI (spn isB c e x)))], g)
    rw [jj_rs1, jj_rs1, spn_no hc, Nat.sub_self]
    have e6 : ¬ upd (upd (upd (upd (h 49) 4 (nI (spn isB c e x))) 5 1) 6 (nI (spn isB c e x))) 4 (nI (spn isB c e x)) 5 = 0 := by rw [jj_une (by decide), jj_une (by decide), jj_ueq rfl]; decide
    have em : mnr (upd (upd (upd (upd (h 49) 4 (nI (spn isB c e x))) 5 1) 6 (nI (spn isB c e x))) 4 (nI (spn isB c e x))) (nI (nvk c (spn isB c e x) 0)) 0 (nI lim - 1) (nI (spn isB c e x)) = upd (upd (upd (upd (h 49) 4 (nI (spn isB c e x))) 5 1) 6 (nI (spn isB c e x))) 4 (nI (spn isB c e x)) := by
      unfold mnr
      split
      · exact wr_1 e6
      · rfl
    unfold mnv
    rw [em, if_neg e6]
    refine k2 1 (spn isB c e x) _ (by unfold pnum; rw [if_neg kq1]) ((jj_une (by decide)).trans ((jj_une (by decide)).trans (jj_ueq rfl))) ((jj_une (by decide)).trans (jj_ueq rfl)) ⟨spn isB c e x, hA, jj_ueq rfl⟩ (fun i i4 i5 i6 => ?_)
    rw [jj_une i4, jj_une i6, jj_une i5, jj_une i4]
