/-! ===== the reference's work ===== -/
def wrkEm (h0 h9 : hp_) (p : Nat) : Prop := h9 49 0 = 0 ∧ h9 49 1 = 0 ∧ h9 49 3 = nI p ∧ (∀ x, pU x = false → ¬ x = 49 → h9 x = h0 x) ∧ ∀ i, fN i = false → h9 49 i = h0 49 i
def wrkFm (h0 h9 : hp_) (n m u : Nat) (L : List wE_) (v : Int32) : Prop := ∃ (r49 : Nat → Int32) (g417 : Nat → Nat → Int32), (r49 36 = 0 ∧ r49 37 = 0 ∧ r49 33 = 0) ∧ (∀ i z, L[i]? = some z → wrl z (g417 i)) ∧ 3 * L.length ≤ 150 ∧ ∃ R, R = go (h0 8) (h0 73) (jj_gd h0 64 8) g417 n m L.length 0 (nI L.length) r49 (h0 497) ∧ v = R.1 37 ∧ h9 49 = R.1 ∧ h9 497 = R.2 ∧ jj_gd h9 500 16 = qX10_copies_ng_500 (h0 497) (jj_gd h0 500 16) (nI u) ∧ (r49 0 = 0 ∧ r49 1 = 0 ∧ r49 3 = -1 ∧ r49 32 = nI (u + 1) ∧ r49 17 = nI m) ∧ (∀ i, fN i = false → ¬ i = 32 → ¬ i = 33 → ¬ i = 36 → ¬ i = 37 → r49 i = h0 49 i) ∧ ∀ x, pU x = false → ¬ x = 49 → ¬ x = 497 → ¬ (500 ≤ x ∧ x < 516) → ¬ x = 414 → ¬ x = 415 → h9 x = h0 x
theorem fU_N : ∀ i, fN i = false → fU i = false := fun i p => by
  have := fN_no p
  simp [fU]
  omega
theorem pst_no {S : Option (Nat → Nat → pW_)} {c : Nat → Nat} {e n row a : Nat} (h : ¬ kd c e a = 2) : pstep S c e n row a = .error (1, a) := by
  unfold pstep
  rw [sk_k h, if_neg (by decide), if_neg (by decide), if_neg (by decide), if_neg (by decide), if_neg (by decide), if_neg (by decide), if_neg (by decide)]
theorem wer_R {c : Nat → Nat} {e : Nat} {h0 : hp_} : rdr c e (fun _ _ => False) (wer c e h0) := by
  refine ⟨fun x h m => m.elim, fun x y h r m => m.elim, fun x h r k p m => m.elim, (wst_R (n := 0) (o := 0) (L := [])).2.2.2.1, (wst_R (n := 0) (o := 0) (L := [])).2.2.2.2⟩
theorem gd_eq {h k : hp_} {b len : Nat} (e : ∀ j, j < len → h (b + j) = k (b + j)) : jj_gd h b len = jj_gd k b len := by
  funext j
  unfold jj_gd
  by_cases q : j < len
  · rw [if_pos q, if_pos q]; exact e j q
  · rw [if_neg q, if_neg q]
theorem pU_no {x : Nat} (h : ¬ (417 ≤ x ∧ x < 497)) : pU x = false := by
  unfold pU
  rw [Bool.and_eq_false_iff, decide_eq_false_iff_not, decide_eq_false_iff_not]
  omega
set_option maxHeartbeats 2000000 in
theorem rf_work_full {c : Nat → Nat} {N T D kc ks : Nat} {h0 : hp_} {g : Nat → Nat → Int64} {Q : jj_Rs → jj_St → Prop} (hF : fedok (h0 50) c) (hT : h0 49 1 = nI T) (hT6 : T ≤ 600) (hNT : N ≤ T) (hN5 : N ≤ 150) (hw : h0 49 32 = 16) (hD : 7 ≤ D) (k1 : ∀ h9, (h9 49 0 = 0 ∧ h9 49 1 = 0 ∧ h9 49 3 = -1) → (∀ x, ¬ x = 49 → h9 x = h0 x) → (∀ i, fN i = false → h9 49 i = h0 49 i) → Q (.inl (some (.int (-20)))) (jj_S, 782, h9, g)) : jj_R mX10_work D kc ks (jj_S, 782, h0, g) 0 [(0, .ref 49), (1, .int (nI N))] [] Q := by
  obtain ⟨d, rfl⟩ : ∃ d, D = d + 7 := ⟨D - 7, by omega⟩
  obtain ⟨h, eh0⟩ : ∃ h, h = h0 := ⟨h0, rfl⟩
  rw [← eh0]
  rw [← eh0] at hF hT
  refine rr_aload_n 0 rfl rfl dX10_work_0 ?_
  refine rr_iconst 0 rfl dX10_work_1 ?_
  refine rr_putI dX10_work_2 fX10_95 ni10_0 lo_49 sh_49 rfl ?_
  rw [jj_rs_set0 (B := h) (o := 49) (r := (h 49)) rfl]
  refine jj_fl (fun h9 eh => ?_)
  have t0 : h9 49 0 = 0 := by rw [eh]; exact jj_ueq rfl
  have fq : fr 49 p0 fN h0 h9 := by rw [eh, ← eh0]; exact fr_u rfl
  have hT : h9 49 1 = nI T := by rw [eh]; exact (jj_une (by decide)).trans hT
  have hF : fedok (h9 50) c := by rw [eh]; exact hF
  clear eh
  revert h9
  intro h t0 fq hT hF
  have hw : h 49 32 = 16 := (fq.2 32 rfl).trans hw
  show jj_R _ _ kc ks (jj_S, 782, h, g) 5 [(0, .ref 49), (1, .int (nI N))] [] Q
  refine rr_aload_n 0 rfl rfl dX10_work_5 ?_
  refine rr_iload_n 1 rfl rfl dX10_work_6 ?_
  refine rr_iconst 0 rfl dX10_work_7 ?_
  refine rr_aload_n 0 rfl rfl dX10_work_8 ?_
  refine rr_getI dX10_work_9 fX10_98 lo_49 sh_49 rfl ?_
  rw [show (h 49) 1 = (nI T) from hT]
  refine rr_callS (As := [.int (nI N), .int 0, .int (nI T)]) (rest := [.ref 49]) (kc2 := 0) (ks2 := 0) dX10_work_12 okX10_in lX10_129 rfl (Nat.le_of_ble_eq_true rfl) (Nat.le_of_ble_eq_true rfl) rfl (by omega) (by simp [jj_rk]) (by simp [jj_rk]) ?_
  refine sp_X10_in  ?_
  show jj_R _ _ kc ks (jj_S, 782, h, g) 15 [(0, .ref 49), (1, .int (nI N))] [.int (vX10_in (nI N) 0 (nI T)), .ref 49] Q
  refine rr_if_eq dX10_work_15 (fun c => absurd c (by rw [in_T hNT (by omega)]; decide)) (fun _ => ?_)
  refine rr_iload_n 1 rfl rfl dX10_work_18 ?_
  refine rr_sipush 150 rfl dX10_work_19 ?_
  refine rr_icmp_le dX10_work_22 (fun _ => ?_) (fun c => absurd (nI_le hN5 (by decide)) c)
  refine rr_iconst 0 rfl dX10_work_29 ?_
  refine rr_iconst 1 rfl dX10_work_30 ?_
  refine rr_iconst 1 rfl dX10_work_31 ?_
  refine rr_callV (As := [.int 0, .int 1, .int 1]) (rest := []) (kc2 := 0) (ks2 := 0) dX10_work_32 okX10_bad lX10_171 lo_49 sh_49 rfl rfl (Nat.le_of_ble_eq_true rfl) (Nat.le_of_ble_eq_true rfl) rfl (by omega) (by simp [jj_rk]) (by simp [jj_rk]) ?_
  refine sp_X10_bad0_11 t0 ?_
  show jj_R _ _ kc ks (jj_S, 782, h, g) 35 [(0, .ref 49), (1, .int (nI N))] [.int 0] Q
  refine rr_if_eq dX10_work_35 (fun _ => ?_) (fun c => absurd (by decide) c)
  refine rr_aload_n 0 rfl rfl dX10_work_40 ?_
  refine rr_getI dX10_work_41 fX10_194 lo_49 sh_49 rfl ?_
  rw [show (h 49) 32 = 16 from hw]
  refine rr_bipush 16 rfl dX10_work_44 ?_
  refine rr_icmp_ne dX10_work_46 (fun c => absurd c (by decide)) (fun _ => ?_)
  refine rr_aload_n 0 rfl rfl dX10_work_49 ?_
  refine rr_iconst 0 rfl dX10_work_50 ?_
  refine rr_putI dX10_work_51 fX10_98 ni10_1 lo_49 sh_49 rfl ?_
  rw [jj_rs_set0 (B := h) (o := 49) (r := (h 49)) rfl]
  refine rr_aload_n 0 rfl rfl dX10_work_54 ?_
  refine rr_iconst (-1) rfl dX10_work_55 ?_
  refine rr_putI dX10_work_56 fX10_9 ni10_3 lo_49 sh_49 rfl ?_
  rw [jj_rs_set (B := h) (L := [(49, (upd (h 49) (1) 0))]) (L2 := [(49, (upd (upd (h 49) (1) 0) (3) (-1)))]) (r := (upd (h 49) (1) 0)) rfl rfl]
  refine rr_bipush (-20) rfl dX10_work_59 ?_
  refine rr_ireturn dX10_work_61 rfl ?_
  refine k1 _ ⟨?_, jj_une (by decide) |>.trans (jj_ueq rfl), jj_ueq rfl⟩ (fun x x49 => ?_) (fun i p => ?_)
  · exact (jj_une (by decide)).trans ((jj_une (by decide)).trans t0)
  · rw [rs_ne x49]; exact fq.1 x rfl x49
  · have q := fN_no p
    exact (jj_une (by omega)).trans ((jj_une (by omega)).trans (fq.2 i p))
set_option maxHeartbeats 2000000 in
theorem wk_loop {c : Nat → Nat} {e n : Nat} {v : Int32} (he : e ≤ 150) (hn : n ≤ 8) (f : Nat) : ∀ {D kc ks x : Nat} {L : List wE_} {h0 h : hp_} {g : Nat → Nat → Int64} {Q : jj_Rs → jj_St → Prop}, 12 ≤ D → e - x ≤ f → spn isB c e x = x → wst c e n 0 L h0 x h → (∀ L2 b h9, plw (pstep (pS_ c e n 6) c e n) c e 0 f L x = .ok (L2, b) → e ≤ b → wst c e n 0 L2 h0 b h9 → jj_R mX10_work D kc ks (jj_S, 782, h9, g) 101 [(0, .ref 49), (1, .int v)] [] Q) → (∀ k p h9, (plw (pstep (pS_ c e n 6) c e n) c e 0 f L x = .error (k, p) ∨ ∃ L2 b, plw (pstep (pS_ c e n 6) c e n) c e 0 f L x = .ok (L2, b) ∧ ¬ e ≤ b ∧ k = 1 ∧ p = b) → wer c e h0 k p h9 → jj_R mX10_work D kc ks (jj_S, 782, h9, g) 101 [(0, .ref 49), (1, .int v)] [] Q) → jj_R mX10_work D kc ks (jj_S, 782, h, g) 72 [(0, .ref 49), (1, .int v)] [] Q := by
  induction f with
  | zero =>
    intro D0 kc ks x L h0 h g Q hD hm hb m k1 k2
    obtain ⟨d, rfl⟩ : ∃ d, D0 = d + 12 := ⟨D0 - 12, by omega⟩
    have hxe := m.1.2.2.2.1
    refine rr_aload_n 0 rfl rfl dX10_work_72 ?_
    refine rr_getI dX10_work_73 fX10_111 lo_49 sh_49 rfl ?_
    rw [show (h 49) 5 = 0 from m.1.2.2.2.2]
    refine rr_if_ne dX10_work_76 (fun c => absurd c (by decide)) (fun _ => ?_)
    refine rr_aload_n 0 rfl rfl dX10_work_79 ?_
    refine rr_getI dX10_work_80 fX10_104 lo_49 sh_49 rfl ?_
    rw [show (h 49) 4 = (nI x) from m.1.2.1]
    refine rr_aload_n 0 rfl rfl dX10_work_83 ?_
    refine rr_getI dX10_work_84 fX10_101 lo_49 sh_49 rfl ?_
    rw [show (h 49) 2 = (nI e) from m.1.1]
    refine rr_icmp_ge dX10_work_87 (fun c1 => ?_) (fun c1 => ?_)
    · skip
      have q : e ≤ x := (nI_leI (by omega) (by omega)).mp c1
      have hop : ¬ kd c e x = 2 := by rw [kd_end.mpr q]; decide
      exact k1 L x h (plw_0 hop _) q m
    · skip
      have q : ¬ e ≤ x := fun z => c1 ((nI_leI (by omega) (by omega)).mpr z)
      exact absurd hm (by omega)
  | succ f ih =>
    intro D0 kc ks x L h0 h g Q hD hm hb m k1 k2
    obtain ⟨d, rfl⟩ : ∃ d, D0 = d + 12 := ⟨D0 - 12, by omega⟩
    have hxe := m.1.2.2.2.1
    refine rr_aload_n 0 rfl rfl dX10_work_72 ?_
    refine rr_getI dX10_work_73 fX10_111 lo_49 sh_49 rfl ?_
    rw [show (h 49) 5 = 0 from m.1.2.2.2.2]
    refine rr_if_ne dX10_work_76 (fun c => absurd c (by decide)) (fun _ => ?_)
    refine rr_aload_n 0 rfl rfl dX10_work_79 ?_
    refine rr_getI dX10_work_80 fX10_104 lo_49 sh_49 rfl ?_
    rw [show (h 49) 4 = (nI x) from m.1.2.1]
    refine rr_aload_n 0 rfl rfl dX10_work_83 ?_
    refine rr_getI dX10_work_84 fX10_101 lo_49 sh_49 rfl ?_
    rw [show (h 49) 2 = (nI e) from m.1.1]
    refine rr_icmp_ge dX10_work_87 (fun c1 => ?_) (fun c1 => ?_)
    · skip
      have q : e ≤ x := (nI_leI (by omega) (by omega)).mp c1
      have hop : ¬ kd c e x = 2 := by rw [kd_end.mpr q]; decide
      exact k1 L x h (plw_0 hop _) q m
    · skip
      have q : ¬ e ≤ x := fun z => c1 ((nI_leI (by omega) (by omega)).mpr z)
      refine rr_aload_n 0 rfl rfl dX10_work_90 ?_
      refine rr_callV (As := []) (rest := []) (kc2 := 0) (ks2 := 0) dX10_work_91 okX10_readsStep lX10_251 lo_49 sh_49 rfl rfl (Nat.le_of_ble_eq_true rfl) (Nat.le_of_ble_eq_true rfl) rfl (by omega) (by simp [jj_rk]) (by simp [jj_rk]) ?_
      refine ws_lev he hn 6 0 rfl (by omega) hb m (fun L2 b2 y2 h e1 hy2 sy2 m => ?_) (fun k p h e1 m => ?_)
      · skip
        have k2x : kd c e x = 2 := by
          by_cases z : kd c e x = 2
          · exact z
          · rw [pst_no z] at e1; cases e1
        rw [plw_s k2x, Nat.zero_add, pb_ok e1] at k1 k2
        show jj_R _ _ kc ks (jj_S, 782, h, g) 94 [(0, .ref 49), (1, .int v)] [] Q
        refine rr_aload_n 0 rfl rfl dX10_work_94 ?_
        refine rr_callV (As := []) (rest := []) (kc2 := 0) (ks2 := 0) dX10_work_95 okX10_blanks lX10_117 lo_49 sh_49 rfl rfl (Nat.le_of_ble_eq_true rfl) (Nat.le_of_ble_eq_true rfl) rfl (by omega) (by simp [jj_rk]) (by simp [jj_rk]) ?_
        refine ll_blanks wst_R (by omega) m (by omega) (fun h m => ?_)
        rw [sy2] at m
        have sb : spn isB c e b2 = b2 := by rw [← sy2, spn_idem]
        have sl := spn_ge (P := isB) (c := c) (e := e) (x := y2)
        show jj_R _ _ kc ks (jj_S, 782, h, g) 98 [(0, .ref 49), (1, .int v)] [] Q
        refine rr_goto dX10_work_98 ?_
        exact ih hD (by omega) sb m k1 k2
      · skip
        show jj_R _ _ kc ks (jj_S, 782, h, g) 94 [(0, .ref 49), (1, .int v)] [] Q
        refine rr_aload_n 0 rfl rfl dX10_work_94 ?_
        refine rr_callV (As := []) (rest := []) (kc2 := 0) (ks2 := 0) dX10_work_95 okX10_blanks lX10_117 lo_49 sh_49 rfl rfl (Nat.le_of_ble_eq_true rfl) (Nat.le_of_ble_eq_true rfl) rfl (by omega) (by simp [jj_rk]) (by simp [jj_rk]) ?_
        refine ll_blanksE (I := fun _ _ => False) (E := wer c e h0) wer_R (by omega) m (by omega) (fun h m => ?_)
        show jj_R _ _ kc ks (jj_S, 782, h, g) 98 [(0, .ref 49), (1, .int v)] [] Q
        refine rr_goto dX10_work_98 ?_
        refine rr_aload_n 0 rfl rfl dX10_work_72 ?_
        refine rr_getI dX10_work_73 fX10_111 lo_49 sh_49 rfl ?_
        refine rr_if_ne dX10_work_76 (fun _ => ?_) (fun c => absurd c m.2.2.1)
        refine k2 k p h ?_ m
        by_cases z : kd c e x = 2
        · exact Or.inl (by rw [plw_s z, Nat.zero_add, pb_er e1])
        · rw [pst_no z] at e1
          cases e1
          exact Or.inr ⟨L, x, plw_0 z _, q, rfl, rfl⟩
theorem cng_at {r : Nat → Int32} {G : Nat → Nat → Int32} {u : Nat} (hu : u < 16) : ∀ W, (∀ j, ¬ j = u → jj_fo (fX10_copies_ng_1 r (nI u)) W G j = G j) ∧ (∀ k, k < W → jj_fo (fX10_copies_ng_1 r (nI u)) W G u k = r k) ∧ ∀ k, W ≤ k → jj_fo (fX10_copies_ng_1 r (nI u)) W G u k = G u k
  | 0 => ⟨fun _ _ => rfl, fun k hk => absurd hk (Nat.not_lt_zero k), fun _ _ => rfl⟩
  | W + 1 => by
    obtain ⟨h1, h2, h3⟩ := cng_at (r := r) (G := G) hu W
    have e : jj_fo (fX10_copies_ng_1 r (nI u)) (W + 1) G = jj_ug (jj_fo (fX10_copies_ng_1 r (nI u)) W G) u W (r W) := by
      show jj_ug (jj_fo (fX10_copies_ng_1 r (nI u)) W G) ((nI u) : Int32).toNatClampNeg W (r W) = _
      rw [nI_clamp (by omega)]
    rw [e]
    unfold jj_ug
    refine ⟨fun i hi => by rw [if_neg hi]; exact h1 i hi, fun k hk => ?_, fun k hk => ?_⟩
    · rw [if_pos rfl]
      by_cases q : k = W
      · rw [jj_ueq q, q]
      · rw [jj_une q]; exact h2 k (by omega)
    · rw [if_pos rfl, jj_une (by omega)]; exact h3 k (by omega)
theorem cng_out {r : Nat → Int32} {h : hp_} {u j : Nat} (hu : u < 16) (hj : ¬ j < 16) : qX10_copies_ng_500 r (jj_gd h 500 16) (nI u) j = fun _ => 0 := by
  unfold qX10_copies_ng_500
  rw [(cng_at hu 35).1 j (by omega)]
  unfold jj_gd
  rw [if_neg hj]
set_option maxHeartbeats 4000000 in
theorem rf_work {c : Nat → Nat} {n m_ u N T D kc ks : Nat} {h0 : hp_} {g : Nat → Nat → Int64} {Q : jj_Rs → jj_St → Prop} (hF : fedok (h0 50) c) (hT : h0 49 1 = nI T) (hT6 : T ≤ 600) (hNT : N ≤ T) (hN5 : N ≤ 150) (hP : h0 53 0 = nI n) (hn : n ≤ 8) (hm : h0 49 17 = nI m_) (hm2 : m_ ≤ 150) (hlw : lawok (h0 8) (jj_gd h0 75 160) m_) (hw : h0 49 32 = nI u) (hu2 : u < 16) (hD : 64 ≤ D) (k1 : ∀ L h9 v, pwork c N n = .ok L → wrkFm h0 h9 n m_ u L v → Q (.inl (some (.int v))) (jj_S, 782, h9, g)) (k2 : ∀ k p h9, pwork c N n = .error (k, p) → wrkEm h0 h9 p → Q (.inl (some (.int (nI k - 10)))) (jj_S, 782, h9, g)) : jj_R mX10_work D kc ks (jj_S, 782, h0, g) 0 [(0, .ref 49), (1, .int (nI N))] [] Q := by
  obtain ⟨d, rfl⟩ : ∃ d, D = d + 64 := ⟨D - 64, by omega⟩
  obtain ⟨h, eh0⟩ : ∃ h, h = h0 := ⟨h0, rfl⟩
  rw [← eh0]
  rw [← eh0] at hF hT
  refine rr_aload_n 0 rfl rfl dX10_work_0 ?_
  refine rr_iconst 0 rfl dX10_work_1 ?_
  refine rr_putI dX10_work_2 fX10_95 ni10_0 lo_49 sh_49 rfl ?_
  rw [jj_rs_set0 (B := h) (o := 49) (r := (h 49)) rfl]
  refine jj_fl (fun h9 eh => ?_)
  have t0 : h9 49 0 = 0 := by rw [eh]; exact jj_ueq rfl
  have fq : fr 49 pU fN h0 h9 := by rw [eh, ← eh0]; exact fr_u rfl
  have hT : h9 49 1 = nI T := by rw [eh]; exact (jj_une (by decide)).trans hT
  have hF : fedok (h9 50) c := by rw [eh]; exact hF
  clear eh
  revert h9
  intro h t0 fq hT hF
  have hw1 : h 49 32 = nI u := (fq.2 32 rfl).trans hw
  show jj_R _ _ kc ks (jj_S, 782, h, g) 5 [(0, .ref 49), (1, .int (nI N))] [] Q
  refine rr_aload_n 0 rfl rfl dX10_work_5 ?_
  refine rr_iload_n 1 rfl rfl dX10_work_6 ?_
  refine rr_iconst 0 rfl dX10_work_7 ?_
  refine rr_aload_n 0 rfl rfl dX10_work_8 ?_
  refine rr_getI dX10_work_9 fX10_98 lo_49 sh_49 rfl ?_
  rw [show (h 49) 1 = (nI T) from hT]
  refine rr_callS (As := [.int (nI N), .int 0, .int (nI T)]) (rest := [.ref 49]) (kc2 := 0) (ks2 := 0) dX10_work_12 okX10_in lX10_129 rfl (Nat.le_of_ble_eq_true rfl) (Nat.le_of_ble_eq_true rfl) rfl (by omega) (by simp [jj_rk]) (by simp [jj_rk]) ?_
  refine sp_X10_in  ?_
  show jj_R _ _ kc ks (jj_S, 782, h, g) 15 [(0, .ref 49), (1, .int (nI N))] [.int (vX10_in (nI N) 0 (nI T)), .ref 49] Q
  refine rr_if_eq dX10_work_15 (fun c => absurd c (by rw [in_T hNT (by omega)]; decide)) (fun _ => ?_)
  refine rr_iload_n 1 rfl rfl dX10_work_18 ?_
  refine rr_sipush 150 rfl dX10_work_19 ?_
  refine rr_icmp_le dX10_work_22 (fun _ => ?_) (fun c => absurd (nI_le hN5 (by decide)) c)
  refine rr_iconst 0 rfl dX10_work_29 ?_
  refine rr_iconst 1 rfl dX10_work_30 ?_
  refine rr_iconst 1 rfl dX10_work_31 ?_
  refine rr_callV (As := [.int 0, .int 1, .int 1]) (rest := []) (kc2 := 0) (ks2 := 0) dX10_work_32 okX10_bad lX10_171 lo_49 sh_49 rfl rfl (Nat.le_of_ble_eq_true rfl) (Nat.le_of_ble_eq_true rfl) rfl (by omega) (by simp [jj_rk]) (by simp [jj_rk]) ?_
  refine sp_X10_bad0_11 t0 ?_
  show jj_R _ _ kc ks (jj_S, 782, h, g) 35 [(0, .ref 49), (1, .int (nI N))] [.int 0] Q
  refine rr_if_eq dX10_work_35 (fun _ => ?_) (fun c => absurd (by decide) c)
  refine rr_aload_n 0 rfl rfl dX10_work_40 ?_
  refine rr_getI dX10_work_41 fX10_194 lo_49 sh_49 rfl ?_
  rw [show (h 49) 32 = (nI u) from hw1]
  refine rr_bipush 16 rfl dX10_work_44 ?_
  refine rr_icmp_ne dX10_work_46 (fun _ => ?_) (fun c => absurd c (fun q => absurd ((nI_eq (a := u) (b := 16) (by omega) (by decide)).mp q) (by omega)))
  refine rr_aload_n 0 rfl rfl dX10_work_62 ?_
  refine rr_iload_n 1 rfl rfl dX10_work_63 ?_
  refine rr_callV (As := [.int (nI N)]) (rest := []) (kc2 := 0) (ks2 := 0) dX10_work_64 okX10_starts lX10_175 lo_49 sh_49 rfl rfl (Nat.le_of_ble_eq_true rfl) (Nat.le_of_ble_eq_true rfl) rfl (by omega) (by simp [jj_rk]) (by simp [jj_rk]) ?_
  refine rl_starts (by omega) hF (by omega) (fun h m s0 f1 => ?_)
  have t0 : h 49 0 = 0 := s0.trans t0
  have fq : fr 49 pU fN h0 h := fr_tr fq (fr_mo (fun _ _ => rfl) (fun _ q => q) f1)
  show jj_R _ _ kc ks (jj_S, 782, h, g) 67 [(0, .ref 49), (1, .int (nI N))] [] Q
  refine rr_aload_n 0 rfl rfl dX10_work_67 ?_
  refine rr_iconst 0 rfl dX10_work_68 ?_
  refine rr_putI dX10_work_69 fX10_248 ni10_26 lo_49 sh_49 rfl ?_
  rw [jj_rs_set0 (B := h) (o := 49) (r := (h 49)) rfl]
  refine jj_fl (fun h9 eh => ?_)
  obtain ⟨⟨a1, a2, a3, a4, a5⟩, a6, a7, a8, a9⟩ := m
  have m9 : wst c N n 0 [] h9 (spn isB c N 0) h9 := by
    refine ⟨⟨?_, ?_, ?_, a4, ?_⟩, ?_, ?_, Nat.zero_le _, ?_, fr_rf, fun i z hi => by cases hi⟩
    · rw [eh]; exact (jj_une (by decide)).trans a1
    · rw [eh]; exact (jj_une (by decide)).trans a2
    · rw [eh]; exact a3
    · rw [eh]; exact (jj_une (by decide)).trans a5
    · rw [eh]; exact (jj_une (by decide)).trans a9
    · rw [eh]; exact jj_ueq rfl
    · rw [eh]; exact (congrFun (fq.1 53 rfl (by decide)) 0).trans hP
  have t0 : h9 49 0 = 0 := by rw [eh]; exact (jj_une (by decide)).trans t0
  have t1 : h9 49 1 = 0 := by rw [eh]; exact (jj_une (by decide)).trans a6
  have fq : fr 49 pU fN h0 h9 := by rw [eh]; exact fr_tr fq (fr_u rfl)
  clear eh
  refine wk_loop hN5 hn N (by omega) (by omega) spn_idem m9 (fun L b h e1 q m => ?_) (fun k p h e1 m => ?_)
  · skip
    have fr1 := fr_tr fq (fr_mo (fun _ q => q) fU_N m.2.2.2.2.2.1)
    have t0 : h 49 0 = 0 := (m.2.2.2.2.2.1.2 0 rfl).trans t0
    have t1 : h 49 1 = 0 := (m.2.2.2.2.2.1.2 1 rfl).trans t1
    have e2 : pwork c N n = .ok L := by unfold pwork; rw [pstps_eq, pb_ok e1, if_pos q]
    have wl0 := pwork_wl e2
    have hbe := m.1.2.2.2.1
    have h3 := m.2.2.2.1
    have hw : h 49 32 = nI u := (fr1.2 32 rfl).trans hw
    have h26 := m.2.2.1
    have hL := m.2.2.2.2.2.2
    refine rr_aload_n 0 rfl rfl dX10_work_101 ?_
    refine rr_getI dX10_work_102 fX10_111 lo_49 sh_49 rfl ?_
    rw [show (h 49) 5 = 0 from m.1.2.2.2.2]
    refine rr_if_eq dX10_work_105 (fun _ => ?_) (fun c => absurd (by decide) c)
    refine rr_aload_n 0 rfl rfl dX10_work_113 ?_
    refine rr_iconst (-1) rfl dX10_work_114 ?_
    refine rr_putI dX10_work_115 fX10_9 ni10_3 lo_49 sh_49 rfl ?_
    rw [jj_rs_set0 (B := h) (o := 49) (r := (h 49)) rfl]
    refine rr_aload_n 0 rfl rfl dX10_work_118 ?_
    refine rr_getR dX10_work_119 fX10_61 lo_49 sh_49 rfl ?_
    refine rr_aload_n 0 rfl rfl dX10_work_122 ?_
    refine rr_getR dX10_work_123 fX10_67 lo_49 sh_49 rfl ?_
    refine rr_aload_n 0 rfl rfl dX10_work_126 ?_
    refine rr_getI dX10_work_127 fX10_194 lo_49 sh_49 rfl ?_
    rw [show (jj_rs h [(49, (upd (h 49) (3) (-1)))]) 49 = (upd (h 49) (3) (-1)) from rfl]
    rw [show (upd (h 49) (3) (-1)) 32 = (nI u) from hw]
    refine rr_aaload dX10_work_130 lo_499 sh_499 (vp_in_nI (by omega) (by decide)) ?_
    refine rr_callS (As := [.ref 497, .ref (500 + ((nI u) : Int32).toNatClampNeg)]) (rest := []) (kc2 := 0) (ks2 := 0) dX10_work_131 okX10_copies lX10_304 rfl (Nat.le_of_ble_eq_true rfl) (Nat.le_of_ble_eq_true rfl) rfl (by omega) (by simp [jj_rk] <;> first | exact Or.inl (lr_499 (jj_ink (i := (nI u)) (vp_in_nI (by omega) (by decide))))) (by simp [jj_rk] <;> first | exact Or.inl (lr_499 (jj_ink (i := (nI u)) (vp_in_nI (by omega) (by decide))))) ?_
    refine sp_X10_copies_ng (s := nI u) (vp_in_nI (by omega) (by decide)) ?_
    show jj_R _ _ kc ks (jj_S, 782, _, g) 134 [(0, .ref 49), (1, .int (nI N))] [] Q
    refine jj_fl (fun h9 eh => ?_)
    have e1_ : jj_gd (jj_rs h [(49, (upd (h 49) (3) (-1)))]) 500 16 = jj_gd h0 500 16 := gd_eq (fun j hj => (rs_ne (by omega)).trans (fr1.1 (500 + j) (pU_no (by omega)) (by omega)))
    have e2_ : (jj_rs h [(49, (upd (h 49) (3) (-1)))]) 497 = h0 497 := fr1.1 497 rfl (by decide)
    rw [e1_, e2_] at eh
    have y5 : jj_gd h9 500 16 = qX10_copies_ng_500 (h0 497) (jj_gd h0 500 16) (nI u) := by
      funext j
      by_cases q : j < 16
      · rw [← jj_gd_at q, eh]
        unfold jj_gs
        rw [if_pos (by omega), show 500 + j - 500 = j by omega]
      · show (if j < 16 then h9 (500 + j) else fun _ => 0) = _
        rw [if_neg q]
        exact (cng_out hu2 q).symm
    have yo : ∀ x, ¬ x = 49 → ¬ (500 ≤ x ∧ x < 516) → h9 x = h x := fun x a b => by
      rw [eh]
      unfold jj_gs
      rw [if_neg (by omega)]
      exact rs_ne a
    have y49 : h9 49 = upd (h 49) 3 (-1) := by
      rw [eh]
      unfold jj_gs
      rw [if_neg (by omega)]
      rfl
    clear eh
    revert h9
    intro h y5 yo y49
    show jj_R _ _ kc ks (jj_S, 782, h, g) 134 [(0, .ref 49), (1, .int (nI N))] [] Q
    have hw : h 49 32 = nI u := by rw [y49]; exact (jj_une (by decide)).trans hw
    have h26 : h 49 26 = nI L.length := by rw [y49]; exact (jj_une (by decide)).trans h26
    refine rr_aload_n 0 rfl rfl dX10_work_134 ?_
    refine rr_dup rfl dX10_work_135 ?_
    refine rr_getI dX10_work_136 fX10_194 lo_49 sh_49 rfl ?_
    rw [show (h 49) 32 = (nI u) from hw]
    refine rr_iconst 1 rfl dX10_work_139 ?_
    refine rr_iadd dX10_work_140 ?_
    refine rr_putI dX10_work_141 fX10_194 ni10_32 lo_49 sh_49 rfl ?_
    rw [jj_rs_set0 (B := h) (o := 49) (r := (h 49)) rfl]
    refine rr_aload_n 0 rfl rfl dX10_work_144 ?_
    refine rr_iconst 0 rfl dX10_work_145 ?_
    refine rr_putI dX10_work_146 fX10_291 ni10_36 lo_49 sh_49 rfl ?_
    rw [jj_rs_set (B := h) (L := [(49, (upd (h 49) (32) ((nI u) + 1)))]) (L2 := [(49, (upd (upd (h 49) (32) ((nI u) + 1)) (36) 0))]) (r := (upd (h 49) (32) ((nI u) + 1))) rfl rfl]
    refine rr_aload_n 0 rfl rfl dX10_work_149 ?_
    refine rr_iconst 0 rfl dX10_work_150 ?_
    refine rr_putI dX10_work_151 fX10_301 ni10_37 lo_49 sh_49 rfl ?_
    rw [jj_rs_set (B := h) (L := [(49, (upd (upd (h 49) (32) ((nI u) + 1)) (36) 0))]) (L2 := [(49, (upd (upd (upd (h 49) (32) ((nI u) + 1)) (36) 0) (37) 0))]) (r := (upd (upd (h 49) (32) ((nI u) + 1)) (36) 0)) rfl rfl]
    refine rr_aload_n 0 rfl rfl dX10_work_154 ?_
    refine rr_iconst 0 rfl dX10_work_155 ?_
    refine rr_putI dX10_work_156 fX10_197 ni10_33 lo_49 sh_49 rfl ?_
    rw [jj_rs_set (B := h) (L := [(49, (upd (upd (upd (h 49) (32) ((nI u) + 1)) (36) 0) (37) 0))]) (L2 := [(49, (upd (upd (upd (upd (h 49) (32) ((nI u) + 1)) (36) 0) (37) 0) (33) 0))]) (r := (upd (upd (upd (h 49) (32) ((nI u) + 1)) (36) 0) (37) 0)) rfl rfl]
    refine jj_fl (fun h9 eh => ?_)
    have z49 : h9 49 = upd (upd (upd (upd (h 49) 32 (nI (u + 1))) 36 0) 37 0) 33 0 := by rw [eh, ← nI_1]; rfl
    have zo : ∀ x, ¬ x = 49 → h9 x = h x := fun x q => by rw [eh]; exact rs_ne q
    clear eh
    revert h9
    intro h z49 zo
    show jj_R _ _ kc ks (jj_S, 782, h, g) 159 [(0, .ref 49), (1, .int (nI N))] [] Q
    have h26 : h 49 26 = nI L.length := by
      rw [z49, jj_une (by decide), jj_une (by decide), jj_une (by decide), jj_une (by decide)]
      exact h26
    have k17 : h 49 17 = nI m_ := by
      rw [z49, jj_une (by decide), jj_une (by decide), jj_une (by decide), jj_une (by decide), y49, jj_une (by decide)]
      exact (fr1.2 17 rfl).trans hm
    have ho : ∀ x, ¬ x = 49 → ¬ (500 ≤ x ∧ x < 516) → pU x = false → h x = h0 x := fun x a b c => (zo x a).trans ((yo x a b).trans (fr1.1 x c a))
    have hg7 : ∀ i z, L[i]? = some z → wrl z (jj_gd h 417 80 i) := fun i z hi => by
      have hi2 := (List.getElem?_eq_some_iff.mp hi).1
      rw [← jj_gd_at (by omega), zo _ (by omega), yo _ (by omega) (by omega)]
      exact hL i z hi
    have g64 : jj_gd h 64 8 = jj_gd h0 64 8 := gd_eq (fun j hj => ho _ (by omega) (by omega) (pU_no (by omega)))
    have g75 : jj_gd h 75 160 = jj_gd h0 75 160 := gd_eq (fun j hj => ho _ (by omega) (by omega) (pU_no (by omega)))
    have pm := wk_pmok hn (by omega) wl0 hg7
    refine rr_aload_n 0 rfl rfl dX10_work_159 ?_
    refine rr_iconst 0 rfl dX10_work_160 ?_
    refine rr_aload_n 0 rfl rfl dX10_work_161 ?_
    refine rr_getI dX10_work_162 fX10_248 lo_49 sh_49 rfl ?_
    rw [show (h 49) 26 = (nI (L.length)) from h26]
    refine rr_callV (As := [.int 0, .int (nI (L.length))]) (rest := []) (kc2 := 0) (ks2 := 0) dX10_work_165 okX10_goes lX10_294 lo_49 sh_49 rfl rfl (Nat.le_of_ble_eq_true rfl) (Nat.le_of_ble_eq_true rfl) rfl (by omega) (by simp [jj_rk]) (by simp [jj_rk]) ?_
    obtain ⟨dd, hdd⟩ : ∃ x, d + 63 = x + L.length + 8 := ⟨d + 55 - L.length, by omega⟩
    rw [hdd]
    refine sp_go (d := dd) (n := n) (m := m_) (z := L.length) hn hm2 (by omega) L.length (F := 0) (E := L.length) ((congrFun (ho 53 (by decide) (by decide) rfl) 0).trans hP) (by rw [g75, ho 8 (by decide) (by decide) rfl]; exact hlw) (by decide) rfl rfl (Nat.le_refl _) (by omega) ⟨k17, 0, by rw [z49]; rfl, Nat.le_refl _, by decide⟩ pm.1 (fun r _ hr => pm.2 r hr) (fun h8 hq => ?_)
    show jj_R _ _ kc ks (jj_S, 782, _, g) 168 [(0, .ref 49), (1, .int (nI N))] [] Q
    rw [g64, ho 8 (by decide) (by decide) rfl, ho 73 (by decide) (by decide) rfl, ho 497 (by decide) (by decide) rfl]
    refine jj_fl (fun h9 eh => ?_)
    obtain ⟨R, eR⟩ : ∃ R, R = (go (h0 8) (h0 73) (jj_gd h0 64 8) (jj_gd h 417 80) n m_ L.length 0 (nI L.length) (h 49) (h0 497)) := ⟨_, rfl⟩
    rw [← eR] at eh
    have x49 : h9 49 = R.1 := by rw [eh]; rfl
    have x497 : h9 497 = R.2 := by rw [eh]; rfl
    have xo : ∀ x, ¬ x = 49 → ¬ x = 497 → x ∉ [414, 415] → h9 x = h x := fun x a b c => by
      rw [eh, ← hq x c]
      have n49 : (x == 49) = false := by rw [beq_eq_false_iff_ne]; omega
      have n497 : (x == 497) = false := by rw [beq_eq_false_iff_ne]; omega
      simp [jj_rs, List.lookup, n49, n497]
    have x5 : jj_gd h9 500 16 = qX10_copies_ng_500 (h0 497) (jj_gd h0 500 16) (nI u) := by
      rw [← y5]
      exact gd_eq (fun j hj => (xo _ (by omega) (by omega) (by simp; omega)).trans (zo _ (by omega)))
    clear eh
    revert h9
    intro h x49 x497 xo x5
    show jj_R _ _ kc ks (jj_S, 782, h, g) 168 [(0, .ref 49), (1, .int (nI N))] [] Q
    refine rr_aload_n 0 rfl rfl dX10_work_168 ?_
    refine rr_getI dX10_work_169 fX10_301 lo_49 sh_49 rfl ?_
    refine rr_ireturn dX10_work_172 rfl ?_
    rw [x49]
    refine k1 L h _ e2 ⟨_, _, ⟨?_, ?_, ?_⟩, hg7, by omega, R, eR, rfl, x49, x497, x5, ⟨?_, ?_, ?_, ?_, k17⟩, fun i p q1 q2 q3 q4 => ?_, fun x hx a b c d1 d2 => ?_⟩
    · rw [z49]; rfl
    · rw [z49]; rfl
    · rw [z49]; rfl
    · rw [z49, jj_une (by decide), jj_une (by decide), jj_une (by decide), jj_une (by decide), y49, jj_une (by decide)]
      exact t0
    · rw [z49, jj_une (by decide), jj_une (by decide), jj_une (by decide), jj_une (by decide), y49, jj_une (by decide)]
      exact t1
    · rw [z49, jj_une (by decide), jj_une (by decide), jj_une (by decide), jj_une (by decide), y49]
      rfl
    · rw [z49, jj_une (by decide), jj_une (by decide), jj_une (by decide)]
      rfl
    · have q := fN_no p
      rw [z49, jj_une q2, jj_une q4, jj_une q3, jj_une q1, y49, jj_une (by omega)]
      exact fr1.2 i p
    · rw [xo x a b (by simp [d1, d2])]
      exact ho x a c hx
  · skip
    refine rr_aload_n 0 rfl rfl dX10_work_101 ?_
    refine rr_getI dX10_work_102 fX10_111 lo_49 sh_49 rfl ?_
    refine rr_if_eq dX10_work_105 (fun c => absurd c m.2.2.1) (fun _ => ?_)
    refine rr_aload_n 0 rfl rfl dX10_work_108 ?_
    refine rr_callV (As := []) (rest := []) (kc2 := 0) (ks2 := 0) dX10_work_109 okX10_ends lX10_181 lo_49 sh_49 rfl rfl (Nat.le_of_ble_eq_true rfl) (Nat.le_of_ble_eq_true rfl) rfl (by omega) (by simp [jj_rk]) (by simp [jj_rk]) ?_
    refine rl_ends (k := k) (p := p) m.1 m.2.1 ?_
    show jj_R _ _ kc ks (jj_S, 782, jj_rs h [(49, upd (h 49) 3 (nI p))], g) 112 [(0, .ref 49), (1, .int (nI N))] [.int (nI k - 10)] Q
    refine rr_ireturn dX10_work_112 rfl ?_
    have fr1 := fr_tr fq (fr_mo (fun _ q => q) fU_N m.2.2.2.1)
    refine k2 k p _ ?_ ⟨(jj_une (by decide)).trans ((m.2.2.2.1.2 0 rfl).trans t0), (jj_une (by decide)).trans ((m.2.2.2.1.2 1 rfl).trans t1), jj_ueq rfl, fun x hx x49 => ?_, fun i p => ?_⟩
    · unfold pwork
      rw [pstps_eq]
      rcases e1 with e1 | ⟨L2, b, e1, q1, rfl, rfl⟩
      · rw [pb_er e1]
      · rw [pb_ok e1, if_neg q1]
    · rw [rs_ne x49]; exact fr1.1 x hx x49
    · have q := fN_no p
      exact (jj_une (by omega)).trans (fr1.2 i p)
