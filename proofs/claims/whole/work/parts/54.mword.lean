/-- digits from 1 to 26 tell the word -/
def V27 (f : Nat → Nat) : Nat → Nat
  | 0 => 0
  | k + 1 => 27 * V27 f k + f k
theorem V27_inj {f g : Nat → Nat} : ∀ k m, (∀ i, i < k → 1 ≤ f i ∧ f i ≤ 26) → (∀ i, i < m → 1 ≤ g i ∧ g i ≤ 26) → V27 f k = V27 g m → k = m ∧ ∀ i, i < k → f i = g i
  | 0, 0, _, _, _ => ⟨rfl, fun i hi => absurd hi (Nat.not_lt_zero i)⟩
  | 0, m + 1, _, hg, h => by
    have := hg m (by omega)
    rw [V27, V27] at h
    omega
  | k + 1, 0, hf, _, h => by
    have := hf k (by omega)
    rw [V27, V27] at h
    omega
  | k + 1, m + 1, hf, hg, h => by
    have h1 := hf k (by omega)
    have h2 := hg m (by omega)
    rw [V27, V27] at h
    have h3 : V27 f k = V27 g m ∧ f k = g m := by omega
    obtain ⟨e1, e2⟩ := V27_inj k m (fun i hi => hf i (by omega)) (fun i hi => hg i (by omega)) h3.1
    subst e1
    refine ⟨rfl, fun i hi => ?_⟩
    by_cases q : i = k
    · rw [q]; exact h3.2
    · exact e2 i (by omega)
theorem V27_c {f g : Nat → Nat} : ∀ k, (∀ i, i < k → f i = g i) → V27 f k = V27 g k
  | 0, _ => rfl
  | k + 1, h => by rw [V27, V27, V27_c k (fun i hi => h i (by omega)), h k (by omega)]
theorem W27_V {c : Nat → Nat} {a : Nat} : ∀ k, k ≤ 6 → W27 c a k = V27 (fun i => c (a + i) - 96) k
  | 0, _ => rfl
  | k + 1, h => by rw [W27, if_pos (by omega), V27, W27_V k (by omega)]
/-- the number of a word -/
def w27 (L : List Nat) : Nat := V27 (fun i => L.getD i 0 - 96) L.length
theorem wm_iff {c : Nat → Nat} : ∀ (L : List Nat) (p : Nat), wm c p L = true ↔ ∀ i, i < L.length → c (p + i) = L.getD i 0
  | [], p => ⟨fun _ i hi => absurd hi (Nat.not_lt_zero i), fun _ => rfl⟩
  | x :: t, p => by
    rw [wm, Bool.and_eq_true, wm_iff t (p + 1), beq_iff_eq]
    refine ⟨fun q i hi => ?_, fun q => ⟨q 0 (Nat.zero_lt_succ _), fun i hi => ?_⟩⟩
    · cases i with
      | zero => exact q.1
      | succ i =>
        rw [List.length_cons] at hi
        have := q.2 i (by omega)
        rw [show p + (i + 1) = p + 1 + i by omega]
        exact this
    · have := q (i + 1) (by rw [List.length_cons]; omega)
      rw [show p + (i + 1) = p + 1 + i by omega] at this
      exact this
theorem kd_2 {c : Nat → Nat} {e a : Nat} (h : kd c e a = 2) : a < e ∧ isL (c a) = true ∧ nx c e a = spn isL c e a := by
  unfold kd at h
  unfold nx
  by_cases w : e ≤ a
  · rw [if_pos w] at h; exact absurd h (by decide)
  · rw [if_neg w] at h ⊢
    by_cases d1 : isD (c a) = true
    · rw [if_pos d1] at h; exact absurd h (by decide)
    · rw [if_neg d1] at h ⊢
      by_cases l1 : isL (c a) = true
      · rw [if_pos l1]; exact ⟨by omega, l1, rfl⟩
      · rw [if_neg l1] at h; exact absurd h (by decide)
theorem kd_L {c : Nat → Nat} {e a : Nat} (h : a < e) (l1 : isL (c a) = true) : kd c e a = 2 := by
  have hb := let_b l1
  have d1 : ¬ isD (c a) = true := fun q => by
    unfold isD at q
    simp only [Bool.and_eq_true, decide_eq_true_eq] at q
    omega
  unfold kd
  rw [if_neg (by omega), if_neg d1, if_pos l1]
/-- what wordHere answers -/
def wh (c : Nat → Nat) (e a : Nat) : Int32 := if 6 < spn isL c e a - a then -1 else nI (W27 c a (spn isL c e a - a))
theorem wh_is {c : Nat → Nat} {e a : Nat} {L : List Nat} (hL : ∀ i, i < L.length → 97 ≤ L.getD i 0 ∧ L.getD i 0 ≤ 122) (h1 : 0 < L.length) (h6 : L.length ≤ 6) (hw : w27 L < 2 ^ 31) : wh c e a = nI (w27 L) ↔ wis c e a L = true := by
  have hl : ∀ i, i < spn isL c e a - a → isL (c (a + i)) = true := fun i hi => spn_in (x := a) (e := e) (by omega) (by omega)
  unfold wh wis
  rw [Bool.and_eq_true, Bool.and_eq_true, decide_eq_true_eq, decide_eq_true_eq, wm_iff]
  by_cases q : 6 < spn isL c e a - a
  · rw [if_pos q]
    refine ⟨fun z => ?_, fun z => ?_⟩
    · exfalso
      have := congrArg Int32.toInt z
      rw [nI_toInt hw, show (-1 : Int32).toInt = -1 from rfl] at this
      omega
    · exfalso
      rw [(kd_2 z.1).2.2] at z
      omega
  · rw [if_neg q]
    have hW := W27_le hl
    rw [nI_eq (by omega) hw, W27_V _ (by omega)]
    unfold w27
    have hf : ∀ i, i < spn isL c e a - a → 1 ≤ (fun i => c (a + i) - 96) i ∧ (fun i => c (a + i) - 96) i ≤ 26 := fun i hi => by
      have := let_b (hl i hi)
      dsimp only
      omega
    have hg : ∀ i, i < L.length → 1 ≤ (fun i => L.getD i 0 - 96) i ∧ (fun i => L.getD i 0 - 96) i ≤ 26 := fun i hi => by
      have := hL i hi
      dsimp only
      omega
    refine ⟨fun z => ?_, fun z => ?_⟩
    · obtain ⟨n1, n2⟩ := V27_inj _ _ hf hg z
      have ag := spn_ge (P := isL) (c := c) (e := e) (x := a)
      have ae : a < e := by
        rcases Nat.lt_or_ge a e with w | w
        · exact w
        · have := spn_no (P := isL) (c := c) (e := e) (x := a) (fun y => by omega)
          omega
      have l0 : isL (c a) = true := hl 0 (by omega)
      have k2 := kd_L ae l0
      refine ⟨k2, by rw [(kd_2 k2).2.2]; exact n1, fun i hi => ?_⟩
      have h3 := n2 i (by omega)
      have h4 := let_b (hl i (by omega))
      have h5 := hL i hi
      try dsimp only at h3
      omega
    · have e2 := (kd_2 z.1).2.2
      rw [e2] at z
      rw [z.2.1]
      exact V27_c _ (fun i hi => by (try dsimp only); rw [z.2.2 i hi])
theorem sp_wordHere {c : Nat → Nat} {e x d kc ks : Nat} {h : Nat → Nat → Int32} {g : Nat → Nat → Int64} {Q : jj_Rs → jj_St → Prop} (he : e ≤ 600) (hs : h 49 2 = nI e) (ha : h 49 4 = nI x) (hF : fedok (h 50) c) (hx : x ≤ e) (kq : Q (.inl (some (.int (wh c e (spn isB c e x))))) (jj_S, 782, jj_rs h [(49, upd (h 49) 4 (nI (spn isB c e x)))], g)) : jj_R mX10_wordHere (d + 2) kc ks (jj_S, 782, h, g) 0 [(0, .ref 49)] [] Q := by
  have hA : spn isB c e x ≤ e := spn_le hx
  refine rr_aload_n 0 rfl rfl dX10_wordHere_0 ?_
  refine rr_callV (As := []) (rest := []) (kc2 := 0) (ks2 := 0) dX10_wordHere_1 okX10_blanks lX10_117 lo_49 sh_49 rfl rfl (Nat.le_of_ble_eq_true rfl) (Nat.le_of_ble_eq_true rfl) rfl (by omega) (by simp [jj_rk]) (by simp [jj_rk]) ?_
  refine sp_blanks he hs ha hF (by omega) ?_
  show jj_R _ _ kc ks (jj_S, 782, (jj_rs h [(49, (upd (h 49) (4) (nI (spn isB c e x))))]), g) 4 [(0, .ref 49)] [] Q
  refine rr_iconst 0 rfl dX10_wordHere_4 ?_
  refine rr_istore_n [(0, .ref 49), (1, .int 0)] dX10_wordHere_5 rfl (by decide) rfl ?_
  refine rr_iconst 0 rfl dX10_wordHere_6 ?_
  refine rr_istore_n [(0, .ref 49), (1, .int 0), (2, .int 0)] dX10_wordHere_7 rfl (by decide) rfl ?_
  have e1 : upd (h 49) 4 (nI (spn isB c e x)) 2 = nI e := (jj_une (by decide)).trans hs
  refine sp_whL (a := spn isB c e x) (k := 0) (d := d + 1) he (e - (spn isB c e x)) (by omega) e1 (jj_ueq rfl) hF (by omega) (fun i hi => absurd hi (Nat.not_lt_zero i)) ?_
  have hl : ∀ i, i < spn isL c e (spn isB c e x) - (spn isB c e x) → isL (c (spn isB c e x + i)) = true := fun i hi => spn_in (x := spn isB c e x) (e := e) (by omega) (by omega)
  have hn2 := spn_le (P := isL) (c := c) hA
  show jj_R _ _ kc ks (jj_S, 782, jj_rs h [(49, upd (h 49) 4 (nI (spn isB c e x)))], g) 61 [(0, .ref 49), (1, .int (nI (W27 c (spn isB c e x) (spn isL c e (spn isB c e x) - (spn isB c e x))))), (2, .int (nI (spn isL c e (spn isB c e x) - (spn isB c e x))))] [] Q
  unfold wh at kq
  refine rr_iload_n 2 rfl rfl dX10_wordHere_61 ?_
  refine rr_bipush 6 rfl dX10_wordHere_62 ?_
  refine rr_icmp_le dX10_wordHere_64 (fun c1 => ?_) (fun c1 => ?_)
  · have q : ¬ 6 < spn isL c e (spn isB c e x) - (spn isB c e x) := fun q => absurd c1 (nI_ge (a := 6) q (by omega))
    rw [if_neg q] at kq
    refine rr_iload_n 1 rfl rfl dX10_wordHere_71 ?_
    exact rr_ireturn dX10_wordHere_72 rfl kq
  · have q : 6 < spn isL c e (spn isB c e x) - (spn isB c e x) := by
      rcases Nat.lt_or_ge 6 (spn isL c e (spn isB c e x) - (spn isB c e x)) with q | q
      · exact q
      · exact absurd (nI_le (b := 6) q (by decide)) c1
    rw [if_pos q] at kq
    refine rr_iconst (-1) rfl dX10_wordHere_67 ?_
    refine rr_goto dX10_wordHere_68 ?_
    exact rr_ireturn dX10_wordHere_72 rfl kq
