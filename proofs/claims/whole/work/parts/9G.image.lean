/-! ===== image and restore of both ===== -/
def psF (v : Int32) (r : Nat → Int32) (G : Nat → Nat → Int32) (i : Nat) : Int32 := if i = 0 then v else if i < 36 then r (i - 1) else G ((i - 36) / 35) ((i - 36) % 35)
def ps (t c : Nat) (r49 : Nat → Int32) (g : Nat → Nat → Int32) (F : Nat → Int32) (a : Nat → Int32) (G : Nat → Nat → Int32) : Prop := a 35 = nI c ∧ (∀ i, ¬ i = 35 → a i = r49 i) ∧ (∀ j, j < 3 → ¬ j = t → G j = g j) ∧ ∀ i, i < c → G t i = F i
theorem ps_1 {t c : Nat} {r49 : Nat → Int32} {g : Nat → Nat → Int32} {F : Nat → Int32} {a : Nat → Int32} {G G2 : Nat → Nat → Int32} {v : Int32} (h : ps t c r49 g F a G) (ht : t < 3) (hc : c < 600) (hG : ∀ j, j < 3 → G2 j = G j) (hv : v = F c) : ps t (c + 1) r49 g F (rX10_puts_0_49 a G2 (nI t) v) (qX10_puts_0_517 a G2 (nI t) v) := by
  obtain ⟨h1, h2, h3, h4⟩ := h
  unfold rX10_puts_0_49 qX10_puts_0_517
  rw [h1, nI_clamp (by omega), nI_clamp (by omega)]
  refine ⟨by rw [jj_ueq rfl, nI_1], fun i hi => by rw [jj_une hi]; exact h2 i hi, fun j hj hjt => ?_, fun i hi => ?_⟩
  · show (if j = t then _ else G2 j) = _
    rw [if_neg hjt, hG j hj]; exact h3 j hj hjt
  · show (if t = t then upd (G2 t) c v else G2 t) i = _
    rw [if_pos rfl]
    by_cases e : i = c
    · rw [jj_ueq e, hv, e]
    · rw [jj_une e, hG t ht]; exact h4 i (by omega)
theorem gc3 {G : Nat → Nat → Int32} : ∀ j, j < 3 → jj_gc 3 G j = G j := fun j hj => if_pos hj
theorem upd_same {r : Nat → Int32} {k : Nat} {v : Int32} (h : v = r k) : upd r k v = r := by
  funext j
  by_cases e : j = k
  · rw [jj_ueq e, h, e]
  · rw [jj_une e]
theorem ug_same {G : Nat → Nat → Int32} {x k : Nat} {v : Int32} (h : v = G x k) : jj_ug G x k v = G := by
  funext j
  unfold jj_ug
  by_cases e : j = x
  · rw [if_pos e]; subst e; exact upd_same h
  · rw [if_neg e]
theorem pa0 {t : Nat} {r49 r497 : Nat → Int32} {g500 g517 : Nat → Nat → Int32} (ht : t < 3) : ps t 596 r49 g517 (psF (r49 32) r497 g500) (rX10_putsAll_0_49 r49 r497 g500 g517 (nI t)) (qX10_putsAll_0_517 r49 r497 g500 g517 (nI t)) ∧ rX10_putsAll_0_497 r49 r497 g500 g517 (nI t) = r497 ∧ qX10_putsAll_0_500 r49 r497 g500 g517 (nI t) = g500 := by
  have s0 : ps t 0 r49 g517 (psF (r49 32) r497 g500) (upd r49 35 0) g517 := ⟨rfl, fun i hi => jj_une hi, fun _ _ _ => rfl, fun i hi => absurd hi (by omega)⟩
  have s1 := ps_1 (G2 := g517) (v := r49 32) s0 ht (by omega) (fun _ _ => rfl) rfl
  have s2 : ps t 1 r49 g517 (psF (r49 32) r497 g500) (upd (rX10_puts_0_49 (upd r49 35 0) g517 (nI t) (r49 32)) 32 (vX10_puts_0 (upd r49 35 0) g517 (nI t) (r49 32))) (qX10_puts_0_517 (upd r49 35 0) g517 (nI t) (r49 32)) := by
    rw [upd_same]
    · exact s1
    · exact (s1.2.1 32 (by decide)).symm
  have l1 := fo_inv (P := fun k (a : (Nat → Int32) × (Nat → Int32) × (Nat → Nat → Int32)) => ps t (1 + k) r49 g517 (psF (r49 32) r497 g500) a.1 a.2.2 ∧ a.2.1 = r497) (f := fX10_putsAll_0_1 (nI t)) 35 ((upd (rX10_puts_0_49 (upd r49 35 0) g517 (nI t) (r49 32)) 32 (vX10_puts_0 (upd r49 35 0) g517 (nI t) (r49 32))), r497, (qX10_puts_0_517 (upd r49 35 0) g517 (nI t) (r49 32))) ⟨s2, rfl⟩ (fun k a hk ih => by
    obtain ⟨i1, i2⟩ := ih
    refine ⟨ps_1 (c := 1 + k) i1 ht (by omega) gc3 ?_, ?_⟩
    · rw [i2]; unfold psF
      rw [if_neg (by omega), if_pos (by omega)]
      exact congrArg r497 (by omega)
    · show upd a.2.1 k (a.2.1 k) = r497
      rw [upd_same rfl]; exact i2)
  have l2 := fo_inv (P := fun w (a : (Nat → Int32) × (Nat → Nat → Int32) × (Nat → Nat → Int32)) => ps t (36 + 35 * w) r49 g517 (psF (r49 32) r497 g500) a.1 a.2.2 ∧ a.2.1 = g500) (f := fX10_putsAll_0_2 (nI t)) 16 ((jj_fo (fX10_putsAll_0_1 (nI t)) 35 ((upd (rX10_puts_0_49 (upd r49 35 0) g517 (nI t) (r49 32)) 32 (vX10_puts_0 (upd r49 35 0) g517 (nI t) (r49 32))), r497, (qX10_puts_0_517 (upd r49 35 0) g517 (nI t) (r49 32)))).1, g500, (jj_fo (fX10_putsAll_0_1 (nI t)) 35 ((upd (rX10_puts_0_49 (upd r49 35 0) g517 (nI t) (r49 32)) 32 (vX10_puts_0 (upd r49 35 0) g517 (nI t) (r49 32))), r497, (qX10_puts_0_517 (upd r49 35 0) g517 (nI t) (r49 32)))).2.2) ⟨l1.1, rfl⟩ (fun w a hw ih => by
    obtain ⟨i1, i2⟩ := ih
    have l3 := fo_inv (P := fun k (b : (Nat → Int32) × (Nat → Nat → Int32) × (Nat → Nat → Int32)) => ps t (36 + 35 * w + k) r49 g517 (psF (r49 32) r497 g500) b.1 b.2.2 ∧ b.2.1 = g500) (f := fX10_putsAll_0_3 (nI t) w) 35 (a.1, a.2.1, a.2.2) ⟨i1, i2⟩ (fun k b hk jh => by
      obtain ⟨j1, j2⟩ := jh
      refine ⟨ps_1 (c := 36 + 35 * w + k) j1 ht (by omega) gc3 ?_, ?_⟩
      · rw [j2, nI_clamp (by omega)]; unfold psF
        rw [if_neg (by omega), if_neg (by omega), show (36 + 35 * w + k - 36) / 35 = w by omega, show (36 + 35 * w + k - 36) % 35 = k by omega]
      · show jj_ug b.2.1 _ k (b.2.1 _ k) = g500
        rw [ug_same rfl]; exact j2)
    exact l3)
  exact ⟨l2.1, l1.2, l2.2⟩
theorem pv_at {t c : Nat} {a : Nat → Int32} {g517 : Nat → Nat → Int32} (ht : t < 3) (hc : c < 600) (h : a 35 = nI c) : vX10_puts_1 a g517 (nI t) = g517 t c := by
  unfold vX10_puts_1
  rw [h, nI_clamp (by omega), nI_clamp (by omega)]
def pq (t c : Nat) (r49 : Nat → Int32) (g517 : Nat → Nat → Int32) (a : Nat → Int32) : Prop := a 35 = nI c ∧ (∀ i, ¬ i = 35 → ¬ i = 32 → a i = r49 i) ∧ a 32 = g517 t 0
theorem pq_1 {t c : Nat} {r49 a : Nat → Int32} {g517 : Nat → Nat → Int32} {s : Int32} (h : pq t c r49 g517 a) : pq t (c + 1) r49 g517 (rX10_puts_1_49 a g517 s) := by
  unfold rX10_puts_1_49
  rw [h.1]
  exact ⟨by rw [jj_ueq rfl, nI_1], fun i q1 q2 => by rw [jj_une q1]; exact h.2.1 i q1 q2, by rw [jj_une (by decide)]; exact h.2.2⟩
theorem pa1a {t : Nat} {r49 r497 : Nat → Int32} {g517 : Nat → Nat → Int32} (ht : t < 3) : pq t 36 r49 g517 (jj_fo (fX10_putsAll_1_1 g517 (nI t)) 35 ((upd (rX10_puts_1_49 (upd r49 35 0) g517 (nI t)) 32 (vX10_puts_1 (upd r49 35 0) g517 (nI t))), r497)).1 ∧ ∀ j, j < 35 → (jj_fo (fX10_putsAll_1_1 g517 (nI t)) 35 ((upd (rX10_puts_1_49 (upd r49 35 0) g517 (nI t)) 32 (vX10_puts_1 (upd r49 35 0) g517 (nI t))), r497)).2 j = g517 t (1 + j) := by
  have e0 : rX10_puts_1_49 (upd r49 35 0) g517 (nI t) = upd (upd r49 35 0) 35 1 := by
    unfold rX10_puts_1_49
    rw [jj_ueq (f := r49) rfl]
    rfl
  have e1 : upd (rX10_puts_1_49 (upd r49 35 0) g517 (nI t)) 32 (vX10_puts_1 (upd r49 35 0) g517 (nI t)) 35 = nI 1 := by
    rw [jj_une (by decide), e0, jj_ueq rfl]
    rfl
  have e2 : ∀ i, ¬ i = 35 → ¬ i = 32 → upd (rX10_puts_1_49 (upd r49 35 0) g517 (nI t)) 32 (vX10_puts_1 (upd r49 35 0) g517 (nI t)) i = r49 i := fun i q1 q2 => by
    rw [jj_une q2, e0, jj_une q1, jj_une q1]
  have e3 : upd (rX10_puts_1_49 (upd r49 35 0) g517 (nI t)) 32 (vX10_puts_1 (upd r49 35 0) g517 (nI t)) 32 = g517 t 0 := by
    rw [jj_ueq rfl]
    exact pv_at (c := 0) ht (by omega) (jj_ueq rfl)
  have q0 : pq t (0 + 1) r49 g517 (upd (rX10_puts_1_49 (upd r49 35 0) g517 (nI t)) 32 (vX10_puts_1 (upd r49 35 0) g517 (nI t))) := ⟨e1, e2, e3⟩
  revert q0
  generalize upd (rX10_puts_1_49 (upd r49 35 0) g517 (nI t)) 32 (vX10_puts_1 (upd r49 35 0) g517 (nI t)) = A
  intro q0
  exact fo_inv (P := fun k (a : (Nat → Int32) × (Nat → Int32)) => pq t (k + 1) r49 g517 a.1 ∧ ∀ j, j < k → a.2 j = g517 t (1 + j)) (f := fX10_putsAll_1_1 g517 (nI t)) 35 (A, r497) ⟨q0, fun j hj => absurd hj (by omega)⟩ (fun k a hk ih => by
    obtain ⟨i1, i2⟩ := ih
    refine ⟨pq_1 (s := nI t) i1, fun j hj => ?_⟩
    show upd a.2 k (vX10_puts_1 a.1 g517 (nI t)) j = _
    rw [pv_at ht (by omega) i1.1]
    by_cases e : j = k
    · rw [jj_ueq e, e, Nat.add_comm]
    · rw [jj_une e]; exact i2 j (by omega))
theorem pa1b {t : Nat} {r49 A : Nat → Int32} {g500 g517 : Nat → Nat → Int32} (ht : t < 3) (hA : pq t 36 r49 g517 A) : pq t 596 r49 g517 (jj_fo (fX10_putsAll_1_2 g517 (nI t)) 16 (A, g500)).1 ∧ ∀ w, w < 16 → ∀ k, k < 35 → (jj_fo (fX10_putsAll_1_2 g517 (nI t)) 16 (A, g500)).2 w k = g517 t (36 + 35 * w + k) := by
  exact fo_inv (P := fun w (a : (Nat → Int32) × (Nat → Nat → Int32)) => pq t (36 + 35 * w) r49 g517 a.1 ∧ ∀ v, v < w → ∀ k, k < 35 → a.2 v k = g517 t (36 + 35 * v + k)) (f := fX10_putsAll_1_2 g517 (nI t)) 16 (A, g500) ⟨hA, fun v hv => absurd hv (by omega)⟩ (fun w a hw ih => by
    obtain ⟨i1, i2⟩ := ih
    have l3 := fo_inv (P := fun k (b : (Nat → Int32) × (Nat → Nat → Int32)) => pq t (36 + 35 * w + k) r49 g517 b.1 ∧ (∀ v, v < w → b.2 v = a.2 v) ∧ ∀ j, j < k → b.2 w j = g517 t (36 + 35 * w + j)) (f := fX10_putsAll_1_3 g517 (nI t) w) 35 (a.1, a.2) ⟨i1, fun _ _ => rfl, fun j hj => absurd hj (by omega)⟩ (fun k b hk jh => by
      obtain ⟨j1, j2, j3⟩ := jh
      have e : (fX10_putsAll_1_3 g517 (nI t) w k b).2 = jj_ug b.2 w k (g517 t (36 + 35 * w + k)) := by
        show jj_ug b.2 _ k (vX10_puts_1 b.1 g517 (nI t)) = _
        rw [pv_at ht (by omega) j1.1, nI_clamp (by omega)]
      rw [e]
      refine ⟨pq_1 (s := nI t) j1, fun v hv => ?_, fun j hj => ?_⟩
      · show (if v = w then _ else b.2 v) = _
        rw [if_neg (by omega)]; exact j2 v hv
      · show (if w = w then upd (b.2 w) k _ else _) j = _
        rw [if_pos rfl]
        by_cases q : j = k
        · rw [jj_ueq q, q]
        · rw [jj_une q]; exact j3 j (by omega))
    have e3 : fX10_putsAll_1_2 g517 (nI t) w a = ((jj_fo (fX10_putsAll_1_3 g517 (nI t) w) 35 (a.1, a.2)).1, (jj_fo (fX10_putsAll_1_3 g517 (nI t) w) 35 (a.1, a.2)).2) := rfl
    rw [e3]
    revert l3
    generalize jj_fo (fX10_putsAll_1_3 g517 (nI t) w) 35 (a.1, a.2) = B
    intro l3
    refine ⟨l3.1, fun v hv k hk => ?_⟩
    show B.2 v k = _
    rcases Nat.lt_or_ge v w with q | q
    · rw [l3.2.1 v q]; exact i2 v q k hk
    · obtain rfl : v = w := by omega
      exact l3.2.2 k hk)
theorem pa1 {t : Nat} {r49 r497 : Nat → Int32} {g500 g517 : Nat → Nat → Int32} (ht : t < 3) : ((∀ i, ¬ i = 35 → ¬ i = 32 → rX10_putsAll_1_49 r49 r497 g500 g517 (nI t) i = r49 i) ∧ rX10_putsAll_1_49 r49 r497 g500 g517 (nI t) 32 = g517 t 0) ∧ (∀ k, k < 35 → rX10_putsAll_1_497 r49 r497 g500 g517 (nI t) k = g517 t (1 + k)) ∧ ∀ w, w < 16 → ∀ k, k < 35 → qX10_putsAll_1_500 r49 r497 g500 g517 (nI t) w k = g517 t (36 + 35 * w + k) := by
  unfold rX10_putsAll_1_49 rX10_putsAll_1_497 qX10_putsAll_1_500
  have l1 := pa1a (r49 := r49) (r497 := r497) (g517 := g517) ht
  have l2 := pa1b (g500 := g500) ht l1.1
  exact ⟨l2.1.2, l1.2, l2.2⟩
/-! image -/
def hcI (h : hp_) (u t : Nat) : hp_ := jj_rs h [(34, (rX9_image_34 (h 34) (h 35) (h 36) (h 37) (h 38) (h 39) (h 40) (h 41) (h 42) u t)), (36, (rX9_image_36 (h 34) (h 35) (h 36) (h 37) (h 38) (h 39) (h 40) (h 41) (h 42) u t)), (37, (rX9_image_37 (h 34) (h 35) (h 36) (h 37) (h 38) (h 39) (h 40) (h 41) (h 42) u t))]
def hmI (h : hp_) (t : Nat) : hp_ := jj_rs (jj_gs (jj_gs h 500 16 (qX10_image_500 (h 49) (h 497) (jj_gd h 500 16) (jj_gd h 517 3) t)) 517 3 (qX10_image_517 (h 49) (h 497) (jj_gd h 500 16) (jj_gd h 517 3) t)) [(49, (rX10_image_49 (h 49) (h 497) (jj_gd h 500 16) (jj_gd h 517 3) t)), (497, (rX10_image_497 (h 49) (h 497) (jj_gd h 500 16) (jj_gd h 517 3) t))]
theorem gs_inn {B : hp_} {b len x : Nat} {G : Nat → Nat → Int32} (hx : x < len) : jj_gs B b len G (b + x) = G x := by
  unfold jj_gs
  rw [if_pos (by omega), Nat.add_sub_cancel_left]
theorem gs_no {B : hp_} {b len x : Nat} {G : Nat → Nat → Int32} (hx : ¬ (b ≤ x ∧ x < b + len)) : jj_gs B b len G x = B x := if_neg hx
theorem iv_image {c : Nat → Nat} {T n m u t : Nat} {L : bL_} {h : hp_} (I : IV c T n m u t L h) : (∃ t2, IV c T n m u t2 L (hmI (hcI h u t) t)) ∧ hmI (hcI h u t) t 49 0 = 0 ∧ vX9_image (h 34) (h 35) (h 36) (h 37) (h 38) (h 39) (h 40) (h 41) (h 42) u t = vX10_image (hcI h u t 49) (hcI h u t 497) (jj_gd (hcI h u t) 500 16) (jj_gd (hcI h u t) 517 3) t := by
  obtain ⟨i1, ⟨c1, c2, c3, c4⟩, i3, i4, i5, i6, ⟨⟨u1, u2, u3⟩, ⟨t1, t2, t3⟩, i8, i9⟩⟩ := I
  have g5 : jj_gd (hcI h u t) 500 16 = jj_gd h 500 16 := jj_gd_rs rfl
  have g7 : jj_gd (hcI h u t) 517 3 = jj_gd h 517 3 := jj_gd_rs rfl
  have n3 : ∀ q : ¬ t = 3, ¬ nI t = 3 := fun q z => q ((nI_eq (a := t) (b := 3) (by omega) (by omega)).mp z)
  have n4 : ∀ q : ¬ t = 3, ¬ (3 : Int32) ≤ nI t := fun q z => absurd ((nI_leI (a := 3) (b := t) (by omega) (by omega)).mp z) (by omega)
  have K0 : ∀ x, ¬ x = 34 ∧ ¬ x = 36 ∧ ¬ x = 37 → hcI h u t x = h x := fun x q => by
    unfold hcI
    exact rs_no (P := fun y => y == 34 || y == 36 || y == 37) rfl (by simp only [Bool.or_eq_false_iff, beq_eq_false_iff_ne, ne_eq]; omega)
  have K1 : ∀ x, ¬ x = 49 ∧ ¬ x = 497 → hmI (hcI h u t) t x = jj_gs (jj_gs (hcI h u t) 500 16 (qX10_image_500 (h 49) (h 497) (jj_gd h 500 16) (jj_gd h 517 3) t)) 517 3 (qX10_image_517 (h 49) (h 497) (jj_gd h 500 16) (jj_gd h 517 3) t) x := fun x q => by
    unfold hmI
    rw [rs_no (P := fun y => y == 49 || y == 497) rfl (by simp only [Bool.or_eq_false_iff, beq_eq_false_iff_ne, ne_eq]; omega), g5, g7]
    rfl
  have K : ∀ x, ¬ x = 34 ∧ ¬ x = 36 ∧ ¬ x = 37 ∧ ¬ (500 ≤ x ∧ x < 516) ∧ ¬ (517 ≤ x ∧ x < 520) ∧ ¬ x = 49 ∧ ¬ x = 497 → hmI (hcI h u t) t x = h x := fun x q => by
    rw [K1 x (by omega), gs_no (by omega), gs_no (by omega), K0 x (by omega)]
  have k49 : hmI (hcI h u t) t 49 = rX10_image_49 (h 49) (h 497) (jj_gd h 500 16) (jj_gd h 517 3) t := by
    show rX10_image_49 (h 49) (h 497) (jj_gd (hcI h u t) 500 16) (jj_gd (hcI h u t) 517 3) t = _
    rw [g5, g7]
  have k497 : hmI (hcI h u t) t 497 = rX10_image_497 (h 49) (h 497) (jj_gd h 500 16) (jj_gd h 517 3) t := by
    show rX10_image_497 (h 49) (h 497) (jj_gd (hcI h u t) 500 16) (jj_gd (hcI h u t) 517 3) t = _
    rw [g5, g7]
  have k34 : hmI (hcI h u t) t 34 = rX9_image_34 (h 34) (h 35) (h 36) (h 37) (h 38) (h 39) (h 40) (h 41) (h 42) u t := rfl
  have k36 : hmI (hcI h u t) t 36 = rX9_image_36 (h 34) (h 35) (h 36) (h 37) (h 38) (h 39) (h 40) (h 41) (h 42) u t := rfl
  have k37 : hmI (hcI h u t) t 37 = rX9_image_37 (h 34) (h 35) (h 36) (h 37) (h 38) (h 39) (h 40) (h 41) (h 42) u t := rfl
  have k5 : ∀ w, w < 16 → hmI (hcI h u t) t (500 + w) = qX10_image_500 (h 49) (h 497) (jj_gd h 500 16) (jj_gd h 517 3) t w := fun w hw => by
    rw [K1 _ (by omega), gs_no (by omega), gs_inn hw]
  have k7 : ∀ i, i < 3 → hmI (hcI h u t) t (517 + i) = qX10_image_517 (h 49) (h 497) (jj_gd h 500 16) (jj_gd h 517 3) t i := fun i hi => by
    rw [K1 _ (by omega), gs_inn hi]
  rw [g5, g7]
  show _ ∧ _ ∧ _ = vX10_image (h 49) (h 497) (jj_gd h 500 16) (jj_gd h 517 3) t
  generalize hmI (hcI h u t) t = k at *
  clear K0 K1
  by_cases z : t = 3
  · have z3 : nI t = 3 := by rw [z]; rfl
    unfold rX10_image_49 at k49
    unfold rX10_image_497 at k497
    unfold rX9_image_34 at k34
    unfold rX9_image_36 at k36
    unfold rX9_image_37 at k37
    unfold qX10_image_500 at k5
    unfold qX10_image_517 at k7
    rw [if_pos z3] at k49 k497 k34 k36 k37
    simp only [if_pos z3] at k5 k7
    have K2 : ∀ x, ¬ x = 49 → k x = h x := fun x q => by
      by_cases q1 : x = 34
      · rw [q1]; exact k34
      by_cases q2 : x = 36
      · rw [q2]; exact k36
      by_cases q3 : x = 37
      · rw [q3]; exact k37
      by_cases q4 : x = 497
      · rw [q4]; exact k497
      by_cases q5 : 500 ≤ x ∧ x < 516
      · obtain ⟨w, rfl⟩ : ∃ w, x = 500 + w := ⟨x - 500, by omega⟩
        rw [k5 w (by omega), ← jj_gd_at (by omega)]
      by_cases q6 : 517 ≤ x ∧ x < 520
      · obtain ⟨w, rfl⟩ : ∃ w, x = 517 + w := ⟨x - 517, by omega⟩
        rw [k7 w (by omega), ← jj_gd_at (by omega)]
      exact K x ⟨q1, q2, q3, q5, q6, q, q4⟩
    refine ⟨⟨t, IV_kp ⟨i1, ⟨c1, c2, c3, c4⟩, i3, i4, i5, i6, ⟨⟨u1, u2, u3⟩, ⟨t1, t2, t3⟩, i8, i9⟩⟩ ⟨fun x hx => K2 x (fun q => by rw [q] at hx; exact absurd hx (by decide)), by rw [K2 25 (by decide)], fun i hi => by rw [k49, jj_une (fun q => by rw [q] at hi; exact absurd hi (by decide))], by rw [K2 0 (by decide)]⟩ ⟨by rw [K2 51 (by decide), K2 0 (by decide)]; exact c3, by rw [K2 51 (by decide), K2 0 (by decide)]; exact c4⟩⟩, by rw [k49]; rfl, ?_⟩
    unfold vX9_image vX10_image
    rw [if_pos z3, if_pos z3]
  · have z3 := n3 z
    have z4 := n4 z
    have ht : t < 3 := by omega
    obtain ⟨⟨p1, p2, p3, p4⟩, p5, p6⟩ := pa0 (r49 := upd (h 49) 0 0) (r497 := h 497) (g500 := jj_gd h 500 16) (g517 := jj_gd h 517 3) ht
    unfold rX10_image_49 at k49
    unfold rX10_image_497 at k497
    unfold rX9_image_34 rX1_keepImage_34 at k34
    unfold rX9_image_36 rX1_keepImage_36 at k36
    unfold rX9_image_37 rX1_keepImage_37 at k37
    unfold qX10_image_500 at k5
    unfold qX10_image_517 at k7
    rw [if_neg z3] at k49 k497
    rw [if_neg z3, if_neg z4] at k34 k36 k37
    simp only [if_neg z3] at k5 k7
    rw [p5] at k497
    rw [p6] at k5
    rw [nI_clamp (by omega), wt_36] at k36
    rw [nI_clamp (by omega)] at k37
    have F : ∀ i, ¬ i = 0 → ¬ i = 34 → ¬ i = 35 → k 49 i = h 49 i := fun i q1 q2 q3 => by rw [k49, jj_une q2, p2 i q3, jj_une q1]
    have e34 : k 49 34 = nI (t + 1) := by
      rw [k49, jj_ueq rfl, p2 34 (by decide), jj_une (by decide), t2, nI_1]
    obtain ⟨w1, w2, w3⟩ := wt_at (r := va_cpy (h 35) (h 36) (0 : Int32).toNatClampNeg (t * 17 * 35) (560 : Int32).toNatClampNeg) (r38 := h 38) (r39 := h 39) (r40 := h 40) (r41 := h 41) (r42 := h 42) (q := t * 17 + 16) (by omega)
    have hw := hrw_wr (r := va_cpy (h 35) (h 36) (0 : Int32).toNatClampNeg (t * 17 * 35) (560 : Int32).toNatClampNeg) (y := fun j => k (517 + t) (1 + j)) (q := t * 17 + 16) (by omega) (show nn (h 38) (h 39) (h 40) (h 41) (h 42) (h 497) from i5) (fun j hj => by
      show k (517 + t) (1 + j) = _
      rw [k7 t ht, p4 _ (by omega)]
      unfold psF
      rw [if_neg (by omega), if_pos (by omega)]
      exact congrArg (h 497) (by omega))
    refine ⟨⟨t + 1, iT_of i1 (fun x q => K x (by omega)) (by rw [K 13 (by omega)]; exact i1.2.2.1) (by rw [F 1 (by decide) (by decide) (by decide)]; exact i1.2.2.2.1) i1.2.2.2.2, ⟨?_, ?_, ?_, ?_⟩, iS_of i3 (fun x q => K x (by omega)), iL_of i4 (by rw [K 7 (by omega)]) (F 17 (by decide) (by decide) (by decide)) (fun x q => K x (by omega)), iN_of i5 (fun x q => by
      by_cases q4 : x = 497
      · rw [q4]; exact k497
      · exact K x (by omega)), iB_of i6 (by rw [K 25 (by omega)]) (F 31 (by decide) (by decide) (by decide)) (fun x q => K x (by omega)), ⟨⟨by rw [k34]; exact u1, by rw [F 32 (by decide) (by decide) (by decide)]; exact u2, u3⟩, ⟨by rw [k34]; rfl, e34, by omega⟩, fun w hw => ?_, fun i hi => ?_⟩⟩, ?_, ?_⟩
    · rw [F 3 (by decide) (by decide) (by decide), K 13 (by omega)]; exact c1
    · rw [F 33 (by decide) (by decide) (by decide), K 0 (by omega)]; exact c2
    · rw [K 51 (by omega), K 0 (by omega)]; exact c3
    · rw [K 51 (by omega), K 0 (by omega)]; exact c4
    · rw [K 35 (by omega), k5 w hw, ← jj_gd_at hw]; exact i8 w hw
    · by_cases q : i = t
      · subst q
        refine ⟨⟨u, u3, by rw [k37, jj_ueq rfl], by rw [k7 i ht, p4 0 (by omega)]; exact u2⟩, ?_, fun w hw2 => ?_⟩
        · rw [k36]
          rw [show 17 * i + 16 = i * 17 + 16 by omega]
          exact hw
        · refine hrw_of (i8 w hw2) (fun j hj => ?_) (fun j hj => ?_)
          · rw [k36, w1 _ (by omega), pk_cpy_in (by omega) (by show _ < _ + 560; omega)]
            exact congrArg (h 35) (by show 0 + _ = _; omega)
          · rw [k7 i ht, p4 _ (by omega)]
            unfold psF
            rw [if_neg (by omega), if_neg (by omega), ← jj_gd_at (by omega), show (36 + 35 * w + j - 36) / 35 = w by omega, show (36 + 35 * w + j - 36) % 35 = j by omega]
      · obtain ⟨⟨v, v1, v2, v3⟩, v4, v5⟩ := i9 i (by omega)
        have e7 : k (517 + i) = h (517 + i) := by rw [k7 i (by omega), p3 i (by omega) q, ← jj_gd_at (by omega)]
        have e6 : ∀ j, j < 595 → k 36 (595 * i + j) = h 36 (595 * i + j) := fun j hj => by
          rw [k36, w1 _ (by omega), pk_cpy_out (by show _ ∨ _ + 560 ≤ _; omega)]
        refine ⟨⟨v, v1, by rw [k37, jj_une q]; exact v2, by rw [e7]; exact v3⟩, hrw_of v4 (fun j hj => ?_) (fun j hj => by rw [e7]), fun w hw2 => hrw_of (v5 w hw2) (fun j hj => ?_) (fun j hj => by rw [e7])⟩
        · show k 36 (35 * (17 * i + 16) + j) = h 36 (35 * (17 * i + 16) + j)
          rw [show 35 * (17 * i + 16) + j = 595 * i + (560 + j) by omega]; exact e6 _ (by omega)
        · show k 36 (35 * (17 * i + w) + j) = h 36 (35 * (17 * i + w) + j)
          rw [show 35 * (17 * i + w) + j = 595 * i + (35 * w + j) by omega]; exact e6 _ (by omega)
    · rw [k49, jj_une (by decide), p2 0 (by decide)]; rfl
    · unfold vX9_image vX10_image rX1_keepImage_34
      rw [if_neg z3, if_neg z3, if_neg z4, p2 34 (by decide)]
      show nI (t + 1) = h 49 34 + 1
      rw [t2, nI_1]
