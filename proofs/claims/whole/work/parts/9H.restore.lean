/-! ===== restore of both ===== -/
def hcR (h : hp_) (t : Nat) : hp_ := jj_rs h [(0, (rX9_restore_0 (h 0) (h 34) (h 35) (h 36) (h 37) (h 38) (h 39) (h 40) (h 41) (h 42) t)), (34, (rX9_restore_34 (h 0) (h 34) (h 35) (h 36) (h 37) (h 38) (h 39) (h 40) (h 41) (h 42) t)), (35, (rX9_restore_35 (h 0) (h 34) (h 35) (h 36) (h 37) (h 38) (h 39) (h 40) (h 41) (h 42) t)), (38, (rX9_restore_38 (h 0) (h 34) (h 35) (h 36) (h 37) (h 38) (h 39) (h 40) (h 41) (h 42) t)), (39, (rX9_restore_39 (h 0) (h 34) (h 35) (h 36) (h 37) (h 38) (h 39) (h 40) (h 41) (h 42) t)), (40, (rX9_restore_40 (h 0) (h 34) (h 35) (h 36) (h 37) (h 38) (h 39) (h 40) (h 41) (h 42) t)), (41, (rX9_restore_41 (h 0) (h 34) (h 35) (h 36) (h 37) (h 38) (h 39) (h 40) (h 41) (h 42) t)), (42, (rX9_restore_42 (h 0) (h 34) (h 35) (h 36) (h 37) (h 38) (h 39) (h 40) (h 41) (h 42) t))]
def hmR (h : hp_) (t : Nat) : hp_ := jj_rs (jj_gs h 500 16 (qX10_restore_500 (h 49) (h 497) (jj_gd h 500 16) (jj_gd h 517 3) t)) [(49, (rX10_restore_49 (h 49) (h 497) (jj_gd h 500 16) (jj_gd h 517 3) t)), (497, (rX10_restore_497 (h 49) (h 497) (jj_gd h 500 16) (jj_gd h 517 3) t))]
theorem nn_rd6 {r r38 r39 r40 r41 r42 x y : Nat → Int32} {q : Nat} (hq : q ≤ 60) (h : hrw (fun i => r (35 * q + i)) x) (e3 : ∀ k, k < 35 → y k = x k) : nn (rX6_readFrom_36_38 r r38 r39 r40 r41 r42 q) (rX6_readFrom_36_39 r r38 r39 r40 r41 r42 q) (rX6_readFrom_36_40 r r38 r39 r40 r41 r42 q) (rX6_readFrom_36_41 r r38 r39 r40 r41 r42 q) (rX6_readFrom_36_42 r r38 r39 r40 r41 r42 q) y := nn_rd (r38 := r38) (r39 := r39) (r40 := r40) (r41 := r41) (r42 := r42) hq h e3
theorem iv_restore {c : Nat → Nat} {T n m u t : Nat} {L : bL_} {h : hp_} (I : IV c T n m u t L h) : (∃ u2 t2, IV c T n m u2 t2 L (hmR (hcR h t) t)) ∧ hmR (hcR h t) t 49 0 = 0 ∧ vX9_restore (h 0) (h 34) (h 35) (h 36) (h 37) (h 38) (h 39) (h 40) (h 41) (h 42) t = vX10_restore (hcR h t 49) (hcR h t 497) (jj_gd (hcR h t) 500 16) (jj_gd (hcR h t) 517 3) t := by
  obtain ⟨i1, ⟨c1, c2, c3, c4⟩, i3, i4, i5, i6, ⟨⟨u1, u2, u3⟩, ⟨t1, t2, t3⟩, i8, i9⟩⟩ := I
  have g5 : jj_gd (hcR h t) 500 16 = jj_gd h 500 16 := jj_gd_rs rfl
  have g7 : jj_gd (hcR h t) 517 3 = jj_gd h 517 3 := jj_gd_rs rfl
  have K0 : ∀ x, ¬ x = 0 ∧ ¬ x = 34 ∧ ¬ x = 35 ∧ ¬ (38 ≤ x ∧ x < 43) → hcR h t x = h x := fun x q => by
    unfold hcR
    exact rs_no (P := fun y => y == 0 || y == 34 || y == 35 || decide (38 ≤ y) && decide (y < 43)) rfl (by simp only [Bool.or_eq_false_iff, beq_eq_false_iff_ne, ne_eq, Bool.and_eq_false_iff, decide_eq_false_iff_not]; omega)
  have K1 : ∀ x, ¬ x = 49 ∧ ¬ x = 497 → hmR (hcR h t) t x = jj_gs (hcR h t) 500 16 (qX10_restore_500 (h 49) (h 497) (jj_gd h 500 16) (jj_gd h 517 3) t) x := fun x q => by
    unfold hmR
    rw [rs_no (P := fun y => y == 49 || y == 497) rfl (by simp only [Bool.or_eq_false_iff, beq_eq_false_iff_ne, ne_eq]; omega), g5, g7]
    rfl
  have K : ∀ x, ¬ x = 0 ∧ ¬ x = 34 ∧ ¬ x = 35 ∧ ¬ (38 ≤ x ∧ x < 43) ∧ ¬ (500 ≤ x ∧ x < 516) ∧ ¬ x = 49 ∧ ¬ x = 497 → hmR (hcR h t) t x = h x := fun x q => by
    rw [K1 x (by omega), gs_no (by omega), K0 x (by omega)]
  have k49 : hmR (hcR h t) t 49 = rX10_restore_49 (h 49) (h 497) (jj_gd h 500 16) (jj_gd h 517 3) t := by
    show rX10_restore_49 (h 49) (h 497) (jj_gd (hcR h t) 500 16) (jj_gd (hcR h t) 517 3) t = _
    rw [g5, g7]
  have k497 : hmR (hcR h t) t 497 = rX10_restore_497 (h 49) (h 497) (jj_gd h 500 16) (jj_gd h 517 3) t := by
    show rX10_restore_497 (h 49) (h 497) (jj_gd (hcR h t) 500 16) (jj_gd (hcR h t) 517 3) t = _
    rw [g5, g7]
  have k0 : hmR (hcR h t) t 0 = rX9_restore_0 (h 0) (h 34) (h 35) (h 36) (h 37) (h 38) (h 39) (h 40) (h 41) (h 42) t := rfl
  have k34 : hmR (hcR h t) t 34 = rX9_restore_34 (h 0) (h 34) (h 35) (h 36) (h 37) (h 38) (h 39) (h 40) (h 41) (h 42) t := rfl
  have k35 : hmR (hcR h t) t 35 = rX9_restore_35 (h 0) (h 34) (h 35) (h 36) (h 37) (h 38) (h 39) (h 40) (h 41) (h 42) t := rfl
  have k38 : hmR (hcR h t) t 38 = rX9_restore_38 (h 0) (h 34) (h 35) (h 36) (h 37) (h 38) (h 39) (h 40) (h 41) (h 42) t := rfl
  have k39 : hmR (hcR h t) t 39 = rX9_restore_39 (h 0) (h 34) (h 35) (h 36) (h 37) (h 38) (h 39) (h 40) (h 41) (h 42) t := rfl
  have k40 : hmR (hcR h t) t 40 = rX9_restore_40 (h 0) (h 34) (h 35) (h 36) (h 37) (h 38) (h 39) (h 40) (h 41) (h 42) t := rfl
  have k41 : hmR (hcR h t) t 41 = rX9_restore_41 (h 0) (h 34) (h 35) (h 36) (h 37) (h 38) (h 39) (h 40) (h 41) (h 42) t := rfl
  have k42 : hmR (hcR h t) t 42 = rX9_restore_42 (h 0) (h 34) (h 35) (h 36) (h 37) (h 38) (h 39) (h 40) (h 41) (h 42) t := rfl
  have k5 : ∀ w, w < 16 → hmR (hcR h t) t (500 + w) = qX10_restore_500 (h 49) (h 497) (jj_gd h 500 16) (jj_gd h 517 3) t w := fun w hw => by
    rw [K1 _ (by omega), gs_inn hw]
  rw [g5, g7]
  show _ ∧ _ ∧ _ = vX10_restore (h 49) (h 497) (jj_gd h 500 16) (jj_gd h 517 3) t
  generalize hmR (hcR h t) t = k at *
  clear K0 K1
  unfold rX10_restore_49 at k49
  unfold rX10_restore_497 at k497
  unfold rX9_restore_0 at k0
  unfold rX9_restore_34 rX1_takeImageBack_34 at k34
  unfold rX9_restore_35 rX1_takeImageBack_35 at k35
  unfold rX9_restore_38 rX1_takeImageBack_38 at k38
  unfold rX9_restore_39 rX1_takeImageBack_39 at k39
  unfold rX9_restore_40 rX1_takeImageBack_40 at k40
  unfold rX9_restore_41 rX1_takeImageBack_41 at k41
  unfold rX9_restore_42 rX1_takeImageBack_42 at k42
  unfold qX10_restore_500 at k5
  by_cases z : t = 0
  · have z3 : nI t = 0 := by rw [z]; rfl
    rw [if_pos z3] at k49 k497 k34 k35 k38 k39 k40 k41 k42 k0
    simp only [if_pos z3] at k5
    have K2 : ∀ x, ¬ x = 49 → k x = h x := fun x q => by
      by_cases q1 : x = 34
      · rw [q1]; exact k34
      by_cases q2 : x = 35
      · rw [q2]; exact k35
      by_cases q3 : x = 0
      · rw [q3]; exact k0
      by_cases q4 : x = 497
      · rw [q4]; exact k497
      by_cases q5 : 500 ≤ x ∧ x < 516
      · obtain ⟨w, rfl⟩ : ∃ w, x = 500 + w := ⟨x - 500, by omega⟩
        rw [k5 w (by omega), ← jj_gd_at (by omega)]
      by_cases q6 : x = 38
      · rw [q6]; exact k38
      by_cases q7 : x = 39
      · rw [q7]; exact k39
      by_cases q8 : x = 40
      · rw [q8]; exact k40
      by_cases q9 : x = 41
      · rw [q9]; exact k41
      by_cases qa : x = 42
      · rw [qa]; exact k42
      exact K x (by omega)
    refine ⟨⟨u, t, IV_kp ⟨i1, ⟨c1, c2, c3, c4⟩, i3, i4, i5, i6, ⟨⟨u1, u2, u3⟩, ⟨t1, t2, t3⟩, i8, i9⟩⟩ ⟨fun x hx => K2 x (fun q => by rw [q] at hx; exact absurd hx (by decide)), by rw [K2 25 (by decide)], fun i hi => by rw [k49, jj_une (fun q => by rw [q] at hi; exact absurd hi (by decide))], by rw [K2 0 (by decide)]⟩ ⟨by rw [K2 51 (by decide), K2 0 (by decide)]; exact c3, by rw [K2 51 (by decide), K2 0 (by decide)]; exact c4⟩⟩, by rw [k49]; rfl, ?_⟩
    unfold vX9_restore vX10_restore
    rw [if_pos z3, if_pos z3]
  · have z3 : ¬ nI t = 0 := fun q => z ((nI_eq (a := t) (b := 0) (by omega) (by omega)).mp q)
    have z4 : ¬ nI t ≤ 0 := nI_nle (n := t) (by omega) (by omega)
    obtain ⟨i, rfl⟩ : ∃ i, t = i + 1 := ⟨t - 1, by omega⟩
    have ht : i < 3 := by omega
    have eq : i + 1 - 1 = i := by omega
    rw [eq] at k49 k497 k34 k35 k38 k39 k40 k41 k42 k5
    obtain ⟨⟨p1, p2⟩, p3, p4⟩ := pa1 (r49 := upd (upd (h 49) 0 0) 34 (nI i)) (r497 := h 497) (g500 := jj_gd h 500 16) (g517 := jj_gd h 517 3) ht
    rw [if_neg z3] at k49 k497 k0
    rw [if_neg z3, if_neg z4] at k34 k35 k38 k39 k40 k41 k42
    simp only [if_neg z3] at k5
    rw [nI_clamp (by omega)] at k34 k35
    obtain ⟨⟨v, v1, v2, v3⟩, v4, v5⟩ := i9 i (by omega)
    have F : ∀ j, ¬ j = 0 → ¬ j = 32 → ¬ j = 33 → ¬ j = 34 → ¬ j = 35 → k 49 j = h 49 j := fun j q1 q2 q3 q4 q5 => by rw [k49, jj_une q3, p1 j q5 q2, jj_une q4, jj_une q1]
    have g7i : jj_gd h 517 3 i = h (517 + i) := (jj_gd_at ht).symm
    have hN : nn (k 38) (k 39) (k 40) (k 41) (k 42) (k 497) := by
      rw [k38, k39, k40, k41, k42, k497]
      refine nn_rd6 (q := i * 17 + 16) (by omega) (x := fun j => h (517 + i) (1 + j)) ?_ (fun j hj => by rw [p3 j hj, g7i])
      rw [show i * 17 + 16 = 17 * i + 16 by omega]
      exact v4
    refine ⟨⟨v, i, iT_of i1 (fun x q => K x (by omega)) (by rw [K 13 (by omega)]; exact i1.2.2.1) (by rw [F 1 (by decide) (by decide) (by decide) (by decide) (by decide)]; exact i1.2.2.2.1) i1.2.2.2.2, ⟨?_, ?_, ?_, ?_⟩, iS_of i3 (fun x q => K x (by omega)), iL_of i4 (by rw [K 7 (by omega)]) (F 17 (by decide) (by decide) (by decide) (by decide) (by decide)) (fun x q => K x (by omega)), hN, iB_of i6 (by rw [K 25 (by omega)]) (F 31 (by decide) (by decide) (by decide) (by decide) (by decide)) (fun x q => K x (by omega)), ⟨⟨by rw [k34, jj_ueq rfl]; exact v2, by rw [k49, jj_une (by decide), p2, g7i]; exact v3, v1⟩, ⟨by rw [k34, jj_une (by decide), jj_ueq rfl], by rw [k49, jj_une (by decide), p1 34 (by decide) (by decide), jj_ueq rfl], by omega⟩, fun w hw => ?_, fun j hj => ?_⟩⟩, ?_, ?_⟩
    · rw [F 3 (by decide) (by decide) (by decide) (by decide) (by decide), K 13 (by omega)]; exact c1
    · rw [k49, jj_ueq rfl, k0]; rfl
    · rw [K 51 (by omega), k0]; exact c3
    · rw [K 51 (by omega), k0]; exact c4
    · refine hrw_of (v5 w hw) (fun j hj => ?_) (fun j hj => ?_)
      · show k 35 (35 * w + j) = h 36 (35 * (17 * i + w) + j)
        rw [k35, pk_cpy_in (by show 0 ≤ _; omega) (by show _ < 0 + 560; omega)]
        exact congrArg (h 36) (by show i * 17 * 35 + (35 * w + j - 0) = _; omega)
      · rw [k5 w hw, p4 w hw j hj, g7i]
    · rw [K 36 (by omega), K 37 (by omega), K (517 + j) (by omega)]; exact i9 j (by omega)
    · rw [k49, jj_une (by decide), p1 0 (by decide) (by decide)]; rfl
    · unfold vX9_restore vX10_restore rX1_takeImageBack_34
      rw [if_neg z3, if_neg z3, if_neg z4, eq, p1 34 (by decide) (by decide)]
      rfl
