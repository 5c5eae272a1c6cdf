/-! ===== a day passes, in both ===== -/
theorem u3_ {x : Nat → Int32} {k j : Nat} {v w z : Int32} : upd (upd (upd x k v) (8 + k) w) k z j = if j = k then z else if j = 8 + k then w else x j := by
  by_cases q : j = k
  · rw [jj_ueq q, if_pos q]
  · rw [jj_une q, if_neg q]
    by_cases q2 : j = 8 + k
    · rw [jj_ueq q2, if_pos q2]
    · rw [jj_une q2, jj_une q, if_neg q2]
theorem de_at {k : Nat} (hk : k < 8) (x : Nat → Int32) (j : Nat) : fX10_dayEnds_n_1 k x j = if j = k then (if vX10_has (x 32) (nI k) = 0 then (if x (8 + k) = 2 then x k + 1 else x k) else x 33) else if j = 8 + k then (if x (8 + k) = 2 then 2 else 0) else x j := by
  unfold fX10_dayEnds_n_1
  rw [c0_ hk, c8_ hk]
  have e1 : ∀ v, upd x k v (8 + k) = x (8 + k) := fun v => jj_une (by omega)
  have e2 : ∀ v w, upd (upd x k v) (8 + k) w 32 = x 32 := fun v w => by rw [jj_une (by omega), jj_une (by omega)]
  have e3 : ∀ v w, upd (upd x k v) (8 + k) w 33 = x 33 := fun v w => by rw [jj_une (by omega), jj_une (by omega)]
  have e4 : ∀ v w, upd (upd x k v) (8 + k) w k = v := fun v w => by rw [jj_une (by omega), jj_ueq rfl]
  simp only [e1, e2, e3, e4]
  by_cases c : x (8 + k) = 2
  · simp only [if_pos c]
    by_cases d : vX10_has (x 32) (nI k) = 0
    · simp only [if_pos d]; exact u3_
    · simp only [if_neg d]; exact u3_
  · simp only [if_neg c, Int32.add_zero]
    by_cases d : vX10_has (x 32) (nI k) = 0
    · simp only [if_pos d]; exact u3_
    · simp only [if_neg d]; exact u3_
def pdF (r : Nat → Int32) (k1 : Nat) (a1 : (Nat → Int32) × (Nat → Int32)) : (Nat → Int32) × (Nat → Int32) := (if (a1.2 k1) = 1 then (if (vX6_isCut_n r (nI k1)) = 0 then (a1.1, (upd a1.2 (k1) 0)) else ((upd a1.1 (k1) (r 0)), (upd a1.2 (k1) 0))) else (if (a1.2 k1) = 2 then (if (vX6_isCut_n r (nI k1)) = 0 then ((upd a1.1 (k1) ((a1.1 k1) + 1)), a1.2) else ((upd (upd a1.1 (k1) ((a1.1 k1) + 1)) (k1) (r 0)), a1.2)) else (if (vX6_isCut_n r (nI k1)) = 0 then (a1.1, a1.2) else ((upd a1.1 (k1) (r 0)), a1.2))))
theorem u1_ {x : Nat → Int32} {k j : Nat} {z : Int32} : upd x k z j = if j = k then z else x j := rfl
theorem u0_ {x : Nat → Int32} {k j : Nat} : x j = if j = k then x k else x j := by
  by_cases q : j = k
  · rw [if_pos q, q]
  · rw [if_neg q]
theorem pd_at {r : Nat → Int32} {k : Nat} (a : (Nat → Int32) × (Nat → Int32)) (j : Nat) : (pdF r k a).1 j = (if j = k then (if vX6_isCut_n r (nI k) = 0 then (if a.2 k = 2 then a.1 k + 1 else a.1 k) else r 0) else a.1 j) ∧ (pdF r k a).2 j = if j = k then (if a.2 k = 1 then 0 else a.2 k) else a.2 j := by
  unfold pdF
  by_cases c1 : a.2 k = 1
  · have c2 : ¬ a.2 k = 2 := by rw [c1]; decide
    simp only [if_pos c1, if_neg c2]
    by_cases d : vX6_isCut_n r (nI k) = 0
    · simp only [if_pos d]; exact ⟨u0_, u1_⟩
    · simp only [if_neg d]; exact ⟨u1_, u1_⟩
  · simp only [if_neg c1]
    by_cases c2 : a.2 k = 2
    · simp only [if_pos c2]
      by_cases d : vX6_isCut_n r (nI k) = 0
      · simp only [if_pos d]
        refine ⟨u1_, ?_⟩
        by_cases q : j = k
        · rw [if_pos q, q, c2]
        · rw [if_neg q]
      · simp only [if_neg d]
        refine ⟨?_, ?_⟩
        · by_cases q : j = k
          · rw [jj_ueq q, if_pos q]
          · rw [jj_une q, jj_une q, if_neg q]
        · by_cases q : j = k
          · rw [if_pos q, q, c2]
          · rw [if_neg q]
    · simp only [if_neg c2]
      by_cases d : vX6_isCut_n r (nI k) = 0
      · simp only [if_pos d]; exact ⟨u0_, u0_⟩
      · simp only [if_neg d]; exact ⟨u1_, u0_⟩
section
variable {r38 r39 r40 r41 r42 r : Nat → Int32} {n B : Nat}
def dR (r39 r41 r42 R : Nat → Int32) (T k : Nat) (a : (Nat → Int32) × (Nat → Int32)) (x : Nat → Int32) : Prop := nr R a.1 a.2 r41 r42 x ∧ (∀ p, p < 8 → ∃ D, a.1 p = nI D ∧ D ≤ T + 1) ∧ (∀ p, p < 8 → a.2 p = 0 ∨ a.2 p = 1 ∨ a.2 p = 2) ∧ ∀ p, k ≤ p → a.1 p = r39 p
theorem dR_step {R : Nat → Int32} {T k : Nat} {a : (Nat → Int32) × (Nat → Int32)} {x : Nat → Int32} (hk : k < 8) (t1 : R 0 = nI (T + 1)) (h3 : ∀ p, p < 8 → ∃ D, r39 p = nI D ∧ D ≤ T) (h : dR r39 r41 r42 R T k a x) : dR r39 r41 r42 R T (k + 1) (pdF R k a) (fX10_dayEnds_n_1 k x) := by
  obtain ⟨h1, h2, h4, h5⟩ := h
  have hc := e_cut h1 hk
  obtain ⟨q1, q2, q3, q4⟩ := h1.2 k hk
  refine ⟨⟨⟨?_, ?_, ?_⟩, fun p hp => ?_⟩, fun p hp => ?_, fun p hp => ?_, fun p hp => ?_⟩
  · rw [de_at hk, if_neg (by omega), if_neg (by omega)]; exact h1.1.1
  · rw [de_at hk, if_neg (by omega), if_neg (by omega)]; exact h1.1.2.1
  · rw [de_at hk, if_neg (by omega), if_neg (by omega)]; exact h1.1.2.2
  · rw [de_at hk, de_at hk, de_at hk, de_at hk, (pd_at a p).1, (pd_at a p).2]
    obtain ⟨w1, w2, w3, w4⟩ := h1.2 p hp
    by_cases e : p = k
    · subst e
      rw [if_pos rfl, if_pos rfl, if_pos rfl, if_neg (show ¬ 8 + p = p by omega), if_pos rfl, if_neg (show ¬ 16 + p = p by omega), if_neg (show ¬ 16 + p = 8 + p by omega), if_neg (show ¬ 24 + p = p by omega), if_neg (show ¬ 24 + p = 8 + p by omega), hc, q1, q2, h1.1.1]
      refine ⟨rfl, ?_, q3, q4⟩
      rcases h4 p hp with z | z | z <;> rw [z] <;> decide
    · rw [if_neg e, if_neg e, if_neg e, if_neg (show ¬ p = 8 + k by omega), if_neg (show ¬ 8 + p = k by omega), if_neg (show ¬ 8 + p = 8 + k by omega), if_neg (show ¬ 16 + p = k by omega), if_neg (show ¬ 16 + p = 8 + k by omega), if_neg (show ¬ 24 + p = k by omega), if_neg (show ¬ 24 + p = 8 + k by omega)]
      exact ⟨w1, w2, w3, w4⟩
  · rw [(pd_at a p).1]
    by_cases e : p = k
    · rw [if_pos e]
      by_cases d : vX6_isCut_n R (nI k) = 0
      · rw [if_pos d]
        obtain ⟨D, d1, d2⟩ := h3 k hk
        by_cases c : a.2 k = 2
        · rw [if_pos c, h5 k (Nat.le_refl _), d1, nI_1]; exact ⟨D + 1, rfl, by omega⟩
        · rw [if_neg c]; exact h2 k hk
      · rw [if_neg d]; exact ⟨T + 1, t1, Nat.le_refl _⟩
    · rw [if_neg e]; exact h2 p hp
  · rw [(pd_at a p).2]
    by_cases e : p = k
    · rw [if_pos e]
      by_cases c : a.2 k = 1
      · rw [if_pos c]; exact Or.inl rfl
      · rw [if_neg c]; exact h4 k hk
    · rw [if_neg e]; exact h4 p hp
  · rw [(pd_at a p).1, if_neg (by omega)]; exact h5 p (by omega)
theorem e_day (h : nr r38 r39 r40 r41 r42 r) (hk : nok B r38 r39 r40 r42) (hn : n ≤ 8) : nr (rX6_passDay_n_38 r38 r39 r40 n) (rX6_passDay_n_39 r38 r39 r40 n) (rX6_passDay_n_40 r38 r39 r40 n) r41 r42 (rX10_dayEnds_n_497 r n) ∧ nok (B + 1) (rX6_passDay_n_38 r38 r39 r40 n) (rX6_passDay_n_39 r38 r39 r40 n) (rX6_passDay_n_40 r38 r39 r40 n) r42 := by
  obtain ⟨⟨T, k1, k2, k3⟩, k4⟩ := hk
  have t1 : upd r38 0 (r38 0 + 1) 0 = nI (T + 1) := by rw [jj_ueq rfl, k1, nI_1]
  have key := fo_rel (R := dR r39 r41 r42 (upd r38 0 (r38 0 + 1)) T) (f := pdF (upd r38 0 (r38 0 + 1))) (g := fX10_dayEnds_n_1) n (r39, r40) (upd r 33 (r 33 + 1)) (by
    refine ⟨⟨⟨?_, ?_, ?_⟩, fun p hp => ?_⟩, fun p hp => ?_, fun p hp => (k4 p hp).1, fun p _ => rfl⟩
    · rw [jj_ueq rfl, jj_ueq rfl, h.1.1]
    · rw [jj_une (by decide), jj_une (by decide)]; exact h.1.2.1
    · rw [jj_une (by decide), jj_une (by decide)]; exact h.1.2.2
    · rw [jj_une (by omega), jj_une (by omega), jj_une (by omega), jj_une (by omega)]; exact h.2 p hp
    · obtain ⟨D, d1, d2⟩ := k3 p hp
      exact ⟨D, d1, by omega⟩) (fun k a b hk2 hR => dR_step (by omega) t1 k3 hR)
  obtain ⟨e1, e2, e3, e4⟩ := key
  exact ⟨e1, ⟨T + 1, t1, by omega, e2⟩, fun p hp => ⟨e3 p hp, (k4 p hp).2⟩⟩
/-- days pass -/
theorem e_copy {r43 r44 r45 r46 r47 r498 : Nat → Int32} (h : nr r38 r39 r40 r41 r42 r) : nr (rX6_copyFrom_43 r38 r39 r40 r41 r42 r43 r44 r45 r46 r47) (rX6_copyFrom_44 r38 r39 r40 r41 r42 r43 r44 r45 r46 r47) (rX6_copyFrom_45 r38 r39 r40 r41 r42 r43 r44 r45 r46 r47) (rX6_copyFrom_46 r38 r39 r40 r41 r42 r43 r44 r45 r46 r47) (rX6_copyFrom_47 r38 r39 r40 r41 r42 r43 r44 r45 r46 r47) (rX10_copies_nt_498 r r498) := by
  have e : ∀ j, j < 35 → rX10_copies_nt_498 r r498 j = r j := by
    intro j hj
    have := fo_inv (P := fun k (x : Nat → Int32) => ∀ j, j < k → x j = r j) (f := fX10_copies_nt_1 r) 35 r498 (fun j hj => absurd hj (Nat.not_lt_zero j)) (fun k x hk hx j hj => by
      unfold fX10_copies_nt_1
      by_cases q : j = k
      · rw [jj_ueq q, q]
      · rw [jj_une q]; exact hx j (by omega))
    exact this j hj
  refine ⟨⟨?_, ?_, ?_⟩, fun p hp => ?_⟩
  · rw [e 33 (by decide)]; exact h.1.1
  · rw [e 34 (by decide)]; exact h.1.2.1
  · rw [e 32 (by decide)]; exact h.1.2.2
  · rw [e p (by omega), e (8 + p) (by omega), e (16 + p) (by omega), e (24 + p) (by omega)]
    obtain ⟨q1, q2, q3, q4⟩ := h.2 p hp
    rw [q1, q2, q3, q4]
    rcases lt_8 hp with rfl | rfl | rfl | rfl | rfl | rfl | rfl | rfl <;> exact ⟨rfl, rfl, rfl, rfl⟩
theorem nok_copy {r43 r44 r45 r46 r47 : Nat → Int32} (h : nok B r38 r39 r40 r42) : nok B (rX6_copyFrom_43 r38 r39 r40 r41 r42 r43 r44 r45 r46 r47) (rX6_copyFrom_44 r38 r39 r40 r41 r42 r43 r44 r45 r46 r47) (rX6_copyFrom_45 r38 r39 r40 r41 r42 r43 r44 r45 r46 r47) (rX6_copyFrom_47 r38 r39 r40 r41 r42 r43 r44 r45 r46 r47) := by
  obtain ⟨⟨T, k1, k2, k3⟩, k4⟩ := h
  refine ⟨⟨T, k1, k2, fun p hp => ?_⟩, fun p hp => ?_⟩
  · have := k3 p hp
    rcases lt_8 hp with rfl | rfl | rfl | rfl | rfl | rfl | rfl | rfl <;> exact this
  · have := k4 p hp
    rcases lt_8 hp with rfl | rfl | rfl | rfl | rfl | rfl | rfl | rfl <;> exact this
end
