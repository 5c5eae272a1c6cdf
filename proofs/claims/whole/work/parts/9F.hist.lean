/-! ===== the history of both: rows written and read ===== -/
theorem wt_at {r r38 r39 r40 r41 r42 : Nat → Int32} {q : Nat} (hq : q ≤ 60) : (∀ j, j < 35 * q ∨ 35 * q + 35 ≤ j → rX6_writeTo_35_35 r r38 r39 r40 r41 r42 q j = r j) ∧ (rX6_writeTo_35_35 r r38 r39 r40 r41 r42 q (35 * q + 0) = r38 0 ∧ rX6_writeTo_35_35 r r38 r39 r40 r41 r42 q (35 * q + 1) = r38 1 ∧ rX6_writeTo_35_35 r r38 r39 r40 r41 r42 q (35 * q + 2) = r38 2) ∧ ∀ p, p < 8 → rX6_writeTo_35_35 r r38 r39 r40 r41 r42 q (35 * q + (3 + 4 * p)) = r39 p ∧ rX6_writeTo_35_35 r r38 r39 r40 r41 r42 q (35 * q + (4 + 4 * p)) = r40 p ∧ rX6_writeTo_35_35 r r38 r39 r40 r41 r42 q (35 * q + (5 + 4 * p)) = r41 p ∧ rX6_writeTo_35_35 r r38 r39 r40 r41 r42 q (35 * q + (6 + 4 * p)) = r42 p := by
  unfold rX6_writeTo_35_35
  rw [nI_clamp (by omega), nI_clamp (by omega), nI_clamp (by omega)]
  obtain ⟨h1, h2⟩ := fo_inv (P := fun k (a : Nat → Int32) => (∀ j, j < 35 * q + 3 ∨ 35 * q + 3 + 4 * k ≤ j → a j = upd (upd (upd r (q * 35) (r38 0)) (q * 35 + 1) (r38 1)) (q * 35 + 2) (r38 2) j) ∧ ∀ p, p < k → a (35 * q + (3 + 4 * p)) = r39 p ∧ a (35 * q + (4 + 4 * p)) = r40 p ∧ a (35 * q + (5 + 4 * p)) = r41 p ∧ a (35 * q + (6 + 4 * p)) = r42 p) (f := fX6_writeTo_35_1 r39 r40 r41 r42 q) 8 (upd (upd (upd r (q * 35) (r38 0)) (q * 35 + 1) (r38 1)) (q * 35 + 2) (r38 2)) ⟨fun _ _ => rfl, fun p hp => absurd hp (by omega)⟩ (fun k a hk ih => by
    obtain ⟨i1, i2⟩ := ih
    unfold fX6_writeTo_35_1
    rw [nI_clamp (by omega), nI_clamp (by omega), nI_clamp (by omega), nI_clamp (by omega)]
    refine ⟨fun j hj => ?_, fun p hp => ?_⟩
    · rw [jj_une (by omega), jj_une (by omega), jj_une (by omega), jj_une (by omega)]; exact i1 j (by omega)
    · by_cases e : p = k
      · subst e
        refine ⟨?_, ?_, ?_, ?_⟩
        · rw [jj_une (by omega), jj_une (by omega), jj_une (by omega), jj_ueq (by omega)]
        · rw [jj_une (by omega), jj_une (by omega), jj_ueq (by omega)]
        · rw [jj_une (by omega), jj_ueq (by omega)]
        · rw [jj_ueq (by omega)]
      · obtain ⟨e1, e2, e3, e4⟩ := i2 p (by omega)
        refine ⟨?_, ?_, ?_, ?_⟩
        · rw [jj_une (by omega), jj_une (by omega), jj_une (by omega), jj_une (by omega)]; exact e1
        · rw [jj_une (by omega), jj_une (by omega), jj_une (by omega), jj_une (by omega)]; exact e2
        · rw [jj_une (by omega), jj_une (by omega), jj_une (by omega), jj_une (by omega)]; exact e3
        · rw [jj_une (by omega), jj_une (by omega), jj_une (by omega), jj_une (by omega)]; exact e4)
  refine ⟨fun j hj => ?_, ⟨?_, ?_, ?_⟩, h2⟩
  · rw [h1 j (by omega), jj_une (by omega), jj_une (by omega), jj_une (by omega)]
  · rw [h1 _ (by omega), jj_une (by omega), jj_une (by omega), jj_ueq (by omega)]
  · rw [h1 _ (by omega), jj_une (by omega), jj_ueq (by omega)]
  · rw [h1 _ (by omega), jj_ueq (by omega)]
theorem wt_36 (r r38 r39 r40 r41 r42 : Nat → Int32) (q : Nat) : rX6_writeTo_36_36 r r38 r39 r40 r41 r42 q = rX6_writeTo_35_35 r r38 r39 r40 r41 r42 q := rfl
theorem rdf_at {r r39 r40 r41 r42 : Nat → Int32} {q : Nat} (hq : q ≤ 60) : ∀ p, p < 8 → (jj_fo (fX6_readFrom_35_1 r q) 8 (r39, r40, r41, r42)).1 p = r (35 * q + (3 + 4 * p)) ∧ (jj_fo (fX6_readFrom_35_1 r q) 8 (r39, r40, r41, r42)).2.1 p = r (35 * q + (4 + 4 * p)) ∧ (jj_fo (fX6_readFrom_35_1 r q) 8 (r39, r40, r41, r42)).2.2.1 p = r (35 * q + (5 + 4 * p)) ∧ (jj_fo (fX6_readFrom_35_1 r q) 8 (r39, r40, r41, r42)).2.2.2 p = r (35 * q + (6 + 4 * p)) := fo_inv (P := fun k (a : (Nat → Int32) × (Nat → Int32) × (Nat → Int32) × (Nat → Int32)) => ∀ p, p < k → a.1 p = r (35 * q + (3 + 4 * p)) ∧ a.2.1 p = r (35 * q + (4 + 4 * p)) ∧ a.2.2.1 p = r (35 * q + (5 + 4 * p)) ∧ a.2.2.2 p = r (35 * q + (6 + 4 * p))) (f := fX6_readFrom_35_1 r q) 8 (r39, r40, r41, r42) (fun p hp => absurd hp (by omega)) (fun k a hk ih p hp => by
    unfold fX6_readFrom_35_1
    rw [nI_clamp (by omega), nI_clamp (by omega), nI_clamp (by omega), nI_clamp (by omega)]
    show upd a.1 k _ p = _ ∧ upd a.2.1 k _ p = _ ∧ upd a.2.2.1 k _ p = _ ∧ upd a.2.2.2 k _ p = _
    by_cases e : p = k
    · subst e
      rw [jj_ueq rfl, jj_ueq rfl, jj_ueq rfl, jj_ueq rfl]
      exact ⟨congrArg r (by omega), congrArg r (by omega), congrArg r (by omega), congrArg r (by omega)⟩
    · rw [jj_une e, jj_une e, jj_une e, jj_une e]; exact ih p (by omega))
/-- now, as both sides keep it -/
def nn (r38 r39 r40 r41 r42 x : Nat → Int32) : Prop := nr r38 r39 r40 r41 r42 x ∧ nok 900 r38 r39 r40 r42
theorem nn_of {r38 r39 r40 r41 r42 x s38 s39 s40 s41 s42 y : Nat → Int32} (h : nn r38 r39 r40 r41 r42 x) (e : s38 0 = r38 0 ∧ s38 1 = r38 1 ∧ s38 2 = r38 2) (e2 : ∀ p, p < 8 → s39 p = r39 p ∧ s40 p = r40 p ∧ s41 p = r41 p ∧ s42 p = r42 p) (e3 : ∀ k, k < 35 → y k = x k) : nn s38 s39 s40 s41 s42 y := by
  obtain ⟨⟨⟨h1, h2, h3⟩, h4⟩, ⟨T, h5, h6, h7⟩, h8⟩ := h
  refine ⟨⟨⟨by rw [e3 33 (by omega), e.1]; exact h1, by rw [e3 34 (by omega), e.2.1]; exact h2, by rw [e3 32 (by omega), e.2.2]; exact h3⟩, fun p hp => ?_⟩, ⟨T, by rw [e.1]; exact h5, h6, fun p hp => ?_⟩, fun p hp => ?_⟩
  · rw [e3 p (by omega), e3 (8 + p) (by omega), e3 (16 + p) (by omega), e3 (24 + p) (by omega), (e2 p hp).1, (e2 p hp).2.1, (e2 p hp).2.2.1, (e2 p hp).2.2.2]; exact h4 p hp
  · rw [(e2 p hp).1]; exact h7 p hp
  · rw [(e2 p hp).2.1, (e2 p hp).2.2.2]; exact h8 p hp
theorem hrw_of {f g x y : Nat → Int32} (h : hrw f x) (e : ∀ i, i < 35 → g i = f i) (e3 : ∀ k, k < 35 → y k = x k) : hrw g y := nn_of (s38 := g) h ⟨e 0 (by omega), e 1 (by omega), e 2 (by omega)⟩ (fun p hp => ⟨e _ (by omega), e _ (by omega), e _ (by omega), e _ (by omega)⟩) e3
theorem hrw_wr {r r38 r39 r40 r41 r42 x y : Nat → Int32} {q : Nat} (hq : q ≤ 60) (h : nn r38 r39 r40 r41 r42 x) (e3 : ∀ k, k < 35 → y k = x k) : hrw (fun i => rX6_writeTo_35_35 r r38 r39 r40 r41 r42 q (35 * q + i)) y := by
  obtain ⟨_, w2, w3⟩ := wt_at (r := r) (r38 := r38) (r39 := r39) (r40 := r40) (r41 := r41) (r42 := r42) hq
  exact nn_of (s38 := fun i => rX6_writeTo_35_35 r r38 r39 r40 r41 r42 q (35 * q + i)) h w2 w3 e3
theorem nn_rd {r r38 r39 r40 r41 r42 x y : Nat → Int32} {q : Nat} (hq : q ≤ 60) (h : hrw (fun i => r (35 * q + i)) x) (e3 : ∀ k, k < 35 → y k = x k) : nn (rX6_readFrom_35_38 r r38 r39 r40 r41 r42 q) (rX6_readFrom_35_39 r r38 r39 r40 r41 r42 q) (rX6_readFrom_35_40 r r38 r39 r40 r41 r42 q) (rX6_readFrom_35_41 r r38 r39 r40 r41 r42 q) (rX6_readFrom_35_42 r r38 r39 r40 r41 r42 q) y := by
  refine nn_of (r38 := fun i => r (35 * q + i)) h ?_ (rdf_at hq) e3
  unfold rX6_readFrom_35_38
  rw [nI_clamp (by omega), nI_clamp (by omega), nI_clamp (by omega)]
  exact ⟨congrArg r (by omega), congrArg r (by omega), congrArg r (by omega)⟩
theorem cgn_at {r : Nat → Int32} {G : Nat → Nat → Int32} {s : Nat} (hs : s < 16) : ∀ k, k < 35 → rX10_copies_gn_497 r G (nI s) k = G s k := fo_inv (P := fun W (a : Nat → Int32) => ∀ k, k < W → a k = G s k) (f := fX10_copies_gn_1 G (nI s)) 35 r (fun p hp => absurd hp (by omega)) (fun W a hW ih k hk => by
    unfold fX10_copies_gn_1
    rw [nI_clamp (by omega)]
    by_cases e : k = W
    · rw [jj_ueq e, e]
    · rw [jj_une e]; exact ih k (by omega))
/-! undo -/
def hcU (h : hp_) (u : Nat) : hp_ := jj_rs h [(0, (rX9_undo_0 (h 0) (h 34) (h 35) (h 38) (h 39) (h 40) (h 41) (h 42) u)), (34, (rX9_undo_34 (h 0) (h 34) (h 35) (h 38) (h 39) (h 40) (h 41) (h 42) u)), (38, (rX9_undo_38 (h 0) (h 34) (h 35) (h 38) (h 39) (h 40) (h 41) (h 42) u)), (39, (rX9_undo_39 (h 0) (h 34) (h 35) (h 38) (h 39) (h 40) (h 41) (h 42) u)), (40, (rX9_undo_40 (h 0) (h 34) (h 35) (h 38) (h 39) (h 40) (h 41) (h 42) u)), (41, (rX9_undo_41 (h 0) (h 34) (h 35) (h 38) (h 39) (h 40) (h 41) (h 42) u)), (42, (rX9_undo_42 (h 0) (h 34) (h 35) (h 38) (h 39) (h 40) (h 41) (h 42) u))]
def hmU (h : hp_) (u : Nat) : hp_ := jj_rs h [(49, (rX10_undo_49 (h 49) (h 497) (jj_gd h 500 16) u)), (497, (rX10_undo_497 (h 49) (h 497) (jj_gd h 500 16) u))]
theorem iv_undo {c : Nat → Nat} {T n m u t : Nat} {L : bL_} {h : hp_} (I : IV c T n m u t L h) : IV c T n m (u - 1) t L (hmU (hcU h u) u) ∧ hmU (hcU h u) u 49 0 = 0 ∧ vX9_undo (h 0) (h 34) (h 35) (h 38) (h 39) (h 40) (h 41) (h 42) u = vX10_undo (hcU h u 49) (hcU h u 497) (jj_gd (hcU h u) 500 16) u := by
  obtain ⟨i1, ⟨c1, c2, c3, c4⟩, i3, i4, i5, i6, ⟨⟨u1, u2, u3⟩, ⟨t1, t2, t3⟩, i8, i9⟩⟩ := I
  have g5 : jj_gd (hcU h u) 500 16 = jj_gd h 500 16 := jj_gd_rs rfl
  have K : ∀ x, ¬ x = 0 ∧ ¬ x = 34 ∧ ¬ (38 ≤ x ∧ x < 43) ∧ ¬ x = 49 ∧ ¬ x = 497 → hmU (hcU h u) u x = h x := fun x q => by
    unfold hmU
    rw [rs_no (P := fun y => y == 49 || y == 497) rfl (by simp only [Bool.or_eq_false_iff, beq_eq_false_iff_ne, ne_eq]; omega)]
    unfold hcU
    rw [rs_no (P := fun y => y == 0 || y == 34 || decide (38 ≤ y) && decide (y < 43)) rfl (by simp only [Bool.or_eq_false_iff, beq_eq_false_iff_ne, ne_eq, Bool.and_eq_false_iff, decide_eq_false_iff_not]; omega)]
  have k49 : hmU (hcU h u) u 49 = rX10_undo_49 (h 49) (h 497) (jj_gd h 500 16) u := by
    show rX10_undo_49 (h 49) (h 497) (jj_gd (hcU h u) 500 16) u = _
    rw [g5]
  have k497 : hmU (hcU h u) u 497 = rX10_undo_497 (h 49) (h 497) (jj_gd h 500 16) u := by
    show rX10_undo_497 (h 49) (h 497) (jj_gd (hcU h u) 500 16) u = _
    rw [g5]
  have k0 : hmU (hcU h u) u 0 = rX9_undo_0 (h 0) (h 34) (h 35) (h 38) (h 39) (h 40) (h 41) (h 42) u := rfl
  have k34 : hmU (hcU h u) u 34 = rX9_undo_34 (h 0) (h 34) (h 35) (h 38) (h 39) (h 40) (h 41) (h 42) u := rfl
  have k38 : hmU (hcU h u) u 38 = rX9_undo_38 (h 0) (h 34) (h 35) (h 38) (h 39) (h 40) (h 41) (h 42) u := rfl
  have k39 : hmU (hcU h u) u 39 = rX9_undo_39 (h 0) (h 34) (h 35) (h 38) (h 39) (h 40) (h 41) (h 42) u := rfl
  have k40 : hmU (hcU h u) u 40 = rX9_undo_40 (h 0) (h 34) (h 35) (h 38) (h 39) (h 40) (h 41) (h 42) u := rfl
  have k41 : hmU (hcU h u) u 41 = rX9_undo_41 (h 0) (h 34) (h 35) (h 38) (h 39) (h 40) (h 41) (h 42) u := rfl
  have k42 : hmU (hcU h u) u 42 = rX9_undo_42 (h 0) (h 34) (h 35) (h 38) (h 39) (h 40) (h 41) (h 42) u := rfl
  generalize hmU (hcU h u) u = k at *
  have F : ∀ i, ¬ i = 0 → ¬ i = 32 → ¬ i = 33 → k 49 i = h 49 i := fun i q1 q2 q3 => by
    rw [k49]; unfold rX10_undo_49
    by_cases z : nI u = 0
    · rw [if_pos z, jj_une q1]
    · rw [if_neg z, jj_une q3, jj_une q2, jj_une q1]
  have A : (k 49 0 = 0 ∧ k 49 33 = k 0 12) ∧ (k 34 0 = nI (u - 1) ∧ k 49 32 = nI (u - 1)) ∧ (k 0 13 = h 0 13 ∧ k 0 14 = h 0 14) ∧ k 34 1 = h 34 1 ∧ nn (k 38) (k 39) (k 40) (k 41) (k 42) (k 497) := by
    rw [k49, k497, k0, k34, k38, k39, k40, k41, k42]
    unfold rX10_undo_49 rX10_undo_497 rX9_undo_0 rX9_undo_34 rX9_undo_38 rX9_undo_39 rX9_undo_40 rX9_undo_41 rX9_undo_42 rX1_takeWorkBack_34 rX1_takeWorkBack_38 rX1_takeWorkBack_39 rX1_takeWorkBack_40 rX1_takeWorkBack_41 rX1_takeWorkBack_42
    by_cases z : nI u = 0
    · have z0 : u = 0 := (nI_eq (a := u) (b := 0) (by omega) (by omega)).mp z
      simp only [if_pos z]
      refine ⟨⟨rfl, by rw [jj_une (by decide)]; exact c2⟩, ⟨by rw [z0]; rw [z0] at u1; exact u1, by rw [jj_une (by decide), u2, z0]⟩, ⟨by first | rfl | trivial, by first | rfl | trivial⟩, by first | rfl | trivial, i5⟩
    · have z0 : ¬ nI u ≤ 0 := nI_nle (n := u) (Nat.pos_of_ne_zero (fun q => z (by rw [q]; rfl))) (by omega)
      have z1 : 0 < u := Nat.pos_of_ne_zero (fun q => z (by rw [q]; rfl))
      simp only [if_neg z, if_neg z0]
      refine ⟨⟨by first | rfl | trivial, by first | rfl | trivial⟩, ⟨by first | rfl | trivial, by first | rfl | trivial⟩, ⟨by first | rfl | trivial, by first | rfl | trivial⟩, by first | rfl | trivial, ?_⟩
      refine nn_rd (q := u - 1) (by omega) (i8 (u - 1) (by omega)) (fun j hj => ?_)
      rw [cgn_at (by omega) j hj, ← jj_gd_at (by omega)]
  obtain ⟨⟨A1, A2⟩, ⟨A3, A4⟩, ⟨A5, A6⟩, A7, A8⟩ := A
  refine ⟨⟨iT_of i1 (fun x q => K x (by omega)) (by rw [K 13 (by omega)]; exact i1.2.2.1) (by rw [F 1 (by decide) (by decide) (by decide)]; exact i1.2.2.2.1) i1.2.2.2.2, ⟨?_, A2, ?_, ?_⟩, iS_of i3 (fun x q => K x (by omega)), iL_of i4 (by rw [K 7 (by omega)]) (F 17 (by decide) (by decide) (by decide)) (fun x q => K x (by omega)), A8, iB_of i6 (by rw [K 25 (by omega)]) (F 31 (by decide) (by decide) (by decide)) (fun x q => K x (by omega)), ⟨⟨A3, A4, by omega⟩, ⟨by rw [A7]; exact t1, by rw [F 34 (by decide) (by decide) (by decide)]; exact t2, t3⟩, fun w hw => ?_, fun i hi => ?_⟩⟩, A1, ?_⟩
  · rw [F 3 (by decide) (by decide) (by decide), K 13 (by omega)]; exact c1
  · rw [K 51 (by omega), A5]; exact c3
  · rw [K 51 (by omega), A6]; exact c4
  · rw [K 35 (by omega), K (500 + w) (by omega)]; exact i8 w hw
  · rw [K 36 (by omega), K 37 (by omega), K (517 + i) (by omega)]; exact i9 i hi
  · unfold vX9_undo vX10_undo rX1_takeWorkBack_34
    by_cases z : nI u = 0
    · rw [if_pos z, if_pos z]
    · have z0 : ¬ nI u ≤ 0 := nI_nle (n := u) (Nat.pos_of_ne_zero (fun q => z (by rw [q]; rfl))) (by omega)
      rw [if_neg z, if_neg z, if_neg z0]; rfl
