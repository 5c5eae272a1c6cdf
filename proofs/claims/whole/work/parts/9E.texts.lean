/-! ===== texts that were read keep the invariant (all but WORK) ===== -/
theorem iT_of {c : Nat → Nat} {T T2 : Nat} {h k : hp_} (I : iT c T h) (e : ∀ x, x = 14 ∨ x = 50 → k x = h x) (e1 : k 13 1 = nI T2) (e2 : k 49 1 = nI T2) (hT : T2 ≤ 600) : iT c T2 k := ⟨by rw [e 14 (Or.inl rfl)]; exact I.1, by rw [e 50 (Or.inr rfl)]; exact I.2.1, e1, e2, hT⟩
theorem iS_of {n : Nat} {h k : hp_} (I : iS n h) (e : ∀ x, (1 ≤ x ∧ x ≤ 6) ∨ x = 53 ∨ x = 73 ∨ (64 ≤ x ∧ x < 72) → k x = h x) : iS n k := by
  obtain ⟨s1, s2, s3, s4, s5, s6, s7⟩ := I
  have g64 : jj_gd k 64 8 = jj_gd h 64 8 := gd_eq (fun j hj => e _ (by omega))
  have e1 := e 1 (by omega)
  have e2 := e 2 (by omega)
  have e3 := e 3 (by omega)
  have e4 := e 4 (by omega)
  have e5 := e 5 (by omega)
  have e6 := e 6 (by omega)
  have e53 := e 53 (by omega)
  have e73 := e 73 (by omega)
  unfold iS
  rw [e1, e2, e3, e4, e5, e6, e53, e73, g64]
  exact ⟨s1, s2, s3, s4, s5, s6, s7⟩
theorem iL_of {m : Nat} {h k : hp_} (I : iL m h) (e7 : k 7 1 = h 7 1) (e17 : k 49 17 = h 49 17) (e : ∀ x, x = 8 ∨ (75 ≤ x ∧ x < 235) → k x = h x) : iL m k := by
  have g75 : jj_gd k 75 160 = jj_gd h 75 160 := gd_eq (fun j hj => e _ (by omega))
  unfold iL
  rw [e7, e17, e 8 (Or.inl rfl), g75]
  exact I
theorem iN_of {h k : hp_} (I : iN h) (e : ∀ x, (38 ≤ x ∧ x ≤ 42) ∨ x = 497 → k x = h x) : iN k := by
  unfold iN
  rw [e 38 (by omega), e 39 (by omega), e 40 (by omega), e 41 (by omega), e 42 (by omega), e 497 (by omega)]
  exact I
theorem iB_of {n : Nat} {L : bL_} {h k : hp_} (I : iB n L h) (e25 : k 25 2 = h 25 2) (e31 : k 49 31 = h 49 31) (e : ∀ x, x = 26 ∨ (397 ≤ x ∧ x < 405) → k x = h x) : iB n L k := by
  obtain ⟨b1, b2, b3, b4, b5⟩ := I
  refine ⟨by rw [e25]; exact b1, by rw [e31]; exact b2, b3, fun hl p hp => by rw [e 26 (Or.inl rfl)]; exact b4 hl p hp, fun i z hi => ?_⟩
  have hi2 := (List.getElem?_eq_some_iff.mp hi).1
  have := bok_8 b3
  rw [e _ (by omega)]; exact b5 i z hi
theorem iH_of {u t : Nat} {h k : hp_} (I : iH u t h) (e32 : k 49 32 = h 49 32) (e34 : k 49 34 = h 49 34) (e : ∀ x, (34 ≤ x ∧ x ≤ 37) ∨ (500 ≤ x ∧ x < 516) ∨ (517 ≤ x ∧ x < 520) → k x = h x) : iH u t k := by
  obtain ⟨h1, h2, h3, h4⟩ := I
  unfold iH
  rw [e 34 (by omega), e 35 (by omega), e 36 (by omega), e 37 (by omega), e32, e34]
  exact ⟨h1, h2, fun w hw => by rw [e _ (by omega)]; exact h3 w hw, fun i hi => by
    have := h2.2.2
    rw [e _ (by omega)]; exact h4 i hi⟩
theorem j13_ne {h : hp_} {r : Nat → Int32} {x : Nat} (q : ¬ x = 13) : jj_rs h [(13, r)] x = h x := by
  have e : (x == 13) = false := by rw [beq_eq_false_iff_ne]; exact q
  unfold jj_rs
  rw [List.lookup_cons, e]
  rfl
theorem j13_eq {h : hp_} {r : Nat → Int32} : jj_rs h [(13, r)] 13 = r := rfl
/-! law -/
theorem iv_law_ok {c : Nat → Nat} {T n m u t N : Nat} {L : bL_} {W : List (Nat × Nat)} {h h9 k : hp_} (I : IV c T n m u t L h) (hp : plaw c N = .ok W) (a : lawT h h9 W) (b : lawTm (jj_rs h9 [(13, upd (h9 13) 1 0)]) k W) : IV c 0 n W.length u t L k ∧ k 49 0 = 0 := by
  obtain ⟨a1, a2, a3, a4, a5, a6⟩ := a
  obtain ⟨b1, b2, b3, b4, b5, b6, b7⟩ := b
  have K : ∀ x, (¬ x = 49 ∧ ¬ (75 ≤ x ∧ x < 235) ∧ ¬ (236 ≤ x ∧ x < 396) ∧ ¬ x = 7 ∧ ¬ x = 8 ∧ ¬ x = 9 ∧ ¬ x = 13) → k x = h x := fun x q => by
    rw [b6 x q.1 q.2.1 q.2.2.1, j13_ne q.2.2.2.2.2.2, a6 x q.2.2.2.1 q.2.2.2.2.1 q.2.2.2.2.2.1 q.2.2.2.2.2.2]
  have F : ∀ i, fN i = false → ¬ i = 17 → k 49 i = h 49 i := fun i q1 q2 => by
    rw [b7 i q1 q2, j13_ne (by decide), a6 49 (by decide) (by decide) (by decide) (by decide)]
  have k13 : k 13 = upd (h9 13) 1 0 := by rw [b6 13 (by decide) (by omega) (by omega), j13_eq]
  have k7 : k 7 = h9 7 := by rw [b6 7 (by decide) (by omega) (by omega), j13_ne (by decide)]
  have k8 : k 8 = h9 8 := by rw [b6 8 (by decide) (by omega) (by omega), j13_ne (by decide)]
  obtain ⟨i1, ⟨c1, c2, c3, c4⟩, i3, i4, i5, i6, i7⟩ := I
  refine ⟨⟨iT_of i1 (fun x q => K x (by omega)) (by rw [k13]; rfl) b2 (by omega), ⟨?_, ?_, ?_, ?_⟩, iS_of i3 (fun x q => K x (by omega)), ⟨?_, b4, a4, ?_⟩, iN_of i5 (fun x q => K x (by omega)), iB_of i6 (by rw [K 25 (by omega)]) (F 31 rfl (by decide)) (fun x q => K x (by omega)), iH_of i7 (F 32 rfl (by decide)) (F 34 rfl (by decide)) (fun x q => K x (by omega))⟩, b1⟩
  · rw [b3, k13]; exact a2.symm
  · rw [F 33 rfl (by decide), K 0 (by omega)]; exact c2
  · rw [K 51 (by omega), K 0 (by omega)]; exact c3
  · rw [K 51 (by omega), K 0 (by omega)]; exact c4
  · rw [k7]; exact a3
  · refine law_ok hp (fun i z hz => ?_)
    have hi := (List.getElem?_eq_some_iff.mp hz).1
    rw [k8, ← jj_gd_at (by omega)]
    exact ⟨a5 i z hz, b5 i z hz⟩
theorem iv_law_er {c : Nat → Nat} {T n m u t e p : Nat} {L : bL_} {h h9 k : hp_} (I : IV c T n m u t L h) (a : lawE h h9 e p) (b : lawEm (jj_rs h9 [(13, upd (h9 13) 1 0)]) k p) : IV c 0 n m u t L k ∧ k 49 0 = 0 := by
  obtain ⟨a1, a2, a3, a6⟩ := a
  obtain ⟨b1, b2, b3, b6, b7⟩ := b
  have K : ∀ x, (¬ x = 49 ∧ ¬ (236 ≤ x ∧ x < 396) ∧ ¬ x = 7 ∧ ¬ x = 9 ∧ ¬ x = 13) → k x = h x := fun x q => by
    rw [b6 x q.1 q.2.1, j13_ne q.2.2.2.2, a6 x q.2.2.1 q.2.2.2.1 q.2.2.2.2]
  have F : ∀ i, fN i = false → k 49 i = h 49 i := fun i q1 => by
    rw [b7 i q1, j13_ne (by decide), a6 49 (by decide) (by decide) (by decide)]
  have k13 : k 13 = upd (h9 13) 1 0 := by rw [b6 13 (by decide) (by omega), j13_eq]
  have k7 : k 7 = h9 7 := by rw [b6 7 (by decide) (by omega), j13_ne (by decide)]
  obtain ⟨i1, ⟨c1, c2, c3, c4⟩, i3, i4, i5, i6, i7⟩ := I
  refine ⟨⟨iT_of i1 (fun x q => K x (by omega)) (by rw [k13]; rfl) b2 (by omega), ⟨?_, ?_, ?_, ?_⟩, iS_of i3 (fun x q => K x (by omega)), iL_of i4 (by rw [k7]; exact a3) (F 17 rfl) (fun x q => K x (by omega)), iN_of i5 (fun x q => K x (by omega)), iB_of i6 (by rw [K 25 (by omega)]) (F 31 rfl) (fun x q => K x (by omega)), iH_of i7 (F 32 rfl) (F 34 rfl) (fun x q => K x (by omega))⟩, b1⟩
  · rw [b3, k13]; exact a2.symm
  · rw [F 33 rfl, K 0 (by omega)]; exact c2
  · rw [K 51 (by omega), K 0 (by omega)]; exact c3
  · rw [K 51 (by omega), K 0 (by omega)]; exact c4
/-! book -/
theorem iv_book_ok {c : Nat → Nat} {T n m u t : Nat} {L W : bL_} {h h9 k : hp_} (I : IV c T n m u t L h) (a : bokT h h9 W n) (b : bokTm (jj_rs h9 [(13, upd (h9 13) 1 0)]) k W n) : IV c 0 n m u t W k ∧ k 49 0 = 0 := by
  obtain ⟨a1, a2, a3, a4, a5, a6⟩ := a
  obtain ⟨⟨b1, b2, b3, b4⟩, _, b5, b6, b7⟩ := b
  have K : ∀ x, (¬ x = 49 ∧ ¬ (397 ≤ x ∧ x < 405) ∧ ¬ (406 ≤ x ∧ x < 414) ∧ ¬ x = 25 ∧ ¬ x = 27 ∧ ¬ x = 26 ∧ ¬ x = 13) → k x = h x := fun x q => by
    rw [b6 x q.1 q.2.1 q.2.2.1, j13_ne q.2.2.2.2.2.2, a6 x (by simp [pB, q.2.2.2.1, q.2.2.2.2.1]) q.2.2.2.2.2.1 q.2.2.2.2.2.2]
  have F : ∀ i, fN i = false → ¬ i = 31 → k 49 i = h 49 i := fun i q1 q2 => by
    rw [b7 i q1 q2, j13_ne (by decide), a6 49 rfl (by decide) (by decide)]
  have k13 : k 13 = upd (h9 13) 1 0 := by rw [b6 13 (by decide) (by omega) (by omega), j13_eq]
  have k25 : k 25 = h9 25 := by rw [b6 25 (by decide) (by omega) (by omega), j13_ne (by decide)]
  have k26 : k 26 = h9 26 := by rw [b6 26 (by decide) (by omega) (by omega), j13_ne (by decide)]
  obtain ⟨i1, ⟨c1, c2, c3, c4⟩, i3, i4, i5, i6, i7⟩ := I
  refine ⟨⟨iT_of i1 (fun x q => K x (by omega)) (by rw [k13]; rfl) b2 (by omega), ⟨?_, ?_, ?_, ?_⟩, iS_of i3 (fun x q => K x (by omega)), iL_of i4 (by rw [K 7 (by omega)]) (F 17 rfl (by decide)) (fun x q => K x (by omega)), iN_of i5 (fun x q => K x (by omega)), ⟨by rw [k25]; exact a4, b4, a3, fun _ p hp => by rw [k26]; exact a5 p hp, b5⟩, iH_of i7 (F 32 rfl (by decide)) (F 34 rfl (by decide)) (fun x q => K x (by omega))⟩, b1⟩
  · rw [b3, k13]; exact a2.symm
  · rw [F 33 rfl (by decide), K 0 (by omega)]; exact c2
  · rw [K 51 (by omega), K 0 (by omega)]; exact c3
  · rw [K 51 (by omega), K 0 (by omega)]; exact c4
theorem iv_book_er {c : Nat → Nat} {T n m u t e p : Nat} {L : bL_} {h h9 k : hp_} (I : IV c T n m u t L h) (a : bokE h h9 e p) (b : bokEm (jj_rs h9 [(13, upd (h9 13) 1 0)]) k p) : IV c 0 n m u t L k ∧ k 49 0 = 0 := by
  obtain ⟨a1, a2, a3, a6⟩ := a
  obtain ⟨b1, b2, b3, b6, b7⟩ := b
  have K : ∀ x, (¬ x = 49 ∧ ¬ (406 ≤ x ∧ x < 414) ∧ ¬ x = 25 ∧ ¬ x = 27 ∧ ¬ x = 13) → k x = h x := fun x q => by
    rw [b6 x q.1 q.2.1, j13_ne q.2.2.2.2, a6 x (by simp [pB, q.2.2.1, q.2.2.2.1]) q.2.2.2.2]
  have F : ∀ i, fN i = false → k 49 i = h 49 i := fun i q1 => by
    rw [b7 i q1, j13_ne (by decide), a6 49 rfl (by decide)]
  have k13 : k 13 = upd (h9 13) 1 0 := by rw [b6 13 (by decide) (by omega), j13_eq]
  have k25 : k 25 = h9 25 := by rw [b6 25 (by decide) (by omega), j13_ne (by decide)]
  obtain ⟨i1, ⟨c1, c2, c3, c4⟩, i3, i4, i5, i6, i7⟩ := I
  refine ⟨⟨iT_of i1 (fun x q => K x (by omega)) (by rw [k13]; rfl) b2 (by omega), ⟨?_, ?_, ?_, ?_⟩, iS_of i3 (fun x q => K x (by omega)), iL_of i4 (by rw [K 7 (by omega)]) (F 17 rfl) (fun x q => K x (by omega)), iN_of i5 (fun x q => K x (by omega)), iB_of i6 (by rw [k25]; exact a3) (F 31 rfl) (fun x q => K x (by omega)), iH_of i7 (F 32 rfl) (F 34 rfl) (fun x q => K x (by omega))⟩, b1⟩
  · rw [b3, k13]; exact a2.symm
  · rw [F 33 rfl, K 0 (by omega)]; exact c2
  · rw [K 51 (by omega), K 0 (by omega)]; exact c3
  · rw [K 51 (by omega), K 0 (by omega)]; exact c4
/-! street that was refused by a fault, work that was not read -/
theorem iv_street_er {c : Nat → Nat} {T n m u t e p : Nat} {L : bL_} {h h9 k : hp_} (I : IV c T n m u t L h) (a : strE h h9 e p) (b : strEm (jj_rs h9 [(13, upd (h9 13) 1 0)]) k p) : IV c 0 n m u t L k ∧ k 49 0 = 0 := by
  obtain ⟨a1, a2, a6⟩ := a
  obtain ⟨b1, b2, b3, b6, b7⟩ := b
  have K : ∀ x, (¬ x = 49 ∧ ¬ x = 52 ∧ ¬ x = 72 ∧ ¬ (55 ≤ x ∧ x < 63) ∧ ¬ (15 ≤ x ∧ x < 21) ∧ ¬ x = 13) → k x = h x := fun x q => by
    rw [b6 x (by simp only [pT, Bool.or_eq_false_iff, beq_eq_false_iff_ne, Bool.and_eq_false_iff, decide_eq_false_iff_not, ne_eq]; omega) q.1, j13_ne q.2.2.2.2.2, a6 x (by simp only [pX, Bool.and_eq_false_iff, decide_eq_false_iff_not]; omega) q.2.2.2.2.2]
  have F : ∀ i, fN i = false → k 49 i = h 49 i := fun i q1 => by
    rw [b7 i q1, j13_ne (by decide), a6 49 rfl (by decide)]
  have k13 : k 13 = upd (h9 13) 1 0 := by rw [b6 13 rfl (by decide), j13_eq]
  obtain ⟨i1, ⟨c1, c2, c3, c4⟩, i3, i4, i5, i6, i7⟩ := I
  refine ⟨⟨iT_of i1 (fun x q => K x (by omega)) (by rw [k13]; rfl) b2 (by omega), ⟨?_, ?_, ?_, ?_⟩, iS_of i3 (fun x q => K x (by omega)), iL_of i4 (by rw [K 7 (by omega)]) (F 17 rfl) (fun x q => K x (by omega)), iN_of i5 (fun x q => K x (by omega)), iB_of i6 (by rw [K 25 (by omega)]) (F 31 rfl) (fun x q => K x (by omega)), iH_of i7 (F 32 rfl) (F 34 rfl) (fun x q => K x (by omega))⟩, b1⟩
  · rw [b3, k13]; exact a2.symm
  · rw [F 33 rfl, K 0 (by omega)]; exact c2
  · rw [K 51 (by omega), K 0 (by omega)]; exact c3
  · rw [K 51 (by omega), K 0 (by omega)]; exact c4
theorem iv_work_er {c : Nat → Nat} {T n m u t e p : Nat} {L : bL_} {h h9 k : hp_} (I : IV c T n m u t L h) (a : wrkE h h9 e p) (b : wrkEm (jj_rs h9 [(13, upd (h9 13) 1 0)]) k p) : IV c 0 n m u t L k ∧ k 49 0 = 0 := by
  obtain ⟨a1, a2, a6⟩ := a
  obtain ⟨b1, b2, b3, b6, b7⟩ := b
  have K : ∀ x, (¬ x = 49 ∧ ¬ (417 ≤ x ∧ x < 497) ∧ ¬ (21 ≤ x ∧ x < 25) ∧ ¬ x = 13) → k x = h x := fun x q => by
    rw [b6 x (by simp only [pU, Bool.and_eq_false_iff, decide_eq_false_iff_not]; omega) q.1, j13_ne q.2.2.2, a6 x (by simp only [pV, Bool.or_eq_false_iff, beq_eq_false_iff_ne, ne_eq]; omega) q.2.2.2]
  have F : ∀ i, fN i = false → k 49 i = h 49 i := fun i q1 => by
    rw [b7 i q1, j13_ne (by decide), a6 49 rfl (by decide)]
  have k13 : k 13 = upd (h9 13) 1 0 := by rw [b6 13 rfl (by decide), j13_eq]
  obtain ⟨i1, ⟨c1, c2, c3, c4⟩, i3, i4, i5, i6, i7⟩ := I
  refine ⟨⟨iT_of i1 (fun x q => K x (by omega)) (by rw [k13]; rfl) b2 (by omega), ⟨?_, ?_, ?_, ?_⟩, iS_of i3 (fun x q => K x (by omega)), iL_of i4 (by rw [K 7 (by omega)]) (F 17 rfl) (fun x q => K x (by omega)), iN_of i5 (fun x q => K x (by omega)), iB_of i6 (by rw [K 25 (by omega)]) (F 31 rfl) (fun x q => K x (by omega)), iH_of i7 (F 32 rfl) (F 34 rfl) (fun x q => K x (by omega))⟩, b1⟩
  · rw [b3, k13]; exact a2.symm
  · rw [F 33 rfl, K 0 (by omega)]; exact c2
  · rw [K 51 (by omega), K 0 (by omega)]; exact c3
  · rw [K 51 (by omega), K 0 (by omega)]; exact c4
theorem iv_work_fu {c : Nat → Nat} {T n m u t : Nat} {L : bL_} {h h9 k : hp_} (I : IV c T n m u t L h) (a2 : h9 13 8 = -1) (a6 : ∀ x, ¬ x = 13 → h9 x = h x) (b : k 49 0 = 0 ∧ k 49 1 = 0 ∧ k 49 3 = -1) (b6 : ∀ x, ¬ x = 49 → k x = jj_rs h9 [(13, upd (h9 13) 1 0)] x) (b7 : ∀ i, fN i = false → k 49 i = jj_rs h9 [(13, upd (h9 13) 1 0)] 49 i) : IV c 0 n m u t L k ∧ k 49 0 = 0 := by
  obtain ⟨b1, b2, b3⟩ := b
  have K : ∀ x, (¬ x = 49 ∧ ¬ x = 13) → k x = h x := fun x q => by
    rw [b6 x q.1, j13_ne q.2, a6 x q.2]
  have F : ∀ i, fN i = false → k 49 i = h 49 i := fun i q1 => by
    rw [b7 i q1, j13_ne (by decide), a6 49 (by decide)]
  have k13 : k 13 = upd (h9 13) 1 0 := by rw [b6 13 (by decide), j13_eq]
  obtain ⟨i1, ⟨c1, c2, c3, c4⟩, i3, i4, i5, i6, i7⟩ := I
  refine ⟨⟨iT_of i1 (fun x q => K x (by omega)) (by rw [k13]; rfl) b2 (by omega), ⟨?_, ?_, ?_, ?_⟩, iS_of i3 (fun x q => K x (by omega)), iL_of i4 (by rw [K 7 (by omega)]) (F 17 rfl) (fun x q => K x (by omega)), iN_of i5 (fun x q => K x (by omega)), iB_of i6 (by rw [K 25 (by omega)]) (F 31 rfl) (fun x q => K x (by omega)), iH_of i7 (F 32 rfl) (F 34 rfl) (fun x q => K x (by omega))⟩, b1⟩
  · rw [b3, k13]; exact a2.symm
  · rw [F 33 rfl, K 0 (by omega)]; exact c2
  · rw [K 51 (by omega), K 0 (by omega)]; exact c3
  · rw [K 51 (by omega), K 0 (by omega)]; exact c4
/-! street -/
def spok (S : sT_) : Prop := (∀ (i : Nat) (z : pP_), S.1[i]? = some z → z.2.2.1 ≤ 20 ∧ z.2.2.2 ≤ 20) ∧ S.1.length ≤ 8 ∧ ∀ i, bn (S.2.2 i) < 2 ^ S.1.length
theorem pnum_val {c : Nat → Nat} {e lim a : Nat} {z : Nat × Nat} (h : pnum c e lim a = .ok z) : z.1 < lim := by
  unfold pnum at h
  by_cases c1 : kd c e a = 1
  · rw [if_pos c1] at h
    by_cases c2 : vl c e a < lim
    · rw [if_pos c2] at h; cases h; exact c2
    · rw [if_neg c2] at h; cases h
  · rw [if_neg c1] at h; cases h
theorem fu_ok {F : Nat → Int32} {a b N : Nat} (hN : N ≤ 8) (ha : a < N) (hb : b < N) (h : ∀ i, bn (F i) < 2 ^ N) (i : Nat) : bn (fu F a b i) < 2 ^ N := by
  have s : ∀ (x : Int32) (j : Nat), j < N → bn x < 2 ^ N → bn (x ||| (1 <<< (nI j &&& 31))) < 2 ^ N := fun x j hj hx => by
    rw [bn_or, bn_1s j (by omega)]
    exact Nat.or_lt_two_pow hx (Nat.pow_lt_pow_right (by decide) hj)
  have h1 : ∀ j, bn (upd F a (F a ||| (1 <<< (nI b &&& 31))) j) < 2 ^ N := fun j => by
    by_cases q : j = a
    · rw [jj_ueq q]; exact s _ _ hb (h a)
    · rw [jj_une q]; exact h j
  unfold fu
  by_cases q : i = b
  · rw [jj_ueq q]; exact s _ _ ha (h1 b)
  · rw [jj_une q]; exact h1 i
theorem pclause_ok {c : Nat → Nat} {e j a : Nat} {S : sT_} {z : sT_ × Nat} (h : pclause c e j S a = .ok z) (hS : spok S) : spok z.1 := by
  obtain ⟨s1, s2, s3⟩ := hS
  unfold pclause at h
  by_cases c1 : wis c e a [112, 101, 114, 115, 111, 110] = true
  · rw [if_pos c1] at h
    by_cases c2 : j = 60 ∨ S.1.length = 8
    · rw [if_pos c2] at h; cases h
    · rw [if_neg c2] at h
      unfold ppers at h
      obtain ⟨z1, e1, h⟩ := pb_inv h
      obtain ⟨z2, e2, h⟩ := pb_inv h
      obtain ⟨z3, e3, h⟩ := pb_inv h
      obtain ⟨z4, e4, h⟩ := pb_inv h
      obtain ⟨b, e5, h⟩ := pb_inv h
      cases h
      have l3 := pnum_val e3
      have l4 := pnum_val e4
      refine ⟨fun i z hz => ?_, ?_, fun i => ?_⟩
      · have hz : (S.1 ++ [(z1.1, z2.1, z3.1, z4.1)])[i]? = some z := hz
        rcases Nat.lt_or_ge i S.1.length with q | q
        · rw [List.getElem?_append_left q] at hz; exact s1 i z hz
        · rw [List.getElem?_append_right q] at hz
          have hi := (List.getElem?_eq_some_iff.mp hz).1
          rw [show i - S.1.length = 0 by simp at hi; omega] at hz
          cases hz
          exact ⟨by show z3.1 ≤ 20; omega, by show z4.1 ≤ 20; omega⟩
      · show (S.1 ++ [_]).length ≤ 8
        rw [List.length_append, List.length_singleton]; omega
      · show bn (S.2.2 i) < 2 ^ (S.1 ++ [_]).length
        rw [List.length_append, List.length_singleton]
        exact Nat.lt_of_lt_of_le (s3 i) (Nat.pow_le_pow_right (by decide) (by omega))
  · rw [if_neg c1] at h
    by_cases c2 : wis c e a [102, 114, 105, 101, 110, 100] = true
    · rw [if_pos c2] at h
      by_cases c3 : j = 60
      · rw [if_pos c3] at h; cases h
      · rw [if_neg c3] at h
        obtain ⟨w, e1, h⟩ := pb_inv h
        obtain ⟨b, e2, h⟩ := pb_inv h
        cases h
        unfold pfrnd at e1
        obtain ⟨z1, f1, e1⟩ := pb_inv e1
        obtain ⟨z2, f2, e1⟩ := pb_inv e1
        by_cases c4 : z2.1 = z1.1
        · rw [if_pos c4] at e1; cases e1
        · rw [if_neg c4] at e1; cases e1
          exact ⟨s1, s2, fu_ok s2 (pnum_val f1) (pnum_val f2) s3⟩
    · rw [if_neg c2] at h
      by_cases c3 : wis c e a [115, 116, 114, 105, 110, 103] = true
      · rw [if_pos c3] at h
        by_cases c4 : j = 60
        · rw [if_pos c4] at h; cases h
        · rw [if_neg c4] at h
          obtain ⟨w, e1, h⟩ := pb_inv h
          obtain ⟨b, e2, h⟩ := pb_inv h
          cases h
          exact ⟨s1, s2, s3⟩
      · rw [if_neg c3] at h; cases h
theorem pls_ok {c : Nat → Nat} {e : Nat} : ∀ f j (S : sT_) a z, pls c e f j S a = .ok z → spok S → spok z.1
  | 0, j, S, a, z, h, hS => by cases h; exact hS
  | f + 1, j, S, a, z, h, hS => by
    by_cases q : kd c e a = 2
    · rw [pls_s q] at h
      obtain ⟨w, e1, h⟩ := pb_inv h
      exact pls_ok f (j + 1) w.1 w.2 z h (pclause_ok e1 hS)
    · rw [pls_0 q] at h; cases h; exact hS
theorem pstreet_ok {c : Nat → Nat} {e : Nat} {S : sT_} (h : pstreet c e = .ok S) : spok S := by
  unfold pstreet at h
  obtain ⟨w, e1, h⟩ := pb_inv h
  have := pls_ok _ _ _ _ _ e1 ⟨fun i z q => (by cases q), Nat.zero_le _, fun i => Nat.zero_lt_one⟩
  by_cases q : e ≤ w.2
  · rw [if_pos q] at h; cases h; exact this
  · rw [if_neg q] at h; cases h
theorem iv_street_ok {c : Nat → Nat} {T n m u t N : Nat} {L : bL_} {S : sT_} {h h9 k : hp_} (I : IV c T n m u t L h) (hp : pstreet c N = .ok S) (a : strF h h9 S) (b : strTm h9 k S) : IV c 0 S.1.length 0 0 0 [] k ∧ k 49 0 = 0 := by
  obtain ⟨p1, p2, p3⟩ := pstreet_ok hp
  obtain ⟨a1, a2, a3, a4, a5, a6, a7, a8, a9, a10, ⟨a11, a12, a13⟩, a14, ⟨a15, a16⟩, ⟨a17, a18, a19⟩, a20⟩ := a
  obtain ⟨⟨b1, b2, b3⟩, b4, b5, b6, b7, ⟨b8, b9, b10, b11, b12⟩, b13, ⟨b14, b15, b16⟩, b17, b18⟩ := b
  have K : ∀ x, ¬ x = 49 ∧ ¬ x = 52 ∧ ¬ x = 72 ∧ ¬ (55 ≤ x ∧ x < 63) ∧ ¬ x = 53 ∧ ¬ x = 73 ∧ ¬ x = 497 ∧ ¬ (64 ≤ x ∧ x < 72) → k x = h9 x := fun x q => b17 x (by simp only [pY, pT, Bool.or_eq_false_iff, beq_eq_false_iff_ne, Bool.and_eq_false_iff, decide_eq_false_iff_not, ne_eq]; omega) q.1
  have K2 : ∀ x, ¬ x < 8 ∧ ¬ x = 13 ∧ ¬ (15 ≤ x ∧ x < 21) ∧ ¬ x = 25 ∧ ¬ x = 34 ∧ ¬ (38 ≤ x ∧ x < 43) → h9 x = h x := fun x q => a20 x (by simp only [sX_, pX, Bool.or_eq_false_iff, beq_eq_false_iff_ne, Bool.and_eq_false_iff, decide_eq_false_iff_not, ne_eq]; omega)
  have K3 : ∀ x, (¬ x = 49 ∧ ¬ x = 52 ∧ ¬ x = 72 ∧ ¬ (55 ≤ x ∧ x < 63) ∧ ¬ x = 53 ∧ ¬ x = 73 ∧ ¬ x = 497 ∧ ¬ (64 ≤ x ∧ x < 72)) ∧ ¬ x < 8 ∧ ¬ x = 13 ∧ ¬ (15 ≤ x ∧ x < 21) ∧ ¬ x = 25 ∧ ¬ x = 34 ∧ ¬ (38 ≤ x ∧ x < 43) → k x = h x := fun x q => by rw [K x q.1, K2 x q.2]
  obtain ⟨i1, ⟨c1, c2, c3, c4⟩, i3, i4, i5, i6, i7⟩ := I
  have k0 := K 0 (by omega)
  have k1 := K 1 (by omega)
  have k13 := K 13 (by omega)
  refine ⟨⟨iT_of i1 (fun x q => K3 x (by omega)) (by rw [k13]; exact a1) b2 (by omega), ⟨?_, ?_, ?_, ?_⟩, ⟨?_, b4, p2, ?_, fun p hp => ?_, fun p hp => ?_, fun p hp => ?_⟩, ⟨?_, b8, by omega, fun j hj => absurd hj (by omega)⟩, ⟨?_, ?_⟩, ⟨?_, b9, ?_, fun q => absurd q (by decide), fun i z q => by cases q⟩, ⟨⟨?_, b10, by omega⟩, ⟨?_, b12, by omega⟩, fun w hw => ?_, fun i hi => absurd hi (by omega)⟩⟩, b1⟩
  · rw [b3, k13]; exact a2.symm
  · rw [b11, k0]; exact a17.symm
  · rw [K3 51 (by omega), k0, a18]; exact c3
  · rw [K3 51 (by omega), k0, a19]; exact c4
  · rw [k1]; exact a3
  · rw [b5, k1]; exact a5.symm
  · obtain ⟨z, hz⟩ : ∃ z, S.1[p]? = some z := ⟨_, List.getElem?_eq_getElem hp⟩
    obtain ⟨q1, q2, q3, q4⟩ := a7 p z hz
    obtain ⟨r1, r2, r3, r4⟩ := b7 p z hz
    rw [← jj_gd_at (by omega), K 2 (by omega), K 3 (by omega), K 4 (by omega), K 5 (by omega), K 6 (by omega), q1, q2, q3, q4, r1, r2, r3, r4, b6 p (by omega), a6 p hp]
    exact ⟨rfl, rfl, rfl, rfl, rfl⟩
  · rw [b6 p hp]; exact p3 p
  · obtain ⟨z, hz⟩ : ∃ z, S.1[p]? = some z := ⟨_, List.getElem?_eq_getElem hp⟩
    obtain ⟨q1, q2, q3, q4⟩ := a7 p z hz
    obtain ⟨l1, l2⟩ := p1 p z hz
    exact ⟨z.2.2.1, z.2.2.2, by rw [K 4 (by omega)]; exact q3, l1, by rw [K 5 (by omega)]; exact q4, l2⟩
  · rw [K 7 (by omega)]; exact a9
  · rw [K 38 (by omega), K 39 (by omega), K 40 (by omega), K 41 (by omega), K 42 (by omega)]
    refine ⟨⟨by rw [b15, a11], by rw [b16, a12], by rw [b14, a13]⟩, fun p hp => ?_⟩
    obtain ⟨q1, q2, q3, q4⟩ := a14 p hp
    obtain ⟨r1, r2, r3, r4⟩ := b13 p hp
    exact ⟨by rw [r1, q1], by rw [r2, q2], by rw [r3, q3], by rw [r4, q4]⟩
  · rw [K 38 (by omega), K 39 (by omega), K 40 (by omega), K 42 (by omega)]
    refine ⟨⟨0, a11, by omega, fun p hp => ⟨0, (a14 p hp).1, by omega⟩⟩, fun p hp => ⟨Or.inl (a14 p hp).2.1, Or.inl (a14 p hp).2.2.2⟩⟩
  · rw [K 25 (by omega)]; exact a10
  · exact ⟨fun p v q => (by cases q), rfl, fun i z q => (by cases q)⟩
  · rw [K 34 (by omega)]; exact a15
  · rw [K 34 (by omega)]; exact a16
  · rw [K3 35 (by omega), K3 (500 + w) (by omega)]; exact i7.2.2.1 w hw
