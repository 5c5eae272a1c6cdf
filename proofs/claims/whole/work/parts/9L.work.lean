/-! ===== a WORK that was read keeps the invariant ===== -/
theorem iv_work_ok {c : Nat → Nat} {T n m u t N : Nat} {L : bL_} {W : List wE_} {v v2 : Int32} {h h9 k : hp_} (I : IV c T n m u t L h) (hu : u < 16) (hp : pwork c N n = .ok W) (a : wrkF h h9 n m u W v) (b : wrkFm h9 k n m u W v2) : v = v2 ∧ IV c 0 n m (u + 1) t L k ∧ k 49 0 = 0 := by
  obtain ⟨r21, r22, r23, r24, ⟨a1, a2, a3⟩, a4, a5, R, a6, a7, a8, ⟨a9, a10, a11, a12, a13⟩, a14, a15, a16, a17, a18⟩ := a
  obtain ⟨r49, g417, ⟨b1, b2, b3⟩, b4, b5, M, b6, b7, b8, b9, b10, ⟨b11, b12, b13, b14, b15⟩, b16, b17⟩ := b
  obtain ⟨f, hwl⟩ := pwork_wl hp
  have K0 : ∀ x, ¬ x = 0 ∧ ¬ x = 10 ∧ ¬ x = 11 ∧ ¬ x = 13 ∧ ¬ (21 ≤ x ∧ x < 25) ∧ ¬ x = 34 ∧ ¬ x = 35 ∧ ¬ (38 ≤ x ∧ x < 43) → h9 x = h x := fun x q => a18 x (by simp only [wX_, pV, Bool.or_eq_false_iff, beq_eq_false_iff_ne, Bool.and_eq_false_iff, decide_eq_false_iff_not, ne_eq]; omega)
  have K1 : ∀ x, ¬ (417 ≤ x ∧ x < 497) ∧ ¬ x = 49 ∧ ¬ x = 497 ∧ ¬ (500 ≤ x ∧ x < 516) ∧ ¬ x = 414 ∧ ¬ x = 415 → k x = h9 x := fun x q => b17 x (by simp only [pU, Bool.and_eq_false_iff, decide_eq_false_iff_not]; omega) q.2.1 q.2.2.1 q.2.2.2.1 q.2.2.2.2.1 q.2.2.2.2.2
  have K : ∀ x, (¬ x = 0 ∧ ¬ x = 10 ∧ ¬ x = 11 ∧ ¬ x = 13 ∧ ¬ (21 ≤ x ∧ x < 25) ∧ ¬ x = 34 ∧ ¬ x = 35 ∧ ¬ (38 ≤ x ∧ x < 43)) ∧ ¬ (417 ≤ x ∧ x < 497) ∧ ¬ x = 49 ∧ ¬ x = 497 ∧ ¬ (500 ≤ x ∧ x < 516) ∧ ¬ x = 414 ∧ ¬ x = 415 → k x = h x := fun x q => by rw [K1 x q.2, K0 x q.1]
  have g64 : jj_gd h9 64 8 = jj_gd h 64 8 := gd_eq (fun j hj => K0 _ (by omega))
  have g500 : jj_gd h9 500 16 = jj_gd h 500 16 := gd_eq (fun j hj => K0 _ (by omega))
  obtain ⟨i1, ⟨c1, c2, c3, c4⟩, i3, i4, i5, i6, ⟨⟨u1, u2, u3⟩, ⟨t1, t2, t3⟩, i8, i9⟩⟩ := I
  obtain ⟨s1, s2, s3, s4, s5, s6, s7⟩ := id i3
  rw [K0 8 (by omega), K0 73 (by omega), K0 497 (by omega), g64] at b6
  rw [K0 497 (by omega), g500] at b10
  have F0 : ∀ i, fN i = false → ¬ i = 32 → ¬ i = 33 → ¬ i = 36 → ¬ i = 37 → r49 i = h 49 i := fun i q1 q2 q3 q4 q5 => by rw [b16 i q1 q2 q3 q4 q5, K0 49 (by omega)]
  have S := sim (m := m) (r8 := h 8) (z := r49) (lev := 6) s3 (by omega) a4 b4 s5 (j := W.length) hwl (fun i hi => by rw [Nat.zero_add]) (by omega) (Nat.le_refl _) (r21, h 38, h 39, h 40, h 41, h 42) (r49, h 497) ⟨⟨by show r21 7 = r49 36; rw [a1, b1], by show r21 8 = r49 37; rw [a2, b2], by show r21 9 = r49 33; rw [a3, b3]⟩, fun _ _ _ _ => rfl, i5⟩
  rw [Nat.zero_add] at S
  have S : sR r49 (rs (h 2) (h 3) (h 6) (h 8) r22 r23 r24 n m 7 0 (nI W.length) r21 (h 38) (h 39) (h 40) (h 41) (h 42)) (go (h 8) (h 73) (jj_gd h 64 8) g417 n m W.length 0 (nI W.length) r49 (h 497)) := S
  rw [← a6, ← b6] at S
  obtain ⟨⟨S1, S2, S3⟩, S4, S5⟩ := S
  have F : ∀ i, fN i = false → ¬ i = 32 → ¬ i = 33 → ¬ i = 36 → ¬ i = 37 → k 49 i = h 49 i := fun i q1 q2 q3 q4 q5 => by rw [b8, S4 i q3 q4 q5]; exact F0 i q1 q2 q3 q4 q5
  obtain ⟨w1, _, _⟩ := wt_at (r := h 35) (r38 := h 38) (r39 := h 39) (r40 := h 40) (r41 := h 41) (r42 := h 42) (q := u) (by omega)
  obtain ⟨n1, n2, _⟩ := cng_at (r := h 497) (G := jj_gd h 500 16) hu 35
  have kW : ∀ w, w < 16 → k (500 + w) = jj_fo (fX10_copies_ng_1 (h 497) (nI u)) 35 (jj_gd h 500 16) w := fun w hw => by
    rw [jj_gd_at (h := k) hw, b10]; rfl
  have k34 : k 34 = upd (h 34) 0 (nI (u + 1)) := by rw [K1 34 (by omega)]; exact a14
  have k35 : k 35 = rX6_writeTo_35_35 (h 35) (h 38) (h 39) (h 40) (h 41) (h 42) u := by rw [K1 35 (by omega)]; exact a15
  have k0 : k 0 = upd (h 0) 12 (R.1 9) := by rw [K1 0 (by omega)]; exact a8
  have k13 : k 13 = h9 13 := K1 13 (by omega)
  refine ⟨by rw [a7, b7]; exact S2, ⟨iT_of i1 (fun x q => K x (by omega)) (by rw [k13]; exact a16) (by rw [b8, S4 1 (by decide) (by decide) (by decide)]; exact b12) (by omega), ⟨?_, ?_, ?_, ?_⟩, iS_of i3 (fun x q => K x (by omega)), iL_of i4 (by rw [K 7 (by omega)]) (F 17 rfl (by decide) (by decide) (by decide) (by decide)) (fun x q => K x (by omega)), ?_, iB_of i6 (by rw [K 25 (by omega)]) (F 31 rfl (by decide) (by decide) (by decide) (by decide)) (fun x q => K x (by omega)), ⟨⟨by rw [k34, jj_ueq rfl], by rw [b8, S4 32 (by decide) (by decide) (by decide)]; exact b14, by omega⟩, ⟨by rw [k34, jj_une (by decide)]; exact t1, by rw [F 34 rfl (by decide) (by decide) (by decide) (by decide)]; exact t2, t3⟩, fun w hw => ?_, fun i hi => ?_⟩⟩, by rw [b8, S4 0 (by decide) (by decide) (by decide)]; exact b11⟩
  · rw [b8, S4 3 (by decide) (by decide) (by decide), b13, k13, a17]
  · rw [b8, k0, jj_ueq rfl]; exact S3.symm
  · rw [K 51 (by omega), k0, jj_une (by decide)]; exact c3
  · rw [K 51 (by omega), k0, jj_une (by decide)]; exact c4
  · show nn (k 38) (k 39) (k 40) (k 41) (k 42) (k 497)
    rw [K1 38 (by omega), K1 39 (by omega), K1 40 (by omega), K1 41 (by omega), K1 42 (by omega), a9, a10, a11, a12, a13, b9]
    exact S5
  · rw [k35, kW w hw]
    by_cases q : w = u
    · rw [q]
      exact hrw_wr (by omega) (show nn (h 38) (h 39) (h 40) (h 41) (h 42) (h 497) from i5) n2
    · rw [n1 w q, ← jj_gd_at hw]
      refine hrw_of (i8 w hw) (fun j hj => w1 _ (by omega)) (fun _ _ => rfl)
  · rw [K 36 (by omega), K 37 (by omega), K (517 + i) (by omega)]; exact i9 i hi
