theorem pnum_lt {c : Nat → Nat} {e lim a : Nat} {z : Nat × Nat} (h : pnum c e lim a = .ok z) : a < z.2 := by
  have := pnum_ok (v := z.1) (b := z.2) h
  rw [this.2.2]
  exact nt_gt this.2.1
theorem psign_lt {c : Nat → Nat} {e x a b : Nat} (h : psign c e x a = .ok b) : a < b := by
  have := psign_ok h
  rw [this.2]
  exact nt_gt this.1
theorem pstep_gt {S : Option (Nat → Nat → pW_)} {c : Nat → Nat} {e n : Nat} (hS : ∀ s, S = some s → ∀ row a L b, s row a = .ok (L, b) → a ≤ b) (row a : Nat) (L : List wE_) (b : Nat) (h : pstep S c e n row a = .ok (L, b)) : a < b := by
  have nn : a ≤ nt c e a := nt_ge
  have two : ∀ k, ptwo c e n k row a = .ok (L, b) → a < b := by
    intro k h
    unfold ptwo at h
    obtain ⟨z, h1, h⟩ := pb_inv h
    obtain ⟨z2, h2, h⟩ := pb_inv h
    obtain ⟨z3, h3, h⟩ := pb_inv h
    cases h
    have := pnum_lt h1; have := pnum_lt h2; have := psign_lt h3
    omega
  have sgl : ∀ k, psgl c e n k row a = .ok (L, b) → a < b := by
    intro k h
    unfold psgl at h
    obtain ⟨z, h1, h⟩ := pb_inv h
    obtain ⟨z3, h3, h⟩ := pb_inv h
    cases h
    have := pnum_lt h1; have := psign_lt h3
    omega
  rcases sk_cs c e a with q | q | q | q | q | q | q | q
  · unfold pstep at h
    rw [q, if_neg (by decide), if_neg (by decide), if_neg (by decide), if_neg (by decide), if_neg (by decide), if_neg (by decide), if_neg (by decide)] at h
    cases h
  · unfold pstep at h; rw [q, if_pos rfl] at h; exact two _ h
  · unfold pstep at h; rw [q, if_neg (by decide), if_pos rfl] at h; exact two _ h
  · unfold pstep at h; rw [q, if_neg (by decide), if_neg (by decide), if_pos rfl] at h; exact sgl _ h
  · unfold pstep at h; rw [q, if_neg (by decide), if_neg (by decide), if_neg (by decide), if_pos rfl] at h; exact sgl _ h
  · unfold pstep at h; rw [q, if_neg (by decide), if_neg (by decide), if_neg (by decide), if_neg (by decide), if_pos rfl] at h; exact sgl _ h
  · unfold pstep at h; rw [q, if_neg (by decide), if_neg (by decide), if_neg (by decide), if_neg (by decide), if_neg (by decide), if_pos rfl] at h
    obtain ⟨z, h1, h⟩ := pb_inv h
    cases h
    have := psign_lt h1
    omega
  · unfold pstep at h; rw [q, if_neg (by decide), if_neg (by decide), if_neg (by decide), if_neg (by decide), if_neg (by decide), if_neg (by decide), if_pos rfl] at h
    cases S with
    | none => rw [pa_none] at h; cases h
    | some s =>
      rw [pa_some] at h
      obtain ⟨z1, h1, h⟩ := pb_inv h
      obtain ⟨z2, h2, h⟩ := pb_inv h
      obtain ⟨z3, h3, h⟩ := pb_inv h
      obtain ⟨z4, h4, h⟩ := pb_inv h
      obtain ⟨z5, h5, h⟩ := pb_inv h
      cases h
      have := pnum_lt h1; have := psign_lt h2; have := hS s rfl _ _ _ _ (show s (row + 1) z2 = .ok (z3.1, z3.2) from h3); have := psign_lt h4; have := psign_lt h5
      omega
theorem plw_ge {P : Nat → Nat → pW_} {c : Nat → Nat} {e : Nat} (hP : ∀ row a L b, P row a = .ok (L, b) → a < b) {row : Nat} : ∀ f F a L b, plw P c e row f F a = .ok (L, b) → a ≤ b
  | 0, F, a, L, b, h => by cases h; exact Nat.le_refl _
  | f + 1, F, a, L, b, h => by
    by_cases k : kd c e a = 2
    · rw [plw_s k] at h
      obtain ⟨z, h1, h⟩ := pb_inv h
      have := hP _ _ _ _ (show P (row + F.length) a = .ok (z.1, z.2) from h1)
      have := plw_ge hP f _ _ _ _ h
      omega
    · rw [plw_0 k] at h; cases h; exact Nat.le_refl _
theorem pS_ge {c : Nat → Nat} {e n : Nat} : ∀ l s, pS_ c e n l = some s → ∀ row a L b, s row a = .ok (L, b) → a ≤ b
  | 0, s, h => by cases h
  | l + 1, s, h => by
    cases h
    intro row a L b h
    rw [pstps_eq] at h
    exact plw_ge (fun row a L b => pstep_gt (pS_ge l) row a L b) e [] a L b h
theorem cw_lev {c : Nat → Nat} {e n : Nat} (he : e ≤ 150) (hn : n ≤ 8) : ∀ l o, o + l = 6 → cwspec mX8_readSteps (7 + 3 * l) (fun _ => True) (pstps c e n l) c e n o
  | 0, o, h => by
    rw [pstps_eq]
    exact cw_steps he (cw_step (B := 4) he hn (by omega) ⟨fun _ => by omega, fun _ => rfl⟩ (by decide) (fun s q => by cases q)) (fun row a L b => pstep_gt (pS_ge 0) row a L b)
  | l + 1, o, h => by
    have h0 := cw_lev (c := c) he hn l (o + 1) (by omega)
    have h1 := cw_steps he (cw_step (c := c) (e := e) (n := n) (o := o) (B := 7 + 3 * l) (S := pS_ c e n (l + 1)) he hn (by omega) ⟨fun q => (by cases q), fun q => absurd q (by omega)⟩ (by omega) (fun s q => by cases q; exact h0)) (fun row a L b => pstep_gt (pS_ge (l + 1)) row a L b)
    rw [pstps_eq (l + 1)]
    intro D kc ks a v L0 h0 h g Q hD
    exact h1 (by omega)
