/-! ===== a told LAW is well-made ===== -/
def hr (H : Nat) : List (Nat × Nat) → Option Nat
  | [] => some H
  | z :: t => if (z.1 = 0 ∧ z.2 ≤ 999) ∨ (z.1 = 1 ∧ z.2 < 8) then hr (H + 1) t else if 2 ≤ z.1 ∧ z.1 ≤ 8 ∧ 2 ≤ H then hr (H - 1) t else none
theorem hr_app : ∀ (L M : List (Nat × Nat)) (H : Nat), hr H (L ++ M) = (hr H L).bind fun K => hr K M
  | [], M, H => rfl
  | z :: t, M, H => by
    simp only [List.cons_append, hr]
    split
    · exact hr_app t M _
    · split
      · exact hr_app t M _
      · rfl
def fg (L : List (Nat × Nat)) : Prop := ∀ H, hr H L = some (H + 1)
theorem fg_op {L M : List (Nat × Nat)} {o : Nat} (hL : fg L) (hM : fg M) (h1 : 2 ≤ o) (h2 : o ≤ 8) : fg (L ++ M ++ [(o, 0)]) := by
  intro H
  rw [hr_app, hr_app, hL H]
  show ((hr (H + 1) M).bind fun K => hr K [(o, 0)]) = _
  rw [hM (H + 1)]
  show hr (H + 1 + 1) [(o, 0)] = some (H + 1)
  unfold hr
  rw [if_neg (by omega), if_pos (by omega)]
  rfl
theorem fg_plp {P : Nat → pC_} {op : Nat → Nat} {c : Nat → Nat} {e : Nat} (hP : ∀ a L b, P a = .ok (L, b) → fg L) (ho : ∀ a, op a = 0 ∨ (2 ≤ op a ∧ op a ≤ 8)) : ∀ f F a L b, fg F → plp P op c e f F a = .ok (L, b) → fg L
  | 0, F, a, L, b, hF, h => by cases h; exact hF
  | f + 1, F, a, L, b, hF, h => by
    rw [plp] at h
    split at h
    · cases h; exact hF
    · rename_i q
      obtain ⟨z, h1, h⟩ := pb_inv h
      have ho2 := (ho a).resolve_left q
      exact fg_plp hP ho f _ _ _ _ (fg_op hF (hP _ _ _ (show P (nt c e a) = .ok (z.1, z.2) from h1)) ho2.1 ho2.2) h
theorem fg_pair {S : Option (Nat → pC_)} {c : Nat → Nat} {e how a : Nat} {L : List (Nat × Nat)} {b : Nat} (hS : ∀ s, S = some s → ∀ a L b, s a = .ok (L, b) → fg L) (h1 : 2 ≤ how) (h2 : how ≤ 8) (h : ppair S c e how a = .ok (L, b)) : fg L := by
  cases S with
  | none => cases h
  | some s =>
    rw [pp_some] at h
    obtain ⟨z1, q1, h⟩ := pb_inv h
    obtain ⟨z2, q2, h⟩ := pb_inv h
    obtain ⟨z3, q3, h⟩ := pb_inv h
    obtain ⟨z4, q4, h⟩ := pb_inv h
    obtain ⟨z5, q5, h⟩ := pb_inv h
    cases h
    exact fg_op (hS s rfl _ _ _ (show s z1 = .ok (z2.1, z2.2) from q2)) (hS s rfl _ _ _ (show s z3 = .ok (z4.1, z4.2) from q4)) h1 h2
theorem fg_one {S : Option (Nat → pC_)} {c : Nat → Nat} {e : Nat} (hS : ∀ s, S = some s → ∀ a L b, s a = .ok (L, b) → fg L) (a : Nat) (L : List (Nat × Nat)) (b : Nat) (h : pone S c e a = .ok (L, b)) : fg L := by
  unfold pone at h
  split at h
  · exact fg_pair hS (by decide) (by decide) h
  · split at h
    · exact fg_pair hS (by decide) (by decide) h
    · split at h
      · cases S with
        | none => cases h
        | some s =>
          rw [pr_some] at h
          obtain ⟨z1, q1, h⟩ := pb_inv h
          obtain ⟨z2, q2, h⟩ := pb_inv h
          cases h
          exact hS s rfl _ _ _ (show s (nt c e a) = .ok (z1.1, z1.2) from q1)
      · split at h
        · obtain ⟨z1, q1, h⟩ := pb_inv h
          cases h
          have hv := (pnum_ok (v := z1.1) (b := z1.2) q1).1
          intro H
          unfold hr
          rw [if_pos (Or.inl ⟨rfl, by omega⟩)]
          rfl
        · rename_i q
          cases h
          have hv := (kv_n q).2
          intro H
          unfold hr
          rw [if_pos (Or.inr ⟨rfl, hv⟩)]
          rfl
theorem fg_sum {c : Nat → Nat} {e : Nat} : ∀ l a L b, psum c e l a = .ok (L, b) → fg L := by
  have os : ∀ a, osum c e a = 0 ∨ (2 ≤ osum c e a ∧ osum c e a ≤ 8) := by
    intro a
    unfold osum
    repeat' split
    all_goals decide
  have op : ∀ a, oprod c e a = 0 ∨ (2 ≤ oprod c e a ∧ oprod c e a ≤ 8) := by
    intro a
    unfold oprod
    repeat' split
    all_goals decide
  have sm : ∀ S : Option (Nat → pC_), (∀ s, S = some s → ∀ a L b, s a = .ok (L, b) → fg L) → ∀ a L b, psm S c e a = .ok (L, b) → fg L := by
    intro S hS
    have pd : ∀ a L b, pprod S c e a = .ok (L, b) → fg L := by
      intro a L b h
      obtain ⟨z, q, h⟩ := pb_inv h
      exact fg_plp (fg_one hS) op _ _ _ _ _ (fg_one hS a z.1 z.2 q) h
    intro a L b h
    obtain ⟨z, q, h⟩ := pb_inv h
    exact fg_plp pd os _ _ _ _ _ (pd a z.1 z.2 q) h
  intro l
  induction l with
  | zero => exact sm none (fun s q => by cases q)
  | succ l ih => exact sm (some (psum c e l)) (fun s q => by cases q; exact ih)
theorem cel_v {v : Nat} : cel (0, v) = nI v := rfl
theorem cel_le {z : Nat × Nat} (h : (z.1 = 0 ∧ z.2 ≤ 999) ∨ (z.1 = 1 ∧ z.2 < 8)) : cel z ≤ 2000 := by
  unfold cel
  rcases h with h | h
  · rw [if_pos h.1]; exact nI_le (b := 2000) (by omega) (by decide)
  · rw [if_neg (by omega), if_pos h.1]; exact nI_le (b := 2000) (by omega) (by decide)
theorem cel_gt {z : Nat × Nat} (h : 2 ≤ z.1 ∧ z.1 ≤ 8) : ¬ cel z ≤ 2000 := by
  unfold cel
  rw [if_neg (by omega), if_neg (by omega)]
  intro q
  have := (nI_leI (a := 1999 + z.1) (b := 2000) (by omega) (by decide)).mp q
  omega
theorem law_at {r8 : Nat → Int32} {g : Nat → Nat → Int32} : ∀ (L : List (Nat × Nat)) (k0 H K : Nat), hr H L = some K → lw_ht r8 k0 = H → (∀ i z, L[i]? = some z → r8 (k0 + i) = cel z ∧ g (k0 + i) 0 = nI z.1 ∧ g (k0 + i) 1 = nI z.2) → ∀ i, i < L.length →
    (∃ v : Nat, v ≤ 999 ∧ r8 (k0 + i) = nI v ∧ g (k0 + i) 0 = 0 ∧ g (k0 + i) 1 = nI v) ∨ (∃ j : Nat, j < 8 ∧ r8 (k0 + i) = nI (1000 + j) ∧ g (k0 + i) 0 = 1 ∧ g (k0 + i) 1 = nI j) ∨ (∃ o : Nat, 2 ≤ o ∧ o ≤ 8 ∧ r8 (k0 + i) = nI (1999 + o) ∧ g (k0 + i) 0 = nI o ∧ 2 ≤ lw_ht r8 (k0 + i))
  | [], k0, H, K, _, _, _, i, hi => absurd hi (Nat.not_lt_zero i)
  | z :: t, k0, H, K, h, hh, hz, i, hi => by
    have z0 := hz 0 z rfl
    rw [Nat.add_zero] at z0
    have tl : ∀ i w, t[i]? = some w → r8 (k0 + 1 + i) = cel w ∧ g (k0 + 1 + i) 0 = nI w.1 ∧ g (k0 + 1 + i) 1 = nI w.2 := fun i w q => by
      have := hz (i + 1) w q
      rw [show k0 + (i + 1) = k0 + 1 + i by omega] at this
      exact this
    have st : lw_ht r8 (k0 + 1) = if r8 k0 ≤ 2000 then lw_ht r8 k0 + 1 else lw_ht r8 k0 - 1 := rfl
    unfold hr at h
    split at h
    · rename_i q
      rw [if_pos (by rw [z0.1]; exact cel_le q), hh] at st
      cases i with
      | zero =>
        rw [Nat.add_zero]
        rcases q with q | q
        · refine Or.inl ⟨z.2, q.2, ?_, ?_, z0.2.2⟩
          · rw [z0.1]; unfold cel; rw [if_pos q.1]
          · rw [z0.2.1, q.1]; rfl
        · refine Or.inr (Or.inl ⟨z.2, q.2, ?_, ?_, z0.2.2⟩)
          · rw [z0.1]; unfold cel; rw [if_neg (by omega), if_pos q.1]
          · rw [z0.2.1, q.1]; rfl
      | succ i =>
        have := law_at t (k0 + 1) (H + 1) K h st tl i (by simpa using hi)
        rw [show k0 + (i + 1) = k0 + 1 + i by omega]
        exact this
    · split at h
      · rename_i q
        rw [if_neg (by rw [z0.1]; exact cel_gt ⟨q.1, q.2.1⟩), hh] at st
        cases i with
        | zero =>
          rw [Nat.add_zero]
          refine Or.inr (Or.inr ⟨z.1, q.1, q.2.1, ?_, z0.2.1, by rw [hh]; exact q.2.2⟩)
          rw [z0.1]; unfold cel; rw [if_neg (by omega), if_neg (by omega)]
        | succ i =>
          have := law_at t (k0 + 1) (H - 1) K h st tl i (by simpa using hi)
          rw [show k0 + (i + 1) = k0 + 1 + i by omega]
          exact this
      · cases h
/-- a LAW that was read is well-made -/
theorem law_ok {c : Nat → Nat} {e : Nat} {L : List (Nat × Nat)} {r8 : Nat → Int32} {g : Nat → Nat → Int32} (h : plaw c e = .ok L) (hz : ∀ i z, L[i]? = some z → r8 i = cel z ∧ g i 0 = nI z.1 ∧ g i 1 = nI z.2) : lawok r8 g L.length := by
  obtain ⟨z, q, h⟩ := pb_inv h
  split at h
  · cases h
    have hf := fg_sum 6 _ z.1 z.2 q 0
    intro k hk
    have := law_at z.1 0 0 1 hf rfl (fun i w hi => by rw [Nat.zero_add]; exact hz i w hi) k hk
    rw [Nat.zero_add] at this
    exact this
  · cases h
