/-! ===== the class's WORK at work ===== -/
def wv (n k : Nat) (r21 : Nat → Int32) : Prop := ¬ r21 6 = 0 ∧ r21 5 = nI n ∧ ∃ b : Nat, r21 7 = nI b ∧ k ≤ b ∧ b ≤ 200
def rsv (n k : Nat) (row : Int32) (r21 : Nat → Int32) : Prop := (∃ p : Nat, row = nI p ∧ p ≤ 38) ∧ wv n k r21
def pgok (z : Nat) (r22 r23 r24 : Nat → Int32) : Prop := ∀ r, r < z → ((r22 r = 0 ∨ r22 r = 1 ∨ r22 r = 2 ∨ r22 r = 3 ∨ r22 r = 4 → vp_in (r23 r) 8) ∧ (r22 r = 0 ∨ r22 r = 1 → vp_in (r24 r) 8)) ∧ (r22 r = 6 → (∃ q : Nat, r23 r = nI q ∧ q ≤ 60) ∧ ∃ e : Nat, r24 r = nI e ∧ e ≤ z)
def rsok (h h2 : Nat → Nat → Int32) (n : Nat) : Prop := h2 2 = h 2 ∧ h2 3 = h 3 ∧ h2 6 = h 6 ∧ h2 7 = h 7 ∧ h2 8 = h 8 ∧ h2 22 = h 22 ∧ h2 23 = h 23 ∧ h2 24 = h 24 ∧ wv n 0 (h2 21)
theorem wv_0 {n k : Nat} {r : Nat → Int32} (h : wv n k r) : wv n 0 r := by
  obtain ⟨h1, h2, b, h3, h4, h5⟩ := h
  exact ⟨h1, h2, b, h3, Nat.zero_le _, h5⟩
theorem rs_row {z : Nat} {row t : Int32} (hz : z ≤ 38) (hr : ∃ p : Nat, row = nI p ∧ p ≤ 38) (ht : ∃ e : Nat, t = nI e ∧ e ≤ z) (c : ¬ t ≤ row) : row.toNatClampNeg < z := by
  obtain ⟨p, rfl, hp⟩ := hr
  obtain ⟨e, rfl, he⟩ := ht
  rw [nI_leI (by omega) (by omega)] at c
  rw [nI_clamp (by omega)]
  omega
theorem rs_in {row : Int32} (hr : ∃ p : Nat, row = nI p ∧ p ≤ 38) (c : ¬ 38 ≤ row) : vp_in row 38 := by
  obtain ⟨p, rfl, hp⟩ := hr
  have : ¬ 38 ≤ p := fun q => c ((nI_leI (a := 38) (by decide) (by omega)).mpr q)
  exact vp_in_nI (by omega) (by decide)
theorem wv_up {n k : Nat} {r : Nat → Int32} (h : wv n k r) (c : ¬ 200 ≤ r 7) : wv n (k + 1) (upd r 7 (r 7 + 1)) := by
  obtain ⟨h1, h2, b, h3, h4, h5⟩ := h
  have : ¬ 200 ≤ b := fun q => c (by rw [h3]; exact (nI_leI (a := 200) (by decide) (by omega)).mpr q)
  refine ⟨h1, h2, b + 1, ?_, by omega, by omega⟩
  show r 7 + 1 = nI (b + 1)
  rw [h3, nI_1]
theorem wv_cnt {n k : Nat} {r : Nat → Int32} {c : Int32} (h : wv n k r) : wv n k (rX8_countStep_21 r c) := by
  unfold rX8_countStep_21
  split <;> exact h
theorem rs_A {n k : Nat} {row v : Int32} {r : Nat → Int32} (h : rsv n k row r) (c : ¬ 38 ≤ row) (c2 : ¬ 200 ≤ r 7) : rsv n (k + 1) (row + 1) (rX8_countStep_21 (upd r 7 (r 7 + 1)) v) := by
  refine ⟨?_, wv_cnt (wv_up h.2 c2)⟩
  obtain ⟨p, rfl, hp⟩ := h.1
  have : ¬ 38 ≤ p := fun q => c ((nI_leI (a := 38) (by decide) (by omega)).mpr q)
  exact ⟨p + 1, nI_1 p, by omega⟩
theorem rs_B {n k z : Nat} {row t : Int32} {r s r22 r23 r24 : Nat → Int32} (hpg : pgok z r22 r23 r24) (hz : z ≤ 38) (h : rsv n k row r) (ht : ∃ e : Nat, t = nI e ∧ e ≤ z) (c0 : ¬ t ≤ row) (c : ¬ 38 ≤ row) (c6 : r22 row.toNatClampNeg = 6) (hs : wv n (k + 1) s) : rsv n (k + 1) (if row + 1 < r24 row.toNatClampNeg then r24 row.toNatClampNeg else row + 1) s := by
  refine ⟨?_, hs⟩
  obtain ⟨e, he, hez⟩ := ((hpg _ (rs_row hz h.1 ht c0)).2 c6).2
  obtain ⟨p, rfl, hp⟩ := h.1
  have : ¬ 38 ≤ p := fun q => c ((nI_leI (a := 38) (by decide) (by omega)).mpr q)
  split
  · exact ⟨e, he, by omega⟩
  · exact ⟨p + 1, nI_1 p, by omega⟩
theorem rs_dead {n : Nat} {row : Int32} {r : Nat → Int32} (h : rsv n 201 row r) : False := by
  obtain ⟨_, _, _, b, _, h4, h5⟩ := h
  omega
theorem pg_q {z : Nat} {row t : Int32} {r22 r23 r24 : Nat → Int32} (hpg : pgok z r22 r23 r24) (hz : z ≤ 38) (hr : ∃ p : Nat, row = nI p ∧ p ≤ 38) (ht : ∃ e : Nat, t = nI e ∧ e ≤ z) (c0 : ¬ t ≤ row) (c6 : r22 row.toNatClampNeg = 6) : r23 row.toNatClampNeg = nI (r23 row.toNatClampNeg).toNatClampNeg ∧ (r23 row.toNatClampNeg).toNatClampNeg ≤ 60 := by
  obtain ⟨q, hq, hq2⟩ := ((hpg _ (rs_row hz hr ht c0)).2 c6).1
  rw [hq, nI_clamp (by omega)]
  exact ⟨rfl, hq2⟩
theorem pg_f {row : Int32} (hr : ∃ p : Nat, row = nI p ∧ p ≤ 38) (c : ¬ 38 ≤ row) : ∃ p : Nat, row + 1 = nI p ∧ p ≤ 38 := by
  obtain ⟨p, rfl, hp⟩ := hr
  have : ¬ 38 ≤ p := fun q => c ((nI_leI (a := 38) (by decide) (by omega)).mpr q)
  exact ⟨p + 1, nI_1 p, by omega⟩
theorem pg_e {z : Nat} {row t : Int32} {r22 r23 r24 : Nat → Int32} (hpg : pgok z r22 r23 r24) (hz : z ≤ 38) (hr : ∃ p : Nat, row = nI p ∧ p ≤ 38) (ht : ∃ e : Nat, t = nI e ∧ e ≤ z) (c0 : ¬ t ≤ row) (c6 : r22 row.toNatClampNeg = 6) : ∃ e : Nat, r24 row.toNatClampNeg = nI e ∧ e ≤ z :=
  ((hpg _ (rs_row hz hr ht c0)).2 c6).2
def frs1_2 (r24 : Nat → Int32) (K : Int32 → Int32 → (Nat → Int32) → (Nat → Int32) → (Nat → Int32) → (Nat → Int32) → (Nat → Int32) → (Nat → Int32) → (Nat → Int32) × (Nat → Int32) × (Nat → Int32) × (Nat → Int32) × (Nat → Int32) × (Nat → Int32)) (a1 : Int32 × (Nat → Int32) × (Nat → Int32) × (Nat → Int32) × (Nat → Int32) × (Nat → Int32) × (Nat → Int32)) (k2 : Nat) (a2 : (Nat → Int32) × (Nat → Int32) × (Nat → Int32) × (Nat → Int32) × (Nat → Int32) × (Nat → Int32)) : Sum ((Nat → Int32) × (Nat → Int32) × (Nat → Int32) × (Nat → Int32) × (Nat → Int32) × (Nat → Int32)) ((Nat → Int32) × (Nat → Int32) × (Nat → Int32) × (Nat → Int32) × (Nat → Int32) × (Nat → Int32)) := (if 200 ≤ (a2.1 7) then (.inr (a2.1, a2.2.1, a2.2.2.1, a2.2.2.2.1, a2.2.2.2.2.1, a2.2.2.2.2.2)) else (.inl ((K (a1.1 + 1) (r24 (a1.1 : Int32).toNatClampNeg) a2.1 a2.2.1 a2.2.2.1 a2.2.2.2.1 a2.2.2.2.2.1 a2.2.2.2.2.2).1, (K (a1.1 + 1) (r24 (a1.1 : Int32).toNatClampNeg) a2.1 a2.2.1 a2.2.2.1 a2.2.2.2.1 a2.2.2.2.2.1 a2.2.2.2.2.2).2.1, (K (a1.1 + 1) (r24 (a1.1 : Int32).toNatClampNeg) a2.1 a2.2.1 a2.2.2.1 a2.2.2.2.1 a2.2.2.2.2.1 a2.2.2.2.2.2).2.2.1, (K (a1.1 + 1) (r24 (a1.1 : Int32).toNatClampNeg) a2.1 a2.2.1 a2.2.2.1 a2.2.2.2.1 a2.2.2.2.2.1 a2.2.2.2.2.2).2.2.2.1, (K (a1.1 + 1) (r24 (a1.1 : Int32).toNatClampNeg) a2.1 a2.2.1 a2.2.2.1 a2.2.2.2.1 a2.2.2.2.2.1 a2.2.2.2.2.2).2.2.2.2.1, (K (a1.1 + 1) (r24 (a1.1 : Int32).toNatClampNeg) a2.1 a2.2.1 a2.2.2.1 a2.2.2.2.1 a2.2.2.2.2.1 a2.2.2.2.2.2).2.2.2.2.2)))
def frs1_1 (r2 : Nat → Int32) (r3 : Nat → Int32) (r6 : Nat → Int32) (r8 : Nat → Int32) (r22 : Nat → Int32) (r23 : Nat → Int32) (r24 : Nat → Int32) (n : Nat) (m : Nat) (K : Int32 → Int32 → (Nat → Int32) → (Nat → Int32) → (Nat → Int32) → (Nat → Int32) → (Nat → Int32) → (Nat → Int32) → (Nat → Int32) × (Nat → Int32) × (Nat → Int32) × (Nat → Int32) × (Nat → Int32) × (Nat → Int32)) (t : Int32) (k1 : Nat) (a1 : Int32 × (Nat → Int32) × (Nat → Int32) × (Nat → Int32) × (Nat → Int32) × (Nat → Int32) × (Nat → Int32)) : Sum (Int32 × (Nat → Int32) × (Nat → Int32) × (Nat → Int32) × (Nat → Int32) × (Nat → Int32) × (Nat → Int32)) (Int32 × (Nat → Int32) × (Nat → Int32) × (Nat → Int32) × (Nat → Int32) × (Nat → Int32) × (Nat → Int32)) := (if t ≤ a1.1 then (.inr (a1.1, a1.2.1, a1.2.2.1, a1.2.2.2.1, a1.2.2.2.2.1, a1.2.2.2.2.2.1, a1.2.2.2.2.2.2)) else (if 38 ≤ a1.1 then (.inr (a1.1, a1.2.1, a1.2.2.1, a1.2.2.2.1, a1.2.2.2.2.1, a1.2.2.2.2.2.1, a1.2.2.2.2.2.2)) else (if 200 ≤ (a1.2.1 7) then (.inr (a1.1, a1.2.1, a1.2.2.1, a1.2.2.2.1, a1.2.2.2.2.1, a1.2.2.2.2.2.1, a1.2.2.2.2.2.2)) else (if (r22 (a1.1 : Int32).toNatClampNeg) = 6 then (Sum.elim (fun a2 => (.inl ((if (a1.1 + 1) < (r24 (a1.1 : Int32).toNatClampNeg) then (r24 (a1.1 : Int32).toNatClampNeg) else (a1.1 + 1)), a2.1, a2.2.1, a2.2.2.1, a2.2.2.2.1, a2.2.2.2.2.1, a2.2.2.2.2.2))) (fun r2_ => (.inl ((if (a1.1 + 1) < (r24 (a1.1 : Int32).toNatClampNeg) then (r24 (a1.1 : Int32).toNatClampNeg) else (a1.1 + 1)), r2_.1, r2_.2.1, r2_.2.2.1, r2_.2.2.2.1, r2_.2.2.2.2.1, r2_.2.2.2.2.2))) (jj_fx (frs1_2 r24 K a1) (((r23 (a1.1 : Int32).toNatClampNeg) : Int32).toNatClampNeg) ((upd a1.2.1 (7) ((a1.2.1 7) + 1)), a1.2.2.1, a1.2.2.2.1, a1.2.2.2.2.1, a1.2.2.2.2.2.1, a1.2.2.2.2.2.2))) else (.inl ((a1.1 + 1), (rX8_countStep_21 (upd a1.2.1 (7) ((a1.2.1 7) + 1)) (vX8_runStep r2 r3 r6 r8 a1.2.2.1 a1.2.2.2.1 a1.2.2.2.2.1 a1.2.2.2.2.2.1 a1.2.2.2.2.2.2 n m (r22 (a1.1 : Int32).toNatClampNeg) (r23 (a1.1 : Int32).toNatClampNeg) (r24 (a1.1 : Int32).toNatClampNeg))), (rX8_runStep_38 r2 r3 r6 r8 a1.2.2.1 a1.2.2.2.1 a1.2.2.2.2.1 a1.2.2.2.2.2.1 a1.2.2.2.2.2.2 n m (r22 (a1.1 : Int32).toNatClampNeg) (r23 (a1.1 : Int32).toNatClampNeg) (r24 (a1.1 : Int32).toNatClampNeg)), (rX8_runStep_39 r2 r3 r6 r8 a1.2.2.1 a1.2.2.2.1 a1.2.2.2.2.1 a1.2.2.2.2.2.1 a1.2.2.2.2.2.2 n m (r22 (a1.1 : Int32).toNatClampNeg) (r23 (a1.1 : Int32).toNatClampNeg) (r24 (a1.1 : Int32).toNatClampNeg)), (rX8_runStep_40 r2 r3 r6 r8 a1.2.2.1 a1.2.2.2.1 a1.2.2.2.2.1 a1.2.2.2.2.2.1 a1.2.2.2.2.2.2 n m (r22 (a1.1 : Int32).toNatClampNeg) (r23 (a1.1 : Int32).toNatClampNeg) (r24 (a1.1 : Int32).toNatClampNeg)), (rX8_runStep_41 r2 r3 r6 r8 a1.2.2.1 a1.2.2.2.1 a1.2.2.2.2.1 a1.2.2.2.2.2.1 a1.2.2.2.2.2.2 n m (r22 (a1.1 : Int32).toNatClampNeg) (r23 (a1.1 : Int32).toNatClampNeg) (r24 (a1.1 : Int32).toNatClampNeg)), (rX8_runStep_42 r2 r3 r6 r8 a1.2.2.1 a1.2.2.2.1 a1.2.2.2.2.1 a1.2.2.2.2.2.1 a1.2.2.2.2.2.2 n m (r22 (a1.1 : Int32).toNatClampNeg) (r23 (a1.1 : Int32).toNatClampNeg) (r24 (a1.1 : Int32).toNatClampNeg))))))))
def rrs1_21 (r2 : Nat → Int32) (r3 : Nat → Int32) (r6 : Nat → Int32) (r8 : Nat → Int32) (r21 : Nat → Int32) (r22 : Nat → Int32) (r23 : Nat → Int32) (r24 : Nat → Int32) (r38 : Nat → Int32) (r39 : Nat → Int32) (r40 : Nat → Int32) (r41 : Nat → Int32) (r42 : Nat → Int32) (n : Nat) (m : Nat) (K : Int32 → Int32 → (Nat → Int32) → (Nat → Int32) → (Nat → Int32) → (Nat → Int32) → (Nat → Int32) → (Nat → Int32) → (Nat → Int32) × (Nat → Int32) × (Nat → Int32) × (Nat → Int32) × (Nat → Int32) × (Nat → Int32)) (f : Int32) (t : Int32) : Nat → Int32 := (Sum.elim (fun a1 => a1.2.1) (fun r1_ => r1_.2.1) (jj_fx (frs1_1 r2 r3 r6 r8 r22 r23 r24 n m K t) 201 (f, r21, r38, r39, r40, r41, r42)))
def rrs1_38 (r2 : Nat → Int32) (r3 : Nat → Int32) (r6 : Nat → Int32) (r8 : Nat → Int32) (r21 : Nat → Int32) (r22 : Nat → Int32) (r23 : Nat → Int32) (r24 : Nat → Int32) (r38 : Nat → Int32) (r39 : Nat → Int32) (r40 : Nat → Int32) (r41 : Nat → Int32) (r42 : Nat → Int32) (n : Nat) (m : Nat) (K : Int32 → Int32 → (Nat → Int32) → (Nat → Int32) → (Nat → Int32) → (Nat → Int32) → (Nat → Int32) → (Nat → Int32) → (Nat → Int32) × (Nat → Int32) × (Nat → Int32) × (Nat → Int32) × (Nat → Int32) × (Nat → Int32)) (f : Int32) (t : Int32) : Nat → Int32 := (Sum.elim (fun a1 => a1.2.2.1) (fun r1_ => r1_.2.2.1) (jj_fx (frs1_1 r2 r3 r6 r8 r22 r23 r24 n m K t) 201 (f, r21, r38, r39, r40, r41, r42)))
def rrs1_39 (r2 : Nat → Int32) (r3 : Nat → Int32) (r6 : Nat → Int32) (r8 : Nat → Int32) (r21 : Nat → Int32) (r22 : Nat → Int32) (r23 : Nat → Int32) (r24 : Nat → Int32) (r38 : Nat → Int32) (r39 : Nat → Int32) (r40 : Nat → Int32) (r41 : Nat → Int32) (r42 : Nat → Int32) (n : Nat) (m : Nat) (K : Int32 → Int32 → (Nat → Int32) → (Nat → Int32) → (Nat → Int32) → (Nat → Int32) → (Nat → Int32) → (Nat → Int32) → (Nat → Int32) × (Nat → Int32) × (Nat → Int32) × (Nat → Int32) × (Nat → Int32) × (Nat → Int32)) (f : Int32) (t : Int32) : Nat → Int32 := (Sum.elim (fun a1 => a1.2.2.2.1) (fun r1_ => r1_.2.2.2.1) (jj_fx (frs1_1 r2 r3 r6 r8 r22 r23 r24 n m K t) 201 (f, r21, r38, r39, r40, r41, r42)))
def rrs1_40 (r2 : Nat → Int32) (r3 : Nat → Int32) (r6 : Nat → Int32) (r8 : Nat → Int32) (r21 : Nat → Int32) (r22 : Nat → Int32) (r23 : Nat → Int32) (r24 : Nat → Int32) (r38 : Nat → Int32) (r39 : Nat → Int32) (r40 : Nat → Int32) (r41 : Nat → Int32) (r42 : Nat → Int32) (n : Nat) (m : Nat) (K : Int32 → Int32 → (Nat → Int32) → (Nat → Int32) → (Nat → Int32) → (Nat → Int32) → (Nat → Int32) → (Nat → Int32) → (Nat → Int32) × (Nat → Int32) × (Nat → Int32) × (Nat → Int32) × (Nat → Int32) × (Nat → Int32)) (f : Int32) (t : Int32) : Nat → Int32 := (Sum.elim (fun a1 => a1.2.2.2.2.1) (fun r1_ => r1_.2.2.2.2.1) (jj_fx (frs1_1 r2 r3 r6 r8 r22 r23 r24 n m K t) 201 (f, r21, r38, r39, r40, r41, r42)))
def rrs1_41 (r2 : Nat → Int32) (r3 : Nat → Int32) (r6 : Nat → Int32) (r8 : Nat → Int32) (r21 : Nat → Int32) (r22 : Nat → Int32) (r23 : Nat → Int32) (r24 : Nat → Int32) (r38 : Nat → Int32) (r39 : Nat → Int32) (r40 : Nat → Int32) (r41 : Nat → Int32) (r42 : Nat → Int32) (n : Nat) (m : Nat) (K : Int32 → Int32 → (Nat → Int32) → (Nat → Int32) → (Nat → Int32) → (Nat → Int32) → (Nat → Int32) → (Nat → Int32) → (Nat → Int32) × (Nat → Int32) × (Nat → Int32) × (Nat → Int32) × (Nat → Int32) × (Nat → Int32)) (f : Int32) (t : Int32) : Nat → Int32 := (Sum.elim (fun a1 => a1.2.2.2.2.2.1) (fun r1_ => r1_.2.2.2.2.2.1) (jj_fx (frs1_1 r2 r3 r6 r8 r22 r23 r24 n m K t) 201 (f, r21, r38, r39, r40, r41, r42)))
def rrs1_42 (r2 : Nat → Int32) (r3 : Nat → Int32) (r6 : Nat → Int32) (r8 : Nat → Int32) (r21 : Nat → Int32) (r22 : Nat → Int32) (r23 : Nat → Int32) (r24 : Nat → Int32) (r38 : Nat → Int32) (r39 : Nat → Int32) (r40 : Nat → Int32) (r41 : Nat → Int32) (r42 : Nat → Int32) (n : Nat) (m : Nat) (K : Int32 → Int32 → (Nat → Int32) → (Nat → Int32) → (Nat → Int32) → (Nat → Int32) → (Nat → Int32) → (Nat → Int32) → (Nat → Int32) × (Nat → Int32) × (Nat → Int32) × (Nat → Int32) × (Nat → Int32) × (Nat → Int32)) (f : Int32) (t : Int32) : Nat → Int32 := (Sum.elim (fun a1 => a1.2.2.2.2.2.2) (fun r1_ => r1_.2.2.2.2.2.2) (jj_fx (frs1_1 r2 r3 r6 r8 r22 r23 r24 n m K t) 201 (f, r21, r38, r39, r40, r41, r42)))
set_option maxHeartbeats 1000000 in
theorem sp_rs1 {d kc ks : Nat} {h : Nat → Nat → Int32} {g : Nat → Nat → Int64} {Q : jj_Rs → jj_St → Prop} {n : Nat} {m : Nat} {z : Nat} {K : Int32 → Int32 → (Nat → Int32) → (Nat → Int32) → (Nat → Int32) → (Nat → Int32) → (Nat → Int32) → (Nat → Int32) → (Nat → Int32) × (Nat → Int32) × (Nat → Int32) × (Nat → Int32) × (Nat → Int32) × (Nat → Int32)} {f : Int32} {t : Int32} {O : Nat} (hn : n ≤ 8) (hm : h 7 1 = nI m) (hm2 : m ≤ 150) (hf : ∃ p : Nat, f = nI p ∧ p ≤ 38) (ht : ∃ e : Nat, t = nI e ∧ e ≤ z) (hz : z ≤ 38) (hO : O ≤ 6) (hv : wv n 0 (h 21)) (hpg : pgok z (h 22) (h 23) (h 24)) (hK : ∀ f t r21 r38 r39 r40 r41 r42 k, wv n k r21 → wv n k (K f t r21 r38 r39 r40 r41 r42).1) (ih : ∀ {kc ks : Nat} {h2 : Nat → Nat → Int32} {g : Nat → Nat → Int64} {Q : jj_Rs → jj_St → Prop} {f2 t2 : Int32}, rsok h h2 n → (∃ p : Nat, f2 = nI p ∧ p ≤ 38) → (∃ e : Nat, t2 = nI e ∧ e ≤ z) → (∀ h9, jj_eq [10, 11] h2 h9 → Q (.inl none) (jj_S, 782, jj_rs h9 [(21, (K f2 t2 (h2 21) (h2 38) (h2 39) (h2 40) (h2 41) (h2 42)).1), (38, (K f2 t2 (h2 21) (h2 38) (h2 39) (h2 40) (h2 41) (h2 42)).2.1), (39, (K f2 t2 (h2 21) (h2 38) (h2 39) (h2 40) (h2 41) (h2 42)).2.2.1), (40, (K f2 t2 (h2 21) (h2 38) (h2 39) (h2 40) (h2 41) (h2 42)).2.2.2.1), (41, (K f2 t2 (h2 21) (h2 38) (h2 39) (h2 40) (h2 41) (h2 42)).2.2.2.2.1), (42, (K f2 t2 (h2 21) (h2 38) (h2 39) (h2 40) (h2 41) (h2 42)).2.2.2.2.2)], g)) → jj_R mX8_runSteps (d + 8) kc ks (jj_S, 782, h2, g) 0 [(0, .ref 21), (1, .int f2), (2, .int t2), (3, .int (nI (O + 1)))] [] Q) (kq : ∀ h9, jj_eq [10, 11] h h9 → Q (.inl none) (jj_S, 782, (jj_rs h9 [(21, (rrs1_21 (h 2) (h 3) (h 6) (h 8) (h 21) (h 22) (h 23) (h 24) (h 38) (h 39) (h 40) (h 41) (h 42) n m K f t)), (38, (rrs1_38 (h 2) (h 3) (h 6) (h 8) (h 21) (h 22) (h 23) (h 24) (h 38) (h 39) (h 40) (h 41) (h 42) n m K f t)), (39, (rrs1_39 (h 2) (h 3) (h 6) (h 8) (h 21) (h 22) (h 23) (h 24) (h 38) (h 39) (h 40) (h 41) (h 42) n m K f t)), (40, (rrs1_40 (h 2) (h 3) (h 6) (h 8) (h 21) (h 22) (h 23) (h 24) (h 38) (h 39) (h 40) (h 41) (h 42) n m K f t)), (41, (rrs1_41 (h 2) (h 3) (h 6) (h 8) (h 21) (h 22) (h 23) (h 24) (h 38) (h 39) (h 40) (h 41) (h 42) n m K f t)), (42, (rrs1_42 (h 2) (h 3) (h 6) (h 8) (h 21) (h 22) (h 23) (h 24) (h 38) (h 39) (h 40) (h 41) (h 42) n m K f t))]), g)) : jj_R mX8_runSteps (d + 9) kc ks (jj_S, 782, h, g) 0 [(0, .ref 21), (1, .int f), (2, .int t), (3, .int (nI O))] [] Q := by
  refine rr_iload_n 3 rfl rfl dX8_runSteps_0 ?_
  refine rr_bipush 6 rfl dX8_runSteps_1 ?_
  refine rr_icmp_gt dX8_runSteps_3 (fun c => absurd c (jj_ngt (a := O) (b := 6) (by omega) (by decide))) (fun _ => ?_)
  refine rr_aload_n 0 rfl rfl dX8_runSteps_6 ?_
  refine rr_getO dX8_runSteps_7 fX8_87 lo_21 sh_21 rfl hv.1 ?_
  refine rr_ifnonnull dX8_runSteps_10 ?_
  refine rr_iload_n 1 rfl rfl dX8_runSteps_14 ?_
  refine rr_istore [(0, .ref 21), (1, .int f), (2, .int t), (3, .int (nI O)), (4, .int f)] dX8_runSteps_15 (by decide) rfl ?_
  refine jj_Rh (jj_addr (B := h) (o := 21) (r := (h 21)) rfl) ?_
  refine jj_Rh (jj_rs_add (B := h) (L := [(21, (h 21))]) (L2 := [(21, (h 21)), (38, (h 38))]) (o := 38) (r := (h 38)) rfl rfl) ?_
  refine jj_Rh (jj_rs_add (B := h) (L := [(21, (h 21)), (38, (h 38))]) (L2 := [(21, (h 21)), (38, (h 38)), (39, (h 39))]) (o := 39) (r := (h 39)) rfl rfl) ?_
  refine jj_Rh (jj_rs_add (B := h) (L := [(21, (h 21)), (38, (h 38)), (39, (h 39))]) (L2 := [(21, (h 21)), (38, (h 38)), (39, (h 39)), (40, (h 40))]) (o := 40) (r := (h 40)) rfl rfl) ?_
  refine jj_Rh (jj_rs_add (B := h) (L := [(21, (h 21)), (38, (h 38)), (39, (h 39)), (40, (h 40))]) (L2 := [(21, (h 21)), (38, (h 38)), (39, (h 39)), (40, (h 40)), (41, (h 41))]) (o := 41) (r := (h 41)) rfl rfl) ?_
  refine jj_Rh (jj_rs_add (B := h) (L := [(21, (h 21)), (38, (h 38)), (39, (h 39)), (40, (h 40)), (41, (h 41))]) (L2 := [(21, (h 21)), (38, (h 38)), (39, (h 39)), (40, (h 40)), (41, (h 41)), (42, (h 42))]) (o := 42) (r := (h 42)) rfl rfl) ?_
  refine jj_forx (fun k1 (a1 : Int32 × (Nat → Int32) × (Nat → Int32) × (Nat → Int32) × (Nat → Int32) × (Nat → Int32) × (Nat → Int32)) => (rsv n k1 a1.1 a1.2.1) → ∀ hc1, jj_eq [10, 11] h hc1 → jj_R _ _ kc ks (jj_S, 782, (jj_rs hc1 [(21, a1.2.1), (38, a1.2.2.1), (39, a1.2.2.2.1), (40, a1.2.2.2.2.1), (41, a1.2.2.2.2.2.1), (42, a1.2.2.2.2.2.2)]), g) 17 [(0, .ref 21), (1, .int f), (2, .int t), (3, .int (nI O)), (4, .int a1.1)] [] Q) (frs1_1 (h 2) (h 3) (h 6) (h 8) (h 22) (h 23) (h 24) n m K t) 201 (f, (h 21), (h 38), (h 39), (h 40), (h 41), (h 42)) (fun (r1_ : Int32 × (Nat → Int32) × (Nat → Int32) × (Nat → Int32) × (Nat → Int32) × (Nat → Int32) × (Nat → Int32)) => ∀ hc1, jj_eq [10, 11] h hc1 → jj_R mX8_runSteps (d + 9) kc ks (jj_S, 782, (jj_rs hc1 [(21, r1_.2.1), (38, r1_.2.2.1), (39, r1_.2.2.2.1), (40, r1_.2.2.2.2.1), (41, r1_.2.2.2.2.2.1), (42, r1_.2.2.2.2.2.2)]), g) 169 [(0, .ref 21), (1, .int f), (2, .int t), (3, .int (nI O)), (4, .int r1_.1)] [] Q) ?_ ?_ ?_ ⟨hf, hv⟩ h jj_eq.rf
  · intro k1 hk1 a1 ih1 ix1 hi1 hc1 ec1
    try dsimp only at ih1 ix1 ⊢
    refine rr_iload 4 rfl dX8_runSteps_17 ?_
    refine rr_iload_n 2 rfl rfl dX8_runSteps_19 ?_
    refine rr_icmp_ge dX8_runSteps_20 (fun c1 => ?_) (fun c1 => ?_)
    · skip
      try simp only [(nI_clamp (show k1 < 2 ^ 31 by omega))] at c1
      simpa only [nI_1, (nI_clamp (show k1 < 2 ^ 31 by omega)), frs1_1, if_pos c1] using ix1 (a1.1, a1.2.1, a1.2.2.1, a1.2.2.2.1, a1.2.2.2.2.1, a1.2.2.2.2.2.1, a1.2.2.2.2.2.2) (by simp only [(nI_clamp (show k1 < 2 ^ 31 by omega)), frs1_1, if_pos c1]) hc1 ec1
    · skip
      refine rr_iload 4 rfl dX8_runSteps_23 ?_
      refine rr_bipush 38 rfl dX8_runSteps_25 ?_
      refine rr_icmp_ge dX8_runSteps_27 (fun c2 => ?_) (fun c2 => ?_)
      · skip
        try simp only [(nI_clamp (show k1 < 2 ^ 31 by omega))] at c1
        try simp only [(nI_clamp (show k1 < 2 ^ 31 by omega))] at c2
        simpa only [nI_1, (nI_clamp (show k1 < 2 ^ 31 by omega)), frs1_1, if_neg c1, if_pos c2] using ix1 (a1.1, a1.2.1, a1.2.2.1, a1.2.2.2.1, a1.2.2.2.2.1, a1.2.2.2.2.2.1, a1.2.2.2.2.2.2) (by simp only [(nI_clamp (show k1 < 2 ^ 31 by omega)), frs1_1, if_neg c1, if_pos c2]) hc1 ec1
      · skip
        refine rr_aload_n 0 rfl rfl dX8_runSteps_30 ?_
        refine rr_getI dX8_runSteps_31 fX8_91 lo_21 sh_21 rfl ?_
        rw [show (jj_rs hc1 [(21, a1.2.1), (38, a1.2.2.1), (39, a1.2.2.2.1), (40, a1.2.2.2.2.1), (41, a1.2.2.2.2.2.1), (42, a1.2.2.2.2.2.2)]) 21 = a1.2.1 from rfl]
        refine rr_sipush 200 rfl dX8_runSteps_34 ?_
        refine rr_icmp_ge dX8_runSteps_37 (fun c3 => ?_) (fun c3 => ?_)
        · skip
          try simp only [(nI_clamp (show k1 < 2 ^ 31 by omega))] at c1
          try simp only [(nI_clamp (show k1 < 2 ^ 31 by omega))] at c2
          try simp only [(nI_clamp (show k1 < 2 ^ 31 by omega))] at c3
          simpa only [nI_1, (nI_clamp (show k1 < 2 ^ 31 by omega)), frs1_1, if_neg c1, if_neg c2, if_pos c3] using ix1 (a1.1, a1.2.1, a1.2.2.1, a1.2.2.2.1, a1.2.2.2.2.1, a1.2.2.2.2.2.1, a1.2.2.2.2.2.2) (by simp only [(nI_clamp (show k1 < 2 ^ 31 by omega)), frs1_1, if_neg c1, if_neg c2, if_pos c3]) hc1 ec1
        · skip
          refine rr_aload_n 0 rfl rfl dX8_runSteps_40 ?_
          refine rr_dup rfl dX8_runSteps_41 ?_
          refine rr_getI dX8_runSteps_42 fX8_91 lo_21 sh_21 rfl ?_
          rw [show (jj_rs hc1 [(21, a1.2.1), (38, a1.2.2.1), (39, a1.2.2.2.1), (40, a1.2.2.2.2.1), (41, a1.2.2.2.2.2.1), (42, a1.2.2.2.2.2.2)]) 21 = a1.2.1 from rfl]
          refine rr_iconst 1 rfl dX8_runSteps_45 ?_
          refine rr_iadd dX8_runSteps_46 ?_
          refine rr_putI dX8_runSteps_47 fX8_91 ni8_7 lo_21 sh_21 rfl ?_
          rw [jj_rs_set (B := hc1) (L := [(21, a1.2.1), (38, a1.2.2.1), (39, a1.2.2.2.1), (40, a1.2.2.2.2.1), (41, a1.2.2.2.2.2.1), (42, a1.2.2.2.2.2.2)]) (L2 := [(21, (upd a1.2.1 (7) ((a1.2.1 7) + 1))), (38, a1.2.2.1), (39, a1.2.2.2.1), (40, a1.2.2.2.2.1), (41, a1.2.2.2.2.2.1), (42, a1.2.2.2.2.2.2)]) (r := a1.2.1) rfl rfl]
          refine rr_aload_n 0 rfl rfl dX8_runSteps_50 ?_
          refine rr_getR dX8_runSteps_51 fX8_11 lo_21 sh_21 rfl ?_
          refine rr_iload 4 rfl dX8_runSteps_54 ?_
          refine rr_iaload dX8_runSteps_56 lo_22 sh_22 (rs_in hi1.1 (by assumption)) ?_
          rw [show (jj_rs hc1 [(21, (upd a1.2.1 (7) ((a1.2.1 7) + 1))), (38, a1.2.2.1), (39, a1.2.2.2.1), (40, a1.2.2.2.2.1), (41, a1.2.2.2.2.2.1), (42, a1.2.2.2.2.2.2)]) 22 = hc1 22 from rfl]
          rw [ec1 22 (by decide)]
          refine rr_bipush 6 rfl dX8_runSteps_57 ?_
          refine rr_icmp_eq dX8_runSteps_59 (fun c4 => ?_) (fun c4 => ?_)
          · skip
            have hq1 := pg_q hpg hz hi1.1 ht (by assumption) (by assumption)
            refine rr_iconst 0 rfl dX8_runSteps_101 ?_
            refine rr_istore [(0, .ref 21), (1, .int f), (2, .int t), (3, .int (nI O)), (4, .int a1.1), (5, .int 0)] dX8_runSteps_102 (by decide) rfl ?_
            refine jj_forx (fun k2 (a2 : (Nat → Int32) × (Nat → Int32) × (Nat → Int32) × (Nat → Int32) × (Nat → Int32) × (Nat → Int32)) => (wv n (k1 + 1) a2.1) → ∀ hc2, jj_eq [10, 11] h hc2 → jj_R _ _ kc ks (jj_S, 782, (jj_rs hc2 [(21, a2.1), (38, a2.2.1), (39, a2.2.2.1), (40, a2.2.2.2.1), (41, a2.2.2.2.2.1), (42, a2.2.2.2.2.2)]), g) 104 [(0, .ref 21), (1, .int f), (2, .int t), (3, .int (nI O)), (4, .int a1.1), (5, .int (nI k2))] [] Q) (frs1_2 (h 24) K a1) ((((h 23) (a1.1 : Int32).toNatClampNeg) : Int32).toNatClampNeg) ((upd a1.2.1 (7) ((a1.2.1 7) + 1)), a1.2.2.1, a1.2.2.2.1, a1.2.2.2.2.1, a1.2.2.2.2.2.1, a1.2.2.2.2.2.2) (fun (r2_ : (Nat → Int32) × (Nat → Int32) × (Nat → Int32) × (Nat → Int32) × (Nat → Int32) × (Nat → Int32)) => (wv n (k1 + 1) r2_.1) → ∀ hc2, jj_eq [10, 11] h hc2 → jj_R mX8_runSteps (d + 9) kc ks (jj_S, 782, (jj_rs hc2 [(21, r2_.1), (38, r2_.2.1), (39, r2_.2.2.1), (40, r2_.2.2.2.1), (41, r2_.2.2.2.2.1), (42, r2_.2.2.2.2.2)]), g) 150 [(0, .ref 21), (1, .int f), (2, .int t), (3, .int (nI O)), (4, .int a1.1)] [] Q) ?_ ?_ ?_ (wv_up hi1.2 (by assumption)) hc1 ec1
            · intro k2 hk2 a2 ih2 ix2 hi2 hc2 ec2
              try dsimp only at ih2 ix2 ⊢
              refine rr_iload 5 rfl dX8_runSteps_104 ?_
              refine rr_aload_n 0 rfl rfl dX8_runSteps_106 ?_
              refine rr_getR dX8_runSteps_107 fX8_15 lo_21 sh_21 rfl ?_
              refine rr_iload 4 rfl dX8_runSteps_110 ?_
              refine rr_iaload dX8_runSteps_112 lo_23 sh_23 (rs_in hi1.1 (by assumption)) ?_
              rw [show (jj_rs hc2 [(21, a2.1), (38, a2.2.1), (39, a2.2.2.1), (40, a2.2.2.2.1), (41, a2.2.2.2.2.1), (42, a2.2.2.2.2.2)]) 23 = hc2 23 from rfl]
              rw [ec2 23 (by decide)]
              refine rr_icmp_ge dX8_runSteps_113 (fun c => absurd c (by rw [hq1.1]; exact nI_ge (a := k2) (b := (((h 23) (a1.1 : Int32).toNatClampNeg) : Int32).toNatClampNeg) (by omega) (by omega))) (fun _ => ?_)
              refine rr_aload_n 0 rfl rfl dX8_runSteps_116 ?_
              refine rr_getI dX8_runSteps_117 fX8_91 lo_21 sh_21 rfl ?_
              rw [show (jj_rs hc2 [(21, a2.1), (38, a2.2.1), (39, a2.2.2.1), (40, a2.2.2.2.1), (41, a2.2.2.2.2.1), (42, a2.2.2.2.2.2)]) 21 = a2.1 from rfl]
              refine rr_sipush 200 rfl dX8_runSteps_120 ?_
              refine rr_icmp_ge dX8_runSteps_123 (fun c5 => ?_) (fun c5 => ?_)
              · skip
                try simp only [(nI_clamp (show k2 < 2 ^ 31 by omega))] at c5
                refine rr_drop (ls := [(0, .ref 21), (1, .int f), (2, .int t), (3, .int (nI O)), (4, .int a1.1)]) [0, 1, 2, 3, 4] rfl ?_
                simpa only [nI_1, (nI_clamp (show k2 < 2 ^ 31 by omega)), frs1_2, if_pos c5] using ix2 (a2.1, a2.2.1, a2.2.2.1, a2.2.2.2.1, a2.2.2.2.2.1, a2.2.2.2.2.2) (by simp only [(nI_clamp (show k2 < 2 ^ 31 by omega)), frs1_2, if_pos c5]) hi2 hc2 ec2
              · skip
                refine rr_aload_n 0 rfl rfl dX8_runSteps_126 ?_
                refine rr_iload 4 rfl dX8_runSteps_127 ?_
                refine rr_iconst 1 rfl dX8_runSteps_129 ?_
                refine rr_iadd dX8_runSteps_130 ?_
                refine rr_aload_n 0 rfl rfl dX8_runSteps_131 ?_
                refine rr_getR dX8_runSteps_132 fX8_18 lo_21 sh_21 rfl ?_
                refine rr_iload 4 rfl dX8_runSteps_135 ?_
                refine rr_iaload dX8_runSteps_137 lo_24 sh_24 (rs_in hi1.1 (by assumption)) ?_
                rw [show (jj_rs hc2 [(21, a2.1), (38, a2.2.1), (39, a2.2.2.1), (40, a2.2.2.2.1), (41, a2.2.2.2.2.1), (42, a2.2.2.2.2.2)]) 24 = hc2 24 from rfl]
                rw [ec2 24 (by decide)]
                refine rr_iload_n 3 rfl rfl dX8_runSteps_138 ?_
                refine rr_iconst 1 rfl dX8_runSteps_139 ?_
                refine rr_iadd dX8_runSteps_140 ?_
                rw [show ((nI O) + 1 : Int32) = (nI (O + 1)) from nI_add (O) (1)]
                refine rr_callV (As := [.int (a1.1 + 1), .int ((h 24) (a1.1 : Int32).toNatClampNeg), .int (nI (O + 1))]) (rest := []) (kc2 := 0) (ks2 := 0) dX8_runSteps_141 okX8_runSteps lX8_108 lo_21 sh_21 rfl rfl (Nat.le_of_ble_eq_true rfl) (Nat.le_of_ble_eq_true rfl) rfl (by omega) (by simp [jj_rk]) (by simp [jj_rk]) ?_
                refine ih ⟨(show (jj_rs hc2 [(21, a2.1), (38, a2.2.1), (39, a2.2.2.1), (40, a2.2.2.2.1), (41, a2.2.2.2.2.1), (42, a2.2.2.2.2.2)]) 2 = h 2 from ec2 2 (by decide)), (show (jj_rs hc2 [(21, a2.1), (38, a2.2.1), (39, a2.2.2.1), (40, a2.2.2.2.1), (41, a2.2.2.2.2.1), (42, a2.2.2.2.2.2)]) 3 = h 3 from ec2 3 (by decide)), (show (jj_rs hc2 [(21, a2.1), (38, a2.2.1), (39, a2.2.2.1), (40, a2.2.2.2.1), (41, a2.2.2.2.2.1), (42, a2.2.2.2.2.2)]) 6 = h 6 from ec2 6 (by decide)), (show (jj_rs hc2 [(21, a2.1), (38, a2.2.1), (39, a2.2.2.1), (40, a2.2.2.2.1), (41, a2.2.2.2.2.1), (42, a2.2.2.2.2.2)]) 7 = h 7 from ec2 7 (by decide)), (show (jj_rs hc2 [(21, a2.1), (38, a2.2.1), (39, a2.2.2.1), (40, a2.2.2.2.1), (41, a2.2.2.2.2.1), (42, a2.2.2.2.2.2)]) 8 = h 8 from ec2 8 (by decide)), (show (jj_rs hc2 [(21, a2.1), (38, a2.2.1), (39, a2.2.2.1), (40, a2.2.2.2.1), (41, a2.2.2.2.2.1), (42, a2.2.2.2.2.2)]) 22 = h 22 from ec2 22 (by decide)), (show (jj_rs hc2 [(21, a2.1), (38, a2.2.1), (39, a2.2.2.1), (40, a2.2.2.2.1), (41, a2.2.2.2.2.1), (42, a2.2.2.2.2.2)]) 23 = h 23 from ec2 23 (by decide)), (show (jj_rs hc2 [(21, a2.1), (38, a2.2.1), (39, a2.2.2.1), (40, a2.2.2.2.1), (41, a2.2.2.2.2.1), (42, a2.2.2.2.2.2)]) 24 = h 24 from ec2 24 (by decide)), wv_0 hi2⟩ (pg_f hi1.1 (by assumption)) (pg_e hpg hz hi1.1 ht (by assumption) (by assumption)) (fun h6 e7 => ?_)
                obtain ⟨h9, e8, rfl⟩ := jj_lo (X := [10, 11]) ec2 e7 (by decide) (by simp [List.lookup])
                show jj_R _ _ kc ks (jj_S, 782, (jj_rs (jj_rs h9 [(21, a2.1), (38, a2.2.1), (39, a2.2.2.1), (40, a2.2.2.2.1), (41, a2.2.2.2.2.1), (42, a2.2.2.2.2.2)]) [(21, (K (a1.1 + 1) ((h 24) (a1.1 : Int32).toNatClampNeg) a2.1 a2.2.1 a2.2.2.1 a2.2.2.2.1 a2.2.2.2.2.1 a2.2.2.2.2.2).1), (38, (K (a1.1 + 1) ((h 24) (a1.1 : Int32).toNatClampNeg) a2.1 a2.2.1 a2.2.2.1 a2.2.2.2.1 a2.2.2.2.2.1 a2.2.2.2.2.2).2.1), (39, (K (a1.1 + 1) ((h 24) (a1.1 : Int32).toNatClampNeg) a2.1 a2.2.1 a2.2.2.1 a2.2.2.2.1 a2.2.2.2.2.1 a2.2.2.2.2.2).2.2.1), (40, (K (a1.1 + 1) ((h 24) (a1.1 : Int32).toNatClampNeg) a2.1 a2.2.1 a2.2.2.1 a2.2.2.2.1 a2.2.2.2.2.1 a2.2.2.2.2.2).2.2.2.1), (41, (K (a1.1 + 1) ((h 24) (a1.1 : Int32).toNatClampNeg) a2.1 a2.2.1 a2.2.2.1 a2.2.2.2.1 a2.2.2.2.2.1 a2.2.2.2.2.2).2.2.2.2.1), (42, (K (a1.1 + 1) ((h 24) (a1.1 : Int32).toNatClampNeg) a2.1 a2.2.1 a2.2.2.1 a2.2.2.2.1 a2.2.2.2.2.1 a2.2.2.2.2.2).2.2.2.2.2)]), g) 144 [(0, .ref 21), (1, .int f), (2, .int t), (3, .int (nI O)), (4, .int a1.1), (5, .int (nI k2))] [] Q
                rw [jj_rs_rs (B := h9) (L := [(21, a2.1), (38, a2.2.1), (39, a2.2.2.1), (40, a2.2.2.2.1), (41, a2.2.2.2.2.1), (42, a2.2.2.2.2.2)]) (M := [(21, (K (a1.1 + 1) ((h 24) (a1.1 : Int32).toNatClampNeg) a2.1 a2.2.1 a2.2.2.1 a2.2.2.2.1 a2.2.2.2.2.1 a2.2.2.2.2.2).1), (38, (K (a1.1 + 1) ((h 24) (a1.1 : Int32).toNatClampNeg) a2.1 a2.2.1 a2.2.2.1 a2.2.2.2.1 a2.2.2.2.2.1 a2.2.2.2.2.2).2.1), (39, (K (a1.1 + 1) ((h 24) (a1.1 : Int32).toNatClampNeg) a2.1 a2.2.1 a2.2.2.1 a2.2.2.2.1 a2.2.2.2.2.1 a2.2.2.2.2.2).2.2.1), (40, (K (a1.1 + 1) ((h 24) (a1.1 : Int32).toNatClampNeg) a2.1 a2.2.1 a2.2.2.1 a2.2.2.2.1 a2.2.2.2.2.1 a2.2.2.2.2.2).2.2.2.1), (41, (K (a1.1 + 1) ((h 24) (a1.1 : Int32).toNatClampNeg) a2.1 a2.2.1 a2.2.2.1 a2.2.2.2.1 a2.2.2.2.2.1 a2.2.2.2.2.2).2.2.2.2.1), (42, (K (a1.1 + 1) ((h 24) (a1.1 : Int32).toNatClampNeg) a2.1 a2.2.1 a2.2.2.1 a2.2.2.2.1 a2.2.2.2.2.1 a2.2.2.2.2.2).2.2.2.2.2)]) (L2 := [(21, (K (a1.1 + 1) ((h 24) (a1.1 : Int32).toNatClampNeg) a2.1 a2.2.1 a2.2.2.1 a2.2.2.2.1 a2.2.2.2.2.1 a2.2.2.2.2.2).1), (38, (K (a1.1 + 1) ((h 24) (a1.1 : Int32).toNatClampNeg) a2.1 a2.2.1 a2.2.2.1 a2.2.2.2.1 a2.2.2.2.2.1 a2.2.2.2.2.2).2.1), (39, (K (a1.1 + 1) ((h 24) (a1.1 : Int32).toNatClampNeg) a2.1 a2.2.1 a2.2.2.1 a2.2.2.2.1 a2.2.2.2.2.1 a2.2.2.2.2.2).2.2.1), (40, (K (a1.1 + 1) ((h 24) (a1.1 : Int32).toNatClampNeg) a2.1 a2.2.1 a2.2.2.1 a2.2.2.2.1 a2.2.2.2.2.1 a2.2.2.2.2.2).2.2.2.1), (41, (K (a1.1 + 1) ((h 24) (a1.1 : Int32).toNatClampNeg) a2.1 a2.2.1 a2.2.2.1 a2.2.2.2.1 a2.2.2.2.2.1 a2.2.2.2.2.2).2.2.2.2.1), (42, (K (a1.1 + 1) ((h 24) (a1.1 : Int32).toNatClampNeg) a2.1 a2.2.1 a2.2.2.1 a2.2.2.2.1 a2.2.2.2.2.1 a2.2.2.2.2.2).2.2.2.2.2)]) rfl]
                refine rr_iinc 5 1 [(0, .ref 21), (1, .int f), (2, .int t), (3, .int (nI O)), (4, .int a1.1), (5, .int ((nI k2) + 1))] dX8_runSteps_144 rfl rfl (by decide) rfl ?_
                refine rr_goto dX8_runSteps_147 ?_
                try simp only [(nI_clamp (show k2 < 2 ^ 31 by omega))] at c5
                simpa only [nI_1, (nI_clamp (show k2 < 2 ^ 31 by omega)), frs1_2, if_neg c5] using ih2 ((K (a1.1 + 1) ((h 24) (a1.1 : Int32).toNatClampNeg) a2.1 a2.2.1 a2.2.2.1 a2.2.2.2.1 a2.2.2.2.2.1 a2.2.2.2.2.2).1, (K (a1.1 + 1) ((h 24) (a1.1 : Int32).toNatClampNeg) a2.1 a2.2.1 a2.2.2.1 a2.2.2.2.1 a2.2.2.2.2.1 a2.2.2.2.2.2).2.1, (K (a1.1 + 1) ((h 24) (a1.1 : Int32).toNatClampNeg) a2.1 a2.2.1 a2.2.2.1 a2.2.2.2.1 a2.2.2.2.2.1 a2.2.2.2.2.2).2.2.1, (K (a1.1 + 1) ((h 24) (a1.1 : Int32).toNatClampNeg) a2.1 a2.2.1 a2.2.2.1 a2.2.2.2.1 a2.2.2.2.2.1 a2.2.2.2.2.2).2.2.2.1, (K (a1.1 + 1) ((h 24) (a1.1 : Int32).toNatClampNeg) a2.1 a2.2.1 a2.2.2.1 a2.2.2.2.1 a2.2.2.2.2.1 a2.2.2.2.2.2).2.2.2.2.1, (K (a1.1 + 1) ((h 24) (a1.1 : Int32).toNatClampNeg) a2.1 a2.2.1 a2.2.2.1 a2.2.2.2.1 a2.2.2.2.2.1 a2.2.2.2.2.2).2.2.2.2.2) (by simp only [(nI_clamp (show k2 < 2 ^ 31 by omega)), frs1_2, if_neg c5]) (hK _ _ _ _ _ _ _ _ _ hi2) h9 e8
            · intro a2 hx2 hi2 hc2 ec2
              try dsimp only
              refine rr_iload 5 rfl dX8_runSteps_104 ?_
              refine rr_aload_n 0 rfl rfl dX8_runSteps_106 ?_
              refine rr_getR dX8_runSteps_107 fX8_15 lo_21 sh_21 rfl ?_
              refine rr_iload 4 rfl dX8_runSteps_110 ?_
              refine rr_iaload dX8_runSteps_112 lo_23 sh_23 (rs_in hi1.1 (by assumption)) ?_
              rw [show (jj_rs hc2 [(21, a2.1), (38, a2.2.1), (39, a2.2.2.1), (40, a2.2.2.2.1), (41, a2.2.2.2.2.1), (42, a2.2.2.2.2.2)]) 23 = hc2 23 from rfl]
              rw [ec2 23 (by decide)]
              refine rr_icmp_ge dX8_runSteps_113 (fun _ => ?_) (fun c => absurd (by rw [← hq1.1]; exact jj_le_rf _) c)
              refine rr_iload 4 rfl dX8_runSteps_150 ?_
              refine rr_iconst 1 rfl dX8_runSteps_152 ?_
              refine rr_iadd dX8_runSteps_153 ?_
              refine rr_aload_n 0 rfl rfl dX8_runSteps_154 ?_
              refine rr_getR dX8_runSteps_155 fX8_18 lo_21 sh_21 rfl ?_
              refine rr_iload 4 rfl dX8_runSteps_158 ?_
              refine rr_iaload dX8_runSteps_160 lo_24 sh_24 (rs_in hi1.1 (by assumption)) ?_
              rw [show (jj_rs hc2 [(21, a2.1), (38, a2.2.1), (39, a2.2.2.1), (40, a2.2.2.2.1), (41, a2.2.2.2.2.1), (42, a2.2.2.2.2.2)]) 24 = hc2 24 from rfl]
              rw [ec2 24 (by decide)]
              refine rr_mmax (st := []) dX8_runSteps_161 lX8_112 (Nat.le_of_ble_eq_true rfl) ?_
              refine rr_istore [(0, .ref 21), (1, .int f), (2, .int t), (3, .int (nI O)), (4, .int (if (a1.1 + 1) < ((h 24) (a1.1 : Int32).toNatClampNeg) then ((h 24) (a1.1 : Int32).toNatClampNeg) else (a1.1 + 1))), (5, .int (nI (((h 23) (a1.1 : Int32).toNatClampNeg) : Int32).toNatClampNeg))] dX8_runSteps_164 (by decide) rfl ?_
              refine rr_goto dX8_runSteps_166 ?_
              try simp only [(nI_clamp (show k1 < 2 ^ 31 by omega))] at c1
              try simp only [(nI_clamp (show k1 < 2 ^ 31 by omega))] at c2
              try simp only [(nI_clamp (show k1 < 2 ^ 31 by omega))] at c3
              try simp only [(nI_clamp (show k1 < 2 ^ 31 by omega))] at c4
              try simp only [(nI_clamp (show k1 < 2 ^ 31 by omega))] at hx2
              refine rr_drop (ls := [(0, .ref 21), (1, .int f), (2, .int t), (3, .int (nI O)), (4, .int (if (a1.1 + 1) < ((h 24) (a1.1 : Int32).toNatClampNeg) then ((h 24) (a1.1 : Int32).toNatClampNeg) else (a1.1 + 1)))]) [0, 1, 2, 3, 4] rfl ?_
              simpa only [nI_1, (nI_clamp (show k1 < 2 ^ 31 by omega)), frs1_1, if_neg c1, if_neg c2, if_neg c3, if_pos c4, hx2, Sum.elim_inl, Sum.elim_inr] using ih1 ((if (a1.1 + 1) < ((h 24) (a1.1 : Int32).toNatClampNeg) then ((h 24) (a1.1 : Int32).toNatClampNeg) else (a1.1 + 1)), a2.1, a2.2.1, a2.2.2.1, a2.2.2.2.1, a2.2.2.2.2.1, a2.2.2.2.2.2) (by simp only [(nI_clamp (show k1 < 2 ^ 31 by omega)), frs1_1, if_neg c1, if_neg c2, if_neg c3, if_pos c4, hx2, Sum.elim_inl, Sum.elim_inr]) (by first | exact rs_B hpg hz hi1 ht (by assumption) (by assumption) (by assumption) hi2 | exact rs_B hpg hz hi1 ht (by assumption) (by assumption) (by assumption) hj2) hc2 ec2
            · intro r2_ hx2 hj2 hc2 ec2
              try dsimp only
              refine rr_iload 4 rfl dX8_runSteps_150 ?_
              refine rr_iconst 1 rfl dX8_runSteps_152 ?_
              refine rr_iadd dX8_runSteps_153 ?_
              refine rr_aload_n 0 rfl rfl dX8_runSteps_154 ?_
              refine rr_getR dX8_runSteps_155 fX8_18 lo_21 sh_21 rfl ?_
              refine rr_iload 4 rfl dX8_runSteps_158 ?_
              refine rr_iaload dX8_runSteps_160 lo_24 sh_24 (rs_in hi1.1 (by assumption)) ?_
              rw [show (jj_rs hc2 [(21, r2_.1), (38, r2_.2.1), (39, r2_.2.2.1), (40, r2_.2.2.2.1), (41, r2_.2.2.2.2.1), (42, r2_.2.2.2.2.2)]) 24 = hc2 24 from rfl]
              rw [ec2 24 (by decide)]
              refine rr_mmax (st := []) dX8_runSteps_161 lX8_112 (Nat.le_of_ble_eq_true rfl) ?_
              refine rr_istore [(0, .ref 21), (1, .int f), (2, .int t), (3, .int (nI O)), (4, .int (if (a1.1 + 1) < ((h 24) (a1.1 : Int32).toNatClampNeg) then ((h 24) (a1.1 : Int32).toNatClampNeg) else (a1.1 + 1)))] dX8_runSteps_164 (by decide) rfl ?_
              refine rr_goto dX8_runSteps_166 ?_
              try simp only [(nI_clamp (show k1 < 2 ^ 31 by omega))] at c1
              try simp only [(nI_clamp (show k1 < 2 ^ 31 by omega))] at c2
              try simp only [(nI_clamp (show k1 < 2 ^ 31 by omega))] at c3
              try simp only [(nI_clamp (show k1 < 2 ^ 31 by omega))] at c4
              try simp only [(nI_clamp (show k1 < 2 ^ 31 by omega))] at hx2
              simpa only [nI_1, (nI_clamp (show k1 < 2 ^ 31 by omega)), frs1_1, if_neg c1, if_neg c2, if_neg c3, if_pos c4, hx2, Sum.elim_inl, Sum.elim_inr] using ih1 ((if (a1.1 + 1) < ((h 24) (a1.1 : Int32).toNatClampNeg) then ((h 24) (a1.1 : Int32).toNatClampNeg) else (a1.1 + 1)), r2_.1, r2_.2.1, r2_.2.2.1, r2_.2.2.2.1, r2_.2.2.2.2.1, r2_.2.2.2.2.2) (by simp only [(nI_clamp (show k1 < 2 ^ 31 by omega)), frs1_1, if_neg c1, if_neg c2, if_neg c3, if_pos c4, hx2, Sum.elim_inl, Sum.elim_inr]) (by first | exact rs_B hpg hz hi1 ht (by assumption) (by assumption) (by assumption) hi2 | exact rs_B hpg hz hi1 ht (by assumption) (by assumption) (by assumption) hj2) hc2 ec2
          · skip
            refine rr_aload_n 0 rfl rfl dX8_runSteps_62 ?_
            refine rr_aload_n 0 rfl rfl dX8_runSteps_63 ?_
            refine rr_aload_n 0 rfl rfl dX8_runSteps_64 ?_
            refine rr_getO dX8_runSteps_65 fX8_87 lo_21 sh_21 rfl (by exact hi1.2.1) ?_
            refine rr_aload_n 0 rfl rfl dX8_runSteps_68 ?_
            refine rr_getR dX8_runSteps_69 fX8_11 lo_21 sh_21 rfl ?_
            refine rr_iload 4 rfl dX8_runSteps_72 ?_
            refine rr_iaload dX8_runSteps_74 lo_22 sh_22 (rs_in hi1.1 (by assumption)) ?_
            rw [show (jj_rs hc1 [(21, (upd a1.2.1 (7) ((a1.2.1 7) + 1))), (38, a1.2.2.1), (39, a1.2.2.2.1), (40, a1.2.2.2.2.1), (41, a1.2.2.2.2.2.1), (42, a1.2.2.2.2.2.2)]) 22 = hc1 22 from rfl]
            rw [ec1 22 (by decide)]
            refine rr_aload_n 0 rfl rfl dX8_runSteps_75 ?_
            refine rr_getR dX8_runSteps_76 fX8_15 lo_21 sh_21 rfl ?_
            refine rr_iload 4 rfl dX8_runSteps_79 ?_
            refine rr_iaload dX8_runSteps_81 lo_23 sh_23 (rs_in hi1.1 (by assumption)) ?_
            rw [show (jj_rs hc1 [(21, (upd a1.2.1 (7) ((a1.2.1 7) + 1))), (38, a1.2.2.1), (39, a1.2.2.2.1), (40, a1.2.2.2.2.1), (41, a1.2.2.2.2.2.1), (42, a1.2.2.2.2.2.2)]) 23 = hc1 23 from rfl]
            rw [ec1 23 (by decide)]
            refine rr_aload_n 0 rfl rfl dX8_runSteps_82 ?_
            refine rr_getR dX8_runSteps_83 fX8_18 lo_21 sh_21 rfl ?_
            refine rr_iload 4 rfl dX8_runSteps_86 ?_
            refine rr_iaload dX8_runSteps_88 lo_24 sh_24 (rs_in hi1.1 (by assumption)) ?_
            rw [show (jj_rs hc1 [(21, (upd a1.2.1 (7) ((a1.2.1 7) + 1))), (38, a1.2.2.1), (39, a1.2.2.2.1), (40, a1.2.2.2.2.1), (41, a1.2.2.2.2.2.1), (42, a1.2.2.2.2.2.2)]) 24 = hc1 24 from rfl]
            rw [ec1 24 (by decide)]
            refine rr_callV (As := [.ref 38, .int ((h 22) (a1.1 : Int32).toNatClampNeg), .int ((h 23) (a1.1 : Int32).toNatClampNeg), .int ((h 24) (a1.1 : Int32).toNatClampNeg)]) (rest := [.ref 21]) (kc2 := 0) (ks2 := 0) dX8_runSteps_89 okX8_runStep lX8_100 lo_21 sh_21 rfl rfl (Nat.le_of_ble_eq_true rfl) (Nat.le_of_ble_eq_true rfl) rfl (by omega) (by simp [jj_rk]) (by simp [jj_rk]) ?_
            refine sp_X8_runStep (hpg _ (rs_row hz hi1.1 ht (by assumption))).1.1 (hpg _ (rs_row hz hi1.1 ht (by assumption))).1.2 (by exact hi1.2.2.1) hn (by first | exact hm | exact (congrFun (ec1 7 (by decide)) 1).trans hm) hm2 (fun h10 e11 => ?_)
            obtain ⟨h13, e12, rfl⟩ := jj_lo (X := [10, 11]) ec1 e11 (by decide) (by simp [List.lookup])
            show jj_R _ _ kc ks (jj_S, 782, (jj_rs (jj_rs h13 [(21, (upd a1.2.1 (7) ((a1.2.1 7) + 1))), (38, a1.2.2.1), (39, a1.2.2.2.1), (40, a1.2.2.2.2.1), (41, a1.2.2.2.2.2.1), (42, a1.2.2.2.2.2.2)]) [(38, (rX8_runStep_38 (hc1 2) (hc1 3) (hc1 6) (hc1 8) a1.2.2.1 a1.2.2.2.1 a1.2.2.2.2.1 a1.2.2.2.2.2.1 a1.2.2.2.2.2.2 n m ((h 22) (a1.1 : Int32).toNatClampNeg) ((h 23) (a1.1 : Int32).toNatClampNeg) ((h 24) (a1.1 : Int32).toNatClampNeg))), (39, (rX8_runStep_39 (hc1 2) (hc1 3) (hc1 6) (hc1 8) a1.2.2.1 a1.2.2.2.1 a1.2.2.2.2.1 a1.2.2.2.2.2.1 a1.2.2.2.2.2.2 n m ((h 22) (a1.1 : Int32).toNatClampNeg) ((h 23) (a1.1 : Int32).toNatClampNeg) ((h 24) (a1.1 : Int32).toNatClampNeg))), (40, (rX8_runStep_40 (hc1 2) (hc1 3) (hc1 6) (hc1 8) a1.2.2.1 a1.2.2.2.1 a1.2.2.2.2.1 a1.2.2.2.2.2.1 a1.2.2.2.2.2.2 n m ((h 22) (a1.1 : Int32).toNatClampNeg) ((h 23) (a1.1 : Int32).toNatClampNeg) ((h 24) (a1.1 : Int32).toNatClampNeg))), (41, (rX8_runStep_41 (hc1 2) (hc1 3) (hc1 6) (hc1 8) a1.2.2.1 a1.2.2.2.1 a1.2.2.2.2.1 a1.2.2.2.2.2.1 a1.2.2.2.2.2.2 n m ((h 22) (a1.1 : Int32).toNatClampNeg) ((h 23) (a1.1 : Int32).toNatClampNeg) ((h 24) (a1.1 : Int32).toNatClampNeg))), (42, (rX8_runStep_42 (hc1 2) (hc1 3) (hc1 6) (hc1 8) a1.2.2.1 a1.2.2.2.1 a1.2.2.2.2.1 a1.2.2.2.2.2.1 a1.2.2.2.2.2.2 n m ((h 22) (a1.1 : Int32).toNatClampNeg) ((h 23) (a1.1 : Int32).toNatClampNeg) ((h 24) (a1.1 : Int32).toNatClampNeg)))]), g) 92 [(0, .ref 21), (1, .int f), (2, .int t), (3, .int (nI O)), (4, .int a1.1)] [.int (vX8_runStep (hc1 2) (hc1 3) (hc1 6) (hc1 8) a1.2.2.1 a1.2.2.2.1 a1.2.2.2.2.1 a1.2.2.2.2.2.1 a1.2.2.2.2.2.2 n m ((h 22) (a1.1 : Int32).toNatClampNeg) ((h 23) (a1.1 : Int32).toNatClampNeg) ((h 24) (a1.1 : Int32).toNatClampNeg)), .ref 21] Q
            rw [jj_rs_rs (B := h13) (L := [(21, (upd a1.2.1 (7) ((a1.2.1 7) + 1))), (38, a1.2.2.1), (39, a1.2.2.2.1), (40, a1.2.2.2.2.1), (41, a1.2.2.2.2.2.1), (42, a1.2.2.2.2.2.2)]) (M := [(38, (rX8_runStep_38 (hc1 2) (hc1 3) (hc1 6) (hc1 8) a1.2.2.1 a1.2.2.2.1 a1.2.2.2.2.1 a1.2.2.2.2.2.1 a1.2.2.2.2.2.2 n m ((h 22) (a1.1 : Int32).toNatClampNeg) ((h 23) (a1.1 : Int32).toNatClampNeg) ((h 24) (a1.1 : Int32).toNatClampNeg))), (39, (rX8_runStep_39 (hc1 2) (hc1 3) (hc1 6) (hc1 8) a1.2.2.1 a1.2.2.2.1 a1.2.2.2.2.1 a1.2.2.2.2.2.1 a1.2.2.2.2.2.2 n m ((h 22) (a1.1 : Int32).toNatClampNeg) ((h 23) (a1.1 : Int32).toNatClampNeg) ((h 24) (a1.1 : Int32).toNatClampNeg))), (40, (rX8_runStep_40 (hc1 2) (hc1 3) (hc1 6) (hc1 8) a1.2.2.1 a1.2.2.2.1 a1.2.2.2.2.1 a1.2.2.2.2.2.1 a1.2.2.2.2.2.2 n m ((h 22) (a1.1 : Int32).toNatClampNeg) ((h 23) (a1.1 : Int32).toNatClampNeg) ((h 24) (a1.1 : Int32).toNatClampNeg))), (41, (rX8_runStep_41 (hc1 2) (hc1 3) (hc1 6) (hc1 8) a1.2.2.1 a1.2.2.2.1 a1.2.2.2.2.1 a1.2.2.2.2.2.1 a1.2.2.2.2.2.2 n m ((h 22) (a1.1 : Int32).toNatClampNeg) ((h 23) (a1.1 : Int32).toNatClampNeg) ((h 24) (a1.1 : Int32).toNatClampNeg))), (42, (rX8_runStep_42 (hc1 2) (hc1 3) (hc1 6) (hc1 8) a1.2.2.1 a1.2.2.2.1 a1.2.2.2.2.1 a1.2.2.2.2.2.1 a1.2.2.2.2.2.2 n m ((h 22) (a1.1 : Int32).toNatClampNeg) ((h 23) (a1.1 : Int32).toNatClampNeg) ((h 24) (a1.1 : Int32).toNatClampNeg)))]) (L2 := [(21, (upd a1.2.1 (7) ((a1.2.1 7) + 1))), (38, (rX8_runStep_38 (hc1 2) (hc1 3) (hc1 6) (hc1 8) a1.2.2.1 a1.2.2.2.1 a1.2.2.2.2.1 a1.2.2.2.2.2.1 a1.2.2.2.2.2.2 n m ((h 22) (a1.1 : Int32).toNatClampNeg) ((h 23) (a1.1 : Int32).toNatClampNeg) ((h 24) (a1.1 : Int32).toNatClampNeg))), (39, (rX8_runStep_39 (hc1 2) (hc1 3) (hc1 6) (hc1 8) a1.2.2.1 a1.2.2.2.1 a1.2.2.2.2.1 a1.2.2.2.2.2.1 a1.2.2.2.2.2.2 n m ((h 22) (a1.1 : Int32).toNatClampNeg) ((h 23) (a1.1 : Int32).toNatClampNeg) ((h 24) (a1.1 : Int32).toNatClampNeg))), (40, (rX8_runStep_40 (hc1 2) (hc1 3) (hc1 6) (hc1 8) a1.2.2.1 a1.2.2.2.1 a1.2.2.2.2.1 a1.2.2.2.2.2.1 a1.2.2.2.2.2.2 n m ((h 22) (a1.1 : Int32).toNatClampNeg) ((h 23) (a1.1 : Int32).toNatClampNeg) ((h 24) (a1.1 : Int32).toNatClampNeg))), (41, (rX8_runStep_41 (hc1 2) (hc1 3) (hc1 6) (hc1 8) a1.2.2.1 a1.2.2.2.1 a1.2.2.2.2.1 a1.2.2.2.2.2.1 a1.2.2.2.2.2.2 n m ((h 22) (a1.1 : Int32).toNatClampNeg) ((h 23) (a1.1 : Int32).toNatClampNeg) ((h 24) (a1.1 : Int32).toNatClampNeg))), (42, (rX8_runStep_42 (hc1 2) (hc1 3) (hc1 6) (hc1 8) a1.2.2.1 a1.2.2.2.1 a1.2.2.2.2.1 a1.2.2.2.2.2.1 a1.2.2.2.2.2.2 n m ((h 22) (a1.1 : Int32).toNatClampNeg) ((h 23) (a1.1 : Int32).toNatClampNeg) ((h 24) (a1.1 : Int32).toNatClampNeg)))]) rfl]
            try rw [ec1 2 (by decide)]
            try rw [ec1 3 (by decide)]
            try rw [ec1 6 (by decide)]
            try rw [ec1 8 (by decide)]
            refine rr_callV (As := [.int (vX8_runStep (h 2) (h 3) (h 6) (h 8) a1.2.2.1 a1.2.2.2.1 a1.2.2.2.2.1 a1.2.2.2.2.2.1 a1.2.2.2.2.2.2 n m ((h 22) (a1.1 : Int32).toNatClampNeg) ((h 23) (a1.1 : Int32).toNatClampNeg) ((h 24) (a1.1 : Int32).toNatClampNeg))]) (rest := []) (kc2 := 0) (ks2 := 0) dX8_runSteps_92 okX8_countStep lX8_104 lo_21 sh_21 rfl rfl (Nat.le_of_ble_eq_true rfl) (Nat.le_of_ble_eq_true rfl) rfl (by omega) (by simp [jj_rk]) (by simp [jj_rk]) ?_
            refine sp_X8_countStep  ?_
            show jj_R _ _ kc ks (jj_S, 782, (jj_rs (jj_rs h13 [(21, (upd a1.2.1 (7) ((a1.2.1 7) + 1))), (38, (rX8_runStep_38 (h 2) (h 3) (h 6) (h 8) a1.2.2.1 a1.2.2.2.1 a1.2.2.2.2.1 a1.2.2.2.2.2.1 a1.2.2.2.2.2.2 n m ((h 22) (a1.1 : Int32).toNatClampNeg) ((h 23) (a1.1 : Int32).toNatClampNeg) ((h 24) (a1.1 : Int32).toNatClampNeg))), (39, (rX8_runStep_39 (h 2) (h 3) (h 6) (h 8) a1.2.2.1 a1.2.2.2.1 a1.2.2.2.2.1 a1.2.2.2.2.2.1 a1.2.2.2.2.2.2 n m ((h 22) (a1.1 : Int32).toNatClampNeg) ((h 23) (a1.1 : Int32).toNatClampNeg) ((h 24) (a1.1 : Int32).toNatClampNeg))), (40, (rX8_runStep_40 (h 2) (h 3) (h 6) (h 8) a1.2.2.1 a1.2.2.2.1 a1.2.2.2.2.1 a1.2.2.2.2.2.1 a1.2.2.2.2.2.2 n m ((h 22) (a1.1 : Int32).toNatClampNeg) ((h 23) (a1.1 : Int32).toNatClampNeg) ((h 24) (a1.1 : Int32).toNatClampNeg))), (41, (rX8_runStep_41 (h 2) (h 3) (h 6) (h 8) a1.2.2.1 a1.2.2.2.1 a1.2.2.2.2.1 a1.2.2.2.2.2.1 a1.2.2.2.2.2.2 n m ((h 22) (a1.1 : Int32).toNatClampNeg) ((h 23) (a1.1 : Int32).toNatClampNeg) ((h 24) (a1.1 : Int32).toNatClampNeg))), (42, (rX8_runStep_42 (h 2) (h 3) (h 6) (h 8) a1.2.2.1 a1.2.2.2.1 a1.2.2.2.2.1 a1.2.2.2.2.2.1 a1.2.2.2.2.2.2 n m ((h 22) (a1.1 : Int32).toNatClampNeg) ((h 23) (a1.1 : Int32).toNatClampNeg) ((h 24) (a1.1 : Int32).toNatClampNeg)))]) [(21, (rX8_countStep_21 (upd a1.2.1 (7) ((a1.2.1 7) + 1)) (vX8_runStep (h 2) (h 3) (h 6) (h 8) a1.2.2.1 a1.2.2.2.1 a1.2.2.2.2.1 a1.2.2.2.2.2.1 a1.2.2.2.2.2.2 n m ((h 22) (a1.1 : Int32).toNatClampNeg) ((h 23) (a1.1 : Int32).toNatClampNeg) ((h 24) (a1.1 : Int32).toNatClampNeg))))]), g) 95 [(0, .ref 21), (1, .int f), (2, .int t), (3, .int (nI O)), (4, .int a1.1)] [] Q
            rw [jj_rs_rs (B := h13) (L := [(21, (upd a1.2.1 (7) ((a1.2.1 7) + 1))), (38, (rX8_runStep_38 (h 2) (h 3) (h 6) (h 8) a1.2.2.1 a1.2.2.2.1 a1.2.2.2.2.1 a1.2.2.2.2.2.1 a1.2.2.2.2.2.2 n m ((h 22) (a1.1 : Int32).toNatClampNeg) ((h 23) (a1.1 : Int32).toNatClampNeg) ((h 24) (a1.1 : Int32).toNatClampNeg))), (39, (rX8_runStep_39 (h 2) (h 3) (h 6) (h 8) a1.2.2.1 a1.2.2.2.1 a1.2.2.2.2.1 a1.2.2.2.2.2.1 a1.2.2.2.2.2.2 n m ((h 22) (a1.1 : Int32).toNatClampNeg) ((h 23) (a1.1 : Int32).toNatClampNeg) ((h 24) (a1.1 : Int32).toNatClampNeg))), (40, (rX8_runStep_40 (h 2) (h 3) (h 6) (h 8) a1.2.2.1 a1.2.2.2.1 a1.2.2.2.2.1 a1.2.2.2.2.2.1 a1.2.2.2.2.2.2 n m ((h 22) (a1.1 : Int32).toNatClampNeg) ((h 23) (a1.1 : Int32).toNatClampNeg) ((h 24) (a1.1 : Int32).toNatClampNeg))), (41, (rX8_runStep_41 (h 2) (h 3) (h 6) (h 8) a1.2.2.1 a1.2.2.2.1 a1.2.2.2.2.1 a1.2.2.2.2.2.1 a1.2.2.2.2.2.2 n m ((h 22) (a1.1 : Int32).toNatClampNeg) ((h 23) (a1.1 : Int32).toNatClampNeg) ((h 24) (a1.1 : Int32).toNatClampNeg))), (42, (rX8_runStep_42 (h 2) (h 3) (h 6) (h 8) a1.2.2.1 a1.2.2.2.1 a1.2.2.2.2.1 a1.2.2.2.2.2.1 a1.2.2.2.2.2.2 n m ((h 22) (a1.1 : Int32).toNatClampNeg) ((h 23) (a1.1 : Int32).toNatClampNeg) ((h 24) (a1.1 : Int32).toNatClampNeg)))]) (M := [(21, (rX8_countStep_21 (upd a1.2.1 (7) ((a1.2.1 7) + 1)) (vX8_runStep (h 2) (h 3) (h 6) (h 8) a1.2.2.1 a1.2.2.2.1 a1.2.2.2.2.1 a1.2.2.2.2.2.1 a1.2.2.2.2.2.2 n m ((h 22) (a1.1 : Int32).toNatClampNeg) ((h 23) (a1.1 : Int32).toNatClampNeg) ((h 24) (a1.1 : Int32).toNatClampNeg))))]) (L2 := [(21, (rX8_countStep_21 (upd a1.2.1 (7) ((a1.2.1 7) + 1)) (vX8_runStep (h 2) (h 3) (h 6) (h 8) a1.2.2.1 a1.2.2.2.1 a1.2.2.2.2.1 a1.2.2.2.2.2.1 a1.2.2.2.2.2.2 n m ((h 22) (a1.1 : Int32).toNatClampNeg) ((h 23) (a1.1 : Int32).toNatClampNeg) ((h 24) (a1.1 : Int32).toNatClampNeg)))), (38, (rX8_runStep_38 (h 2) (h 3) (h 6) (h 8) a1.2.2.1 a1.2.2.2.1 a1.2.2.2.2.1 a1.2.2.2.2.2.1 a1.2.2.2.2.2.2 n m ((h 22) (a1.1 : Int32).toNatClampNeg) ((h 23) (a1.1 : Int32).toNatClampNeg) ((h 24) (a1.1 : Int32).toNatClampNeg))), (39, (rX8_runStep_39 (h 2) (h 3) (h 6) (h 8) a1.2.2.1 a1.2.2.2.1 a1.2.2.2.2.1 a1.2.2.2.2.2.1 a1.2.2.2.2.2.2 n m ((h 22) (a1.1 : Int32).toNatClampNeg) ((h 23) (a1.1 : Int32).toNatClampNeg) ((h 24) (a1.1 : Int32).toNatClampNeg))), (40, (rX8_runStep_40 (h 2) (h 3) (h 6) (h 8) a1.2.2.1 a1.2.2.2.1 a1.2.2.2.2.1 a1.2.2.2.2.2.1 a1.2.2.2.2.2.2 n m ((h 22) (a1.1 : Int32).toNatClampNeg) ((h 23) (a1.1 : Int32).toNatClampNeg) ((h 24) (a1.1 : Int32).toNatClampNeg))), (41, (rX8_runStep_41 (h 2) (h 3) (h 6) (h 8) a1.2.2.1 a1.2.2.2.1 a1.2.2.2.2.1 a1.2.2.2.2.2.1 a1.2.2.2.2.2.2 n m ((h 22) (a1.1 : Int32).toNatClampNeg) ((h 23) (a1.1 : Int32).toNatClampNeg) ((h 24) (a1.1 : Int32).toNatClampNeg))), (42, (rX8_runStep_42 (h 2) (h 3) (h 6) (h 8) a1.2.2.1 a1.2.2.2.1 a1.2.2.2.2.1 a1.2.2.2.2.2.1 a1.2.2.2.2.2.2 n m ((h 22) (a1.1 : Int32).toNatClampNeg) ((h 23) (a1.1 : Int32).toNatClampNeg) ((h 24) (a1.1 : Int32).toNatClampNeg)))]) rfl]
            refine rr_iinc 4 1 [(0, .ref 21), (1, .int f), (2, .int t), (3, .int (nI O)), (4, .int (a1.1 + 1))] dX8_runSteps_95 rfl rfl (by decide) rfl ?_
            refine rr_goto dX8_runSteps_98 ?_
            try simp only [(nI_clamp (show k1 < 2 ^ 31 by omega))] at c1
            try simp only [(nI_clamp (show k1 < 2 ^ 31 by omega))] at c2
            try simp only [(nI_clamp (show k1 < 2 ^ 31 by omega))] at c3
            try simp only [(nI_clamp (show k1 < 2 ^ 31 by omega))] at c4
            simpa only [nI_1, (nI_clamp (show k1 < 2 ^ 31 by omega)), frs1_1, if_neg c1, if_neg c2, if_neg c3, if_neg c4] using ih1 ((a1.1 + 1), (rX8_countStep_21 (upd a1.2.1 (7) ((a1.2.1 7) + 1)) (vX8_runStep (h 2) (h 3) (h 6) (h 8) a1.2.2.1 a1.2.2.2.1 a1.2.2.2.2.1 a1.2.2.2.2.2.1 a1.2.2.2.2.2.2 n m ((h 22) (a1.1 : Int32).toNatClampNeg) ((h 23) (a1.1 : Int32).toNatClampNeg) ((h 24) (a1.1 : Int32).toNatClampNeg))), (rX8_runStep_38 (h 2) (h 3) (h 6) (h 8) a1.2.2.1 a1.2.2.2.1 a1.2.2.2.2.1 a1.2.2.2.2.2.1 a1.2.2.2.2.2.2 n m ((h 22) (a1.1 : Int32).toNatClampNeg) ((h 23) (a1.1 : Int32).toNatClampNeg) ((h 24) (a1.1 : Int32).toNatClampNeg)), (rX8_runStep_39 (h 2) (h 3) (h 6) (h 8) a1.2.2.1 a1.2.2.2.1 a1.2.2.2.2.1 a1.2.2.2.2.2.1 a1.2.2.2.2.2.2 n m ((h 22) (a1.1 : Int32).toNatClampNeg) ((h 23) (a1.1 : Int32).toNatClampNeg) ((h 24) (a1.1 : Int32).toNatClampNeg)), (rX8_runStep_40 (h 2) (h 3) (h 6) (h 8) a1.2.2.1 a1.2.2.2.1 a1.2.2.2.2.1 a1.2.2.2.2.2.1 a1.2.2.2.2.2.2 n m ((h 22) (a1.1 : Int32).toNatClampNeg) ((h 23) (a1.1 : Int32).toNatClampNeg) ((h 24) (a1.1 : Int32).toNatClampNeg)), (rX8_runStep_41 (h 2) (h 3) (h 6) (h 8) a1.2.2.1 a1.2.2.2.1 a1.2.2.2.2.1 a1.2.2.2.2.2.1 a1.2.2.2.2.2.2 n m ((h 22) (a1.1 : Int32).toNatClampNeg) ((h 23) (a1.1 : Int32).toNatClampNeg) ((h 24) (a1.1 : Int32).toNatClampNeg)), (rX8_runStep_42 (h 2) (h 3) (h 6) (h 8) a1.2.2.1 a1.2.2.2.1 a1.2.2.2.2.1 a1.2.2.2.2.2.1 a1.2.2.2.2.2.2 n m ((h 22) (a1.1 : Int32).toNatClampNeg) ((h 23) (a1.1 : Int32).toNatClampNeg) ((h 24) (a1.1 : Int32).toNatClampNeg))) (by simp only [(nI_clamp (show k1 < 2 ^ 31 by omega)), frs1_1, if_neg c1, if_neg c2, if_neg c3, if_neg c4]) (rs_A hi1 (by assumption) (by assumption)) h13 e12
  · intro a1 hx1 hi1 hc1 ec1
    try dsimp only
    refine rr_iload 4 rfl dX8_runSteps_17 ?_
    refine rr_iload_n 2 rfl rfl dX8_runSteps_19 ?_
    refine rr_icmp_ge dX8_runSteps_20 (fun c14 => ?_) (fun c14 => ?_)
    · skip
      refine rr_return dX8_runSteps_169 rfl ?_
      simpa only [rrs1_21, rrs1_38, rrs1_39, rrs1_40, rrs1_41, rrs1_42, hx1, Sum.elim_inl, Sum.elim_inr] using kq hc1 ec1
    · skip
      exact (rs_dead hi1).elim
  · intro r1_ hx1 hc1 ec1
    try dsimp only
    refine rr_return dX8_runSteps_169 rfl ?_
    simpa only [rrs1_21, rrs1_38, rrs1_39, rrs1_40, rrs1_41, rrs1_42, hx1, Sum.elim_inl, Sum.elim_inr] using kq hc1 ec1
def rs (r2 r3 r6 r8 r22 r23 r24 : Nat → Int32) (n m : Nat) : Nat → Int32 → Int32 → (Nat → Int32) → (Nat → Int32) → (Nat → Int32) → (Nat → Int32) → (Nat → Int32) → (Nat → Int32) → (Nat → Int32) × (Nat → Int32) × (Nat → Int32) × (Nat → Int32) × (Nat → Int32) × (Nat → Int32)
  | 0 => fun _ _ r21 r38 r39 r40 r41 r42 => (r21, r38, r39, r40, r41, r42)
  | j + 1 => fun f t r21 r38 r39 r40 r41 r42 => (rrs1_21 r2 r3 r6 r8 r21 r22 r23 r24 r38 r39 r40 r41 r42 n m (rs r2 r3 r6 r8 r22 r23 r24 n m j) f t, rrs1_38 r2 r3 r6 r8 r21 r22 r23 r24 r38 r39 r40 r41 r42 n m (rs r2 r3 r6 r8 r22 r23 r24 n m j) f t, rrs1_39 r2 r3 r6 r8 r21 r22 r23 r24 r38 r39 r40 r41 r42 n m (rs r2 r3 r6 r8 r22 r23 r24 n m j) f t, rrs1_40 r2 r3 r6 r8 r21 r22 r23 r24 r38 r39 r40 r41 r42 n m (rs r2 r3 r6 r8 r22 r23 r24 n m j) f t, rrs1_41 r2 r3 r6 r8 r21 r22 r23 r24 r38 r39 r40 r41 r42 n m (rs r2 r3 r6 r8 r22 r23 r24 n m j) f t, rrs1_42 r2 r3 r6 r8 r21 r22 r23 r24 r38 r39 r40 r41 r42 n m (rs r2 r3 r6 r8 r22 r23 r24 n m j) f t)
theorem rs_S {r2 r3 r6 r8 r22 r23 r24 : Nat → Int32} {n m j : Nat} {f t : Int32} {r21 r38 r39 r40 r41 r42 : Nat → Int32} : rs r2 r3 r6 r8 r22 r23 r24 n m (j + 1) f t r21 r38 r39 r40 r41 r42 = (rrs1_21 r2 r3 r6 r8 r21 r22 r23 r24 r38 r39 r40 r41 r42 n m (rs r2 r3 r6 r8 r22 r23 r24 n m j) f t, rrs1_38 r2 r3 r6 r8 r21 r22 r23 r24 r38 r39 r40 r41 r42 n m (rs r2 r3 r6 r8 r22 r23 r24 n m j) f t, rrs1_39 r2 r3 r6 r8 r21 r22 r23 r24 r38 r39 r40 r41 r42 n m (rs r2 r3 r6 r8 r22 r23 r24 n m j) f t, rrs1_40 r2 r3 r6 r8 r21 r22 r23 r24 r38 r39 r40 r41 r42 n m (rs r2 r3 r6 r8 r22 r23 r24 n m j) f t, rrs1_41 r2 r3 r6 r8 r21 r22 r23 r24 r38 r39 r40 r41 r42 n m (rs r2 r3 r6 r8 r22 r23 r24 n m j) f t, rrs1_42 r2 r3 r6 r8 r21 r22 r23 r24 r38 r39 r40 r41 r42 n m (rs r2 r3 r6 r8 r22 r23 r24 n m j) f t) := by rw [rs]
theorem wv_le {n k j : Nat} {r : Nat → Int32} (h : wv n k r) (hj : j ≤ k) : wv n j r := by
  obtain ⟨h1, h2, b, h3, h4, h5⟩ := h
  exact ⟨h1, h2, b, h3, by omega, h5⟩
theorem rs_wv {r2 r3 r6 r8 r22 r23 r24 : Nat → Int32} {n m : Nat} : ∀ (j : Nat) (f t : Int32) (r21 r38 r39 r40 r41 r42 : Nat → Int32) (k : Nat), wv n k r21 → wv n k (rs r2 r3 r6 r8 r22 r23 r24 n m j f t r21 r38 r39 r40 r41 r42).1
  | 0, f, t, r21, r38, r39, r40, r41, r42, k, h => h
  | j + 1, f, t, r21, r38, r39, r40, r41, r42, k, h => by
    have hK := rs_wv (r2 := r2) (r3 := r3) (r6 := r6) (r8 := r8) (r22 := r22) (r23 := r23) (r24 := r24) (n := n) (m := m) j
    rw [rs_S]
    dsimp only
    unfold rrs1_21
    generalize rs r2 r3 r6 r8 r22 r23 r24 n m j = K at hK
    generalize (201 : Nat) = N
    have h1 := jj_fx_inv (P := fun (x : Int32 × (Nat → Int32) × (Nat → Int32) × (Nat → Int32) × (Nat → Int32) × (Nat → Int32) × (Nat → Int32)) => wv n k x.2.1) (R := fun (x : Int32 × (Nat → Int32) × (Nat → Int32) × (Nat → Int32) × (Nat → Int32) × (Nat → Int32) × (Nat → Int32)) => wv n k x.2.1) (F := frs1_1 r2 r3 r6 r8 r22 r23 r24 n m K t) (a := (f, r21, r38, r39, r40, r41, r42)) h (fun i x hx => ?_) N
    · generalize jj_fx (frs1_1 r2 r3 r6 r8 r22 r23 r24 n m K t) N (f, r21, r38, r39, r40, r41, r42) = z at h1 ⊢
      rcases z with z | z <;> exact h1
    · unfold frs1_1
      split
      · exact hx
      · split
        · exact hx
        · split
          · exact hx
          · rename_i c3
            have hu : wv n k (upd x.2.1 7 (x.2.1 7 + 1)) := wv_le (wv_up hx c3) (by omega)
            split
            · have h2 := jj_fx_inv (P := fun (y : (Nat → Int32) × (Nat → Int32) × (Nat → Int32) × (Nat → Int32) × (Nat → Int32) × (Nat → Int32)) => wv n k y.1) (R := fun (y : (Nat → Int32) × (Nat → Int32) × (Nat → Int32) × (Nat → Int32) × (Nat → Int32) × (Nat → Int32)) => wv n k y.1) (F := frs1_2 r24 K x) (a := (upd x.2.1 7 (x.2.1 7 + 1), x.2.2.1, x.2.2.2.1, x.2.2.2.2.1, x.2.2.2.2.2.1, x.2.2.2.2.2.2)) hu (fun i y hy => ?_) (r23 x.1.toNatClampNeg).toNatClampNeg
              · generalize jj_fx (frs1_2 r24 K x) (r23 x.1.toNatClampNeg).toNatClampNeg (upd x.2.1 7 (x.2.1 7 + 1), x.2.2.1, x.2.2.2.1, x.2.2.2.2.1, x.2.2.2.2.2.1, x.2.2.2.2.2.2) = z at h2 ⊢
                rcases z with z | z <;> exact h2
              · unfold frs1_2
                split
                · exact hy
                · exact hK _ _ _ _ _ _ _ _ _ hy
            · exact wv_cnt hu
theorem sp_rs {n m z : Nat} (hn : n ≤ 8) (hm2 : m ≤ 150) (hz : z ≤ 38) : ∀ (j : Nat) {O d kc ks : Nat} {h : Nat → Nat → Int32} {g : Nat → Nat → Int64} {Q : jj_Rs → jj_St → Prop} {f t : Int32}, O + j = 7 → h 7 1 = nI m → (∃ p : Nat, f = nI p ∧ p ≤ 38) → (∃ e : Nat, t = nI e ∧ e ≤ z) → wv n 0 (h 21) → pgok z (h 22) (h 23) (h 24) → (∀ h9, jj_eq [10, 11] h h9 → Q (.inl none) (jj_S, 782, jj_rs h9 [(21, (rs (h 2) (h 3) (h 6) (h 8) (h 22) (h 23) (h 24) n m j f t (h 21) (h 38) (h 39) (h 40) (h 41) (h 42)).1), (38, (rs (h 2) (h 3) (h 6) (h 8) (h 22) (h 23) (h 24) n m j f t (h 21) (h 38) (h 39) (h 40) (h 41) (h 42)).2.1), (39, (rs (h 2) (h 3) (h 6) (h 8) (h 22) (h 23) (h 24) n m j f t (h 21) (h 38) (h 39) (h 40) (h 41) (h 42)).2.2.1), (40, (rs (h 2) (h 3) (h 6) (h 8) (h 22) (h 23) (h 24) n m j f t (h 21) (h 38) (h 39) (h 40) (h 41) (h 42)).2.2.2.1), (41, (rs (h 2) (h 3) (h 6) (h 8) (h 22) (h 23) (h 24) n m j f t (h 21) (h 38) (h 39) (h 40) (h 41) (h 42)).2.2.2.2.1), (42, (rs (h 2) (h 3) (h 6) (h 8) (h 22) (h 23) (h 24) n m j f t (h 21) (h 38) (h 39) (h 40) (h 41) (h 42)).2.2.2.2.2)], g)) → jj_R mX8_runSteps (d + j + 8) kc ks (jj_S, 782, h, g) 0 [(0, .ref 21), (1, .int f), (2, .int t), (3, .int (nI O))] [] Q
  | 0, O, d, kc, ks, h, g, Q, f, t, e, hm, hf, ht, hv, hpg, kq => by
    obtain rfl : O = 7 := e
    refine rr_iload_n 3 rfl rfl dX8_runSteps_0 ?_
    refine rr_bipush 6 rfl dX8_runSteps_1 ?_
    refine rr_icmp_gt dX8_runSteps_3 (fun _ => ?_) (fun c => absurd (by decide) c)
    refine rr_return dX8_runSteps_13 rfl ?_
    have k9 := kq h jj_eq.rf
    refine jj_Qh ?_ k9
    funext o
    unfold jj_rs
    by_cases c21 : o = 21
    · subst c21; rfl
    by_cases c38 : o = 38
    · subst c38; rfl
    by_cases c39 : o = 39
    · subst c39; rfl
    by_cases c40 : o = 40
    · subst c40; rfl
    by_cases c41 : o = 41
    · subst c41; rfl
    by_cases c42 : o = 42
    · subst c42; rfl
    have n1 : (o == 21) = false := by rw [beq_eq_false_iff_ne]; exact c21
    have n2 : (o == 38) = false := by rw [beq_eq_false_iff_ne]; exact c38
    have n3 : (o == 39) = false := by rw [beq_eq_false_iff_ne]; exact c39
    have n4 : (o == 40) = false := by rw [beq_eq_false_iff_ne]; exact c40
    have n5 : (o == 41) = false := by rw [beq_eq_false_iff_ne]; exact c41
    have n6 : (o == 42) = false := by rw [beq_eq_false_iff_ne]; exact c42
    simp only [List.lookup, n1, n2, n3, n4, n5, n6]
  | j + 1, O, d, kc, ks, h, g, Q, f, t, e, hm, hf, ht, hv, hpg, kq => by
    have e2 : d + (j + 1) + 8 = d + j + 9 := by omega
    rw [e2]
    simp only [rs_S] at kq
    refine sp_rs1 (d := d + j) (K := rs (h 2) (h 3) (h 6) (h 8) (h 22) (h 23) (h 24) n m j) hn hm hm2 hf ht hz (by omega) hv hpg (fun _ _ _ _ _ _ _ _ _ hw => rs_wv _ _ _ _ _ _ _ _ _ _ hw) (fun {kc ks h2 g Q f2 t2} hg hf2 ht2 kq2 => ?_) kq
    obtain ⟨g1, g2, g3, g4, g5, g6, g7, g8, g9⟩ := hg
    refine sp_rs hn hm2 hz j (by omega) (by rw [g4]; exact hm) hf2 ht2 g9 (by rw [g6, g7, g8]; exact hpg) ?_
    rw [g1, g2, g3, g5, g6, g7, g8]
    exact kq2
