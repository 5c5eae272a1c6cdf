/-! ===== loops that count ===== -/
def jj_fo {α : Type} (f : Nat → α → α) : Nat → α → α
  | 0, a => a
  | n + 1, a => f n (jj_fo f n a)
theorem jj_for {α : Type} (P : Nat → α → Prop) (f : Nat → α → α) (n : Nat) (a : α) (body : ∀ k, k < n → P (k + 1) (f k (jj_fo f k a)) → P k (jj_fo f k a)) (fin : P n (jj_fo f n a)) : P 0 a := by
  have key : ∀ j, j ≤ n → P j (jj_fo f j a) → P 0 a := by
    intro j
    induction j with
    | zero => exact fun _ h => h
    | succ j ih => exact fun hj h => ih (by omega) (body j (by omega) h)
  exact key n (Nat.le_refl _) fin
theorem jj_fo_congr {α : Type} {f g : Nat → α → α} {n : Nat} {a : α} (h : ∀ k, k < n → ∀ x, f k x = g k x) : jj_fo f n a = jj_fo g n a := by
  induction n with
  | zero => rfl
  | succ n ih => rw [jj_fo, jj_fo, ih (fun k hk => h k (by omega)), h n (by omega)]
theorem jj_le_rf (x : Int32) : x ≤ x := Int32.le_refl x
theorem jj_in8 {k n : Nat} (hk : k < n) (hn : n ≤ 8) : vp_in (nI k) 8 := vp_in_nI (by omega) (by decide)
theorem jj_cl8 {k n : Nat} (hk : k < n) (hn : n ≤ 8) : (nI k).toNatClampNeg = k := nI_clamp (by omega)
theorem jj_inL {i : Int32} {n : Nat} (h : decide (0 ≤ i.toInt ∧ i.toInt < n) = true) : vp_in i n := vp_in_iff.mpr (of_decide_eq_true h)
