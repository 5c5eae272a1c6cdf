/-! ===== look ===== -/
/-- how many of the pairs (a, b) are right and have the day v; up to (k1, k2) -/
def lkC (Rt : Nat → Nat → Bool) (d : Nat → Nat → Nat) (v : Nat) (n : Nat) (k1 : Nat) : Nat := jj_fo (fun a s => jj_fo (fun b s => if Rt a b = true ∧ d a b = v then s + 1 else s) n s) k1 0
theorem lkC_le {Rt : Nat → Nat → Bool} {d : Nat → Nat → Nat} {v n : Nat} (k1 : Nat) : lkC Rt d v n k1 ≤ k1 * n :=
  fo_inv (P := fun k s => s ≤ k * n) k1 0 (by rw [Nat.zero_mul]; exact Nat.le_refl _) (fun k s _ ih => by
    have := fo_inv (P := fun j (x : Nat) => x ≤ k * n + j) (f := fun b s => if Rt k b = true ∧ d k b = v then s + 1 else s) n s (by omega) (fun j x _ hx => by
      split <;> omega)
    rw [Nat.add_mul, Nat.one_mul]
    exact this)
section
variable {r28 r29 r39 : Nat → Int32} {Rt : Nat → Nat → Bool} {d : Nat → Nat → Nat} {n p : Nat}
theorem left_is (hn : n ≤ 8) (hp : p < 8) (h8 : ∀ x y, x < n → y < n → r28 (x * 8 + y) = if Rt x y = true then 1 else 0) (h9 : ∀ x y, x < n → y < n → vX0_dayBehind r29 r39 (nI (x * 8 + y)) (nI p) = nI (d x y)) (hd : ∀ x y, d x y < 1000) {v : Nat} (hv : v < 1000) : vX0_left r28 r29 r39 n (nI p) (nI v) = nI (lkC Rt d v n n) :=
  fo_rel (R := fun _ (a : Int32) c => a = nI c) n 0 0 rfl (fun k1 a c hk1 e => fo_rel (R := fun _ (a : Int32) c => a = nI c) n a c e (fun k2 a c hk2 e => by
    unfold fX0_left_2
    rw [nI_clamp (show k1 * 8 + k2 < 2 ^ 31 by omega), h8 k1 k2 hk1 hk2, h9 k1 k2 hk1 hk2, e]
    have hd2 := hd k1 k2
    by_cases q : Rt k1 k2 = true
    · rw [if_pos q, if_neg one0]
      by_cases z : d k1 k2 = v
      · rw [if_pos (by rw [z]), if_pos ⟨q, z⟩, nI_1]
      · rw [if_neg (fun y => z ((nI_eq (by omega) (by omega)).mp y)), if_neg (fun y => z y.2), Int32.add_zero]
    · rw [if_neg q, if_pos rfl, if_neg (fun y => q y.1), Int32.add_zero]))
/-- the greatest of them over some days -/
theorem most_is {r38 : Nat → Int32} (hn : n ≤ 8) {T : Nat} {dy : Nat → Nat} (hT : T < 1000) (hy : ∀ k, k < n → r39 k = nI (dy k) ∧ dy k < 1000) (h0 : r38 0 = nI T) (hl : ∀ v, v < 1000 → vX0_left r28 r29 r39 n (nI p) (nI v) = nI (lkC Rt d v n n)) : ∃ w, vX0_mostLeft r28 r29 r38 r39 n (nI p) = nI w ∧ w ≤ 64 ∧ lkC Rt d T n n ≤ w ∧ (∀ k, k < n → lkC Rt d (dy k) n n ≤ w) ∧ (∃ v, lkC Rt d v n n = w) := by
  have lim : ∀ v, lkC Rt d v n n ≤ 64 := fun v => Nat.le_trans (lkC_le n) (Nat.le_trans (Nat.mul_le_mul hn hn) (by decide))
  have key := fo_inv (P := fun k (a : Int32) => ∃ w, a = nI w ∧ w ≤ 64 ∧ lkC Rt d T n n ≤ w ∧ (∀ j, j < k → lkC Rt d (dy j) n n ≤ w) ∧ (∃ v, lkC Rt d v n n = w)) (f := fX0_mostLeft_1 r28 r29 r39 n (nI p)) n (vX0_left r28 r29 r39 n (nI p) (r38 0)) (by
    rw [h0, hl T hT]
    exact ⟨_, rfl, lim T, Nat.le_refl _, fun j hj => absurd hj (Nat.not_lt_zero j), T, rfl⟩) (fun k a hk ih => by
    obtain ⟨w, rfl, w1, w2, w3, w4⟩ := ih
    unfold fX0_mostLeft_1
    rw [(hy k hk).1, hl _ (hy k hk).2]
    have l := lim (dy k)
    by_cases c : w < lkC Rt d (dy k) n n
    · rw [if_pos (nI_lt c (by omega))]
      refine ⟨_, rfl, l, by omega, fun j hj => ?_, dy k, rfl⟩
      by_cases e : j = k
      · rw [e]; exact Nat.le_refl _
      · have := w3 j (by omega); omega
    · rw [if_neg (nI_nlt (by omega) (by omega))]
      refine ⟨w, rfl, w1, w2, fun j hj => ?_, w4⟩
      by_cases e : j = k
      · rw [e]; omega
      · exact w3 j (by omega))
  exact key
end
/-- the reference counts as it goes -/
def lkR (Rt : Nat → Nat → Bool) (d : Nat → Nat → Nat) (c : Nat → Nat) (a : Int32 × (Nat → Int32) × (Nat → Int32)) : Prop := (∀ v, v < 1000 → a.2.2 v = nI (c v)) ∧ (∀ v, c v ≤ 64) ∧ ∃ w, a.1 = nI w ∧ (∀ v, c v ≤ w) ∧ (w = 0 ∨ ∃ v, c v = w)
theorem lk_up {Rt : Nat → Nat → Bool} {d : Nat → Nat → Nat} {c c2 : Nat → Nat} {a : Int32 × (Nat → Int32) × (Nat → Int32)} {z : Nat → Int32} {x : Nat} (h : lkR Rt d c a) (hx : x < 1000) (hc : ∀ v, c2 v = if v = x then c v + 1 else c v) (hl : ∀ v, c2 v ≤ 64) : lkR Rt d c2 (vX10_more a.1 (upd a.2.2 x (a.2.2 x + 1) x), z, upd a.2.2 x (a.2.2 x + 1)) := by
  obtain ⟨h1, h2, w, h3, h4, h5⟩ := h
  have hcx : c2 x = c x + 1 := by rw [hc, if_pos rfl]
  refine ⟨fun v hv => ?_, hl, ?_⟩
  · show upd a.2.2 x (a.2.2 x + 1) v = _
    by_cases e : v = x
    · rw [jj_ueq e, h1 x hx, nI_1, e, hcx]
    · rw [jj_une e, h1 v hv, hc, if_neg e]
  · show ∃ w, vX10_more a.1 (upd a.2.2 x (a.2.2 x + 1) x) = nI w ∧ _
    rw [jj_ueq rfl, h1 x hx, nI_1, h3]
    unfold vX10_more
    have l := hl x
    have hw : w ≤ 64 := by
      rcases h5 with e | ⟨v, e⟩
      · omega
      · have := h2 v; omega
    by_cases q : w ≤ c x + 1
    · rw [if_pos (nI_le q (by omega))]
      refine ⟨c x + 1, rfl, fun v => ?_, Or.inr ⟨x, hcx⟩⟩
      rw [hc]
      by_cases e : v = x
      · rw [if_pos e, e]; omega
      · rw [if_neg e]; have := h4 v; omega
    · rw [if_neg (nI_ge (by omega) (by omega))]
      refine ⟨w, rfl, fun v => ?_, ?_⟩
      · rw [hc]
        by_cases e : v = x
        · rw [if_pos e, e]; omega
        · rw [if_neg e]; exact h4 v
      · rcases h5 with e | ⟨v, e⟩
        · exact Or.inl e
        · right
          refine ⟨v, ?_⟩
          have nx : ¬ v = x := fun y => by rw [y] at e; omega
          rw [hc, if_neg nx, e]
section
variable {r2 r3 r4 r5 r6 r8 r38 r39 r40 r41 r42 r73 r r498 r779 : Nat → Int32} {g64 g397 : Nat → Nat → Int32} {n m B p : Nat} {L : bL_}
theorem worst_is (h : nr r38 r39 r40 r41 r42 r) (hk : nok B r38 r39 r40 r42) (hs : srl n r2 r3 r4 r5 r6 r73 g64) (hn : n ≤ 8) (hL : bok n L) (hg : ∀ i z, L[i]? = some z → g397 i 0 = nI z.1 ∧ g397 i 1 = nI z.2) (hp : p < 8) {d : Nat → Nat → Nat} (hd : ∀ x y, d x y < 1000) (hD : ∀ x y, x < n → y < n → dD r2 r3 r6 r8 r38 r39 r40 r41 m x y p = nI (d x y)) : ∃ w, vX10_worstAt r8 r73 r r498 r779 g64 g397 n m L.length (nI p) = nI w ∧ (∀ v, lkC (fun x y => dRb (dD r2 r3 r6 r8 r38 r39 r40 r41 m x y) L) d v n n ≤ w) ∧ (w = 0 ∨ ∃ v, lkC (fun x y => dRb (dD r2 r3 r6 r8 r38 r39 r40 r41 m x y) L) d v n n = w) := by
  obtain ⟨Rt, hRt⟩ : ∃ Rt : Nat → Nat → Bool, Rt = fun x y => dRb (dD r2 r3 r6 r8 r38 r39 r40 r41 m x y) L := ⟨_, rfl⟩
  rw [← hRt]
  have z0 : ∀ v, v < 1000 → jj_fo fX10_worstAt_1 1000 r779 v = 0 := by
    have := fo_inv (P := fun k (x : Nat → Int32) => ∀ v, v < k → x v = 0) (f := fX10_worstAt_1) 1000 r779 (fun v hv => absurd hv (Nat.not_lt_zero v)) (fun k x _ hx v hv => by
      unfold fX10_worstAt_1
      by_cases e : v = k
      · rw [jj_ueq e]
      · rw [jj_une e]; exact hx v (by omega))
    exact this
  have lim : ∀ k1, k1 ≤ n → ∀ v, lkC Rt d v n k1 ≤ k1 * n := fun k1 _ v => lkC_le k1
  have key := fo_inv (P := fun k1 (a : Int32 × (Nat → Int32) × (Nat → Int32)) => k1 ≤ n → lkR Rt d (fun v => lkC Rt d v n k1) a) (f := fX10_worstAt_2 r8 r73 r g64 g397 n m L.length (nI p)) n (0, r498, jj_fo fX10_worstAt_1 1000 r779) (fun _ => ⟨z0, fun v => by show 0 ≤ 64; decide, 0, rfl, fun v => by show 0 ≤ 0; decide, Or.inl rfl⟩) (fun k1 a hk1 ih _ => by
    have inner := fo_inv (P := fun k2 (a : Int32 × (Nat → Int32) × (Nat → Int32)) => k2 ≤ n → lkR Rt d (fun v => jj_fo (fun b s => if Rt k1 b = true ∧ d k1 b = v then s + 1 else s) k2 (lkC Rt d v n k1)) a) (f := fX10_worstAt_3 r8 r73 r g64 g397 m L.length (nI p) k1) n (a.1, a.2.1, a.2.2) (fun _ => ih (by omega)) (fun k2 a hk2 ih _ => by
      have ih := ih (by omega)
      unfold fX10_worstAt_3
      rw [so_is h hk hs hn hk1 hk2 hL hg]
      have er : dRb (dD r2 r3 r6 r8 r38 r39 r40 r41 m k1 k2) L = Rt k1 k2 := by rw [hRt]
      rw [er]
      have ed : rX10_isSo_498 r8 r73 r a.2.1 g64 g397 m L.length (nI k1) (nI k2) ((0 : Int32) + nI p).toNatClampNeg = nI (d k1 k2) := by
        rw [c0_ hp, ← hD k1 k2 hk1 hk2]
        exact so_dD h hk hs hn hk1 hk2 hp
      rw [ed, nI_clamp (by have := hd k1 k2; omega)]
      by_cases q : Rt k1 k2 = true
      · rw [if_pos q, if_neg one0]
        have eq : ∀ v, jj_fo (fun b s => if Rt k1 b = true ∧ d k1 b = v then s + 1 else s) (k2 + 1) (lkC Rt d v n k1) = if v = d k1 k2 then jj_fo (fun b s => if Rt k1 b = true ∧ d k1 b = v then s + 1 else s) k2 (lkC Rt d v n k1) + 1 else jj_fo (fun b s => if Rt k1 b = true ∧ d k1 b = v then s + 1 else s) k2 (lkC Rt d v n k1) := fun v => by
          show (if Rt k1 k2 = true ∧ d k1 k2 = v then _ else _) = _
          by_cases e : v = d k1 k2
          · rw [if_pos ⟨q, e.symm⟩, if_pos e]
          · rw [if_neg (fun y => e y.2.symm), if_neg e]
        refine lk_up ih (hd k1 k2) eq (fun v => ?_)
        have l1 : jj_fo (fun b s => if Rt k1 b = true ∧ d k1 b = v then s + 1 else s) (k2 + 1) (lkC Rt d v n k1) ≤ k1 * n + (k2 + 1) := fo_inv (P := fun j (x : Nat) => x ≤ k1 * n + j) (k2 + 1) _ (by have := lkC_le (Rt := Rt) (d := d) (v := v) (n := n) k1; omega) (fun j x _ hx => by split <;> omega)
        have l2 : k1 * n + n ≤ 8 * n := by rw [← Nat.succ_mul]; exact Nat.mul_le_mul_right n (by omega)
        omega
      · rw [if_neg q, if_pos rfl]
        have eq : ∀ v, jj_fo (fun b s => if Rt k1 b = true ∧ d k1 b = v then s + 1 else s) (k2 + 1) (lkC Rt d v n k1) = jj_fo (fun b s => if Rt k1 b = true ∧ d k1 b = v then s + 1 else s) k2 (lkC Rt d v n k1) := fun v => by
          show (if Rt k1 k2 = true ∧ d k1 k2 = v then _ else _) = _
          rw [if_neg (fun y => q y.1)]
        obtain ⟨i1, i2, w, i3, i4, i5⟩ := ih
        refine ⟨fun v hv => ?_, fun v => ?_, w, i3, fun v => ?_, i5.imp_right (fun ⟨v, e⟩ => ⟨v, ?_⟩)⟩
        · exact (i1 v hv).trans (congrArg nI (eq v).symm)
        · exact Nat.le_trans (Nat.le_of_eq (eq v)) (i2 v)
        · exact Nat.le_trans (Nat.le_of_eq (eq v)) (i4 v)
        · exact (eq v).trans e)
    have inner := inner (Nat.le_refl _)
    unfold fX10_worstAt_2
    exact inner)
  obtain ⟨_, _, w, k3, k4, k5⟩ := key (Nat.le_refl _)
  exact ⟨w, k3, k4, k5⟩
theorem told_is (hL : bok n L) (hg : ∀ i z, L[i]? = some z → g397 i 0 = nI z.1 ∧ g397 i 1 = nI z.2) (hp : p < 8) (hn : n ≤ 8) : vX10_isTold g397 L.length (nI p) = if (L.lookup p).isSome = true then 1 else 0 := by
  have hF : ∀ k, k < L.length → fX10_isTold_1 g397 (nI p) k () = if ¬ g397 k 0 = nI p then .inl () else .inr 1 := fun k hk => by
    unfold fX10_isTold_1
    by_cases c : g397 k 0 = nI p
    · rw [if_pos c, if_neg (fun q => q c)]
    · rw [if_neg c, if_pos c]
  unfold vX10_isTold
  by_cases q : (L.lookup p).isSome = true
  · obtain ⟨v, hv⟩ := Option.isSome_iff_exists.mp q
    obtain ⟨i, hi⟩ := lk_ex hv
    rw [if_pos q, all_0 (c := 1) (k := i) (P := fun k => ¬ g397 k 0 = nI p) (fun z => z (hg i _ hi).1) L.length (fun k hk => hF k hk) (List.getElem?_eq_some_iff.mp hi).1]
    rfl
  · rw [if_neg q, all_1 (c := 1) (P := fun k => ¬ g397 k 0 = nI p) L.length (fun k hk => hF k hk) (fun k hk e => by
      have hz : L[k]? = some L[k] := List.getElem?_eq_getElem hk
      have lk := hL.2.2 k _ hz
      have b1 := (hL.1 _ _ lk).1
      rw [(hg k _ hz).1, nI_eq (by omega) (by omega)] at e
      rw [e] at lk
      rw [lk] at q
      exact q rfl)]
    rfl
/-- what knowing the day of p leaves at the worst, in both -/
theorem look_p (h : nr r38 r39 r40 r41 r42 r) (hk : nok 900 r38 r39 r40 r42) (hs : srl n r2 r3 r4 r5 r6 r73 g64) (hn : n ≤ 8) (hL : bok n L) (hg : ∀ i z, L[i]? = some z → g397 i 0 = nI z.1 ∧ g397 i 1 = nI z.2) {r28 r29 : Nat → Int32} (hw : ∀ x y, x < n → y < n → r28 (x * 8 + y) = (if dRb (dD r2 r3 r6 r8 r38 r39 r40 r41 m x y) L = true then 1 else 0) ∧ r29 (x * 8 + y) = dD r2 r3 r6 r8 r38 r39 r40 r41 m x y y) (hp : p < n) : ∃ w, w ≤ 64 ∧ vX0_mostLeft r28 r29 r38 r39 n (nI p) = nI w ∧ vX10_worstAt r8 r73 r r498 r779 g64 g397 n m L.length (nI p) = nI w := by
  obtain ⟨T, hT, hT9, hdy⟩ := hk.1
  have hdy2 : ∃ dy : Nat → Nat, ∀ k, dy k < 1000 ∧ (k < 8 → r39 k = nI (dy k) ∧ dy k ≤ T) := by
    refine ⟨fun k => if k < 8 then (r39 k).toNatClampNeg else 0, fun k => ?_⟩
    by_cases l : k < 8
    · obtain ⟨D, e, le⟩ := hdy k l
      simp only [if_pos l]
      rw [e, nI_clamp (by omega)]
      exact ⟨by omega, fun _ => ⟨rfl, le⟩⟩
    · simp only [if_neg l]
      exact ⟨by decide, fun z => absurd z l⟩
  obtain ⟨dy, hdy3⟩ := hdy2
  have inSet : ∀ x y, x < n → y < n → ∃ e, dD r2 r3 r6 r8 r38 r39 r40 r41 m x y p = nI e ∧ (e = T ∨ ∃ k, k < n ∧ e = dy k) := fun x y hx hy => by
    unfold dD
    by_cases c : p = y
    · rw [if_pos c]
      split
      · exact ⟨dy y, ((hdy3 y).2 (by omega)).1, Or.inr ⟨y, hy, rfl⟩⟩
      · unfold vX3_dayBy_n
        rw [cl_ (show x < 8 by omega)]
        split
        · exact ⟨T, hT, Or.inl rfl⟩
        · exact ⟨dy x, ((hdy3 x).2 (by omega)).1, Or.inr ⟨x, hx, rfl⟩⟩
    · rw [if_neg c]
      exact ⟨dy p, ((hdy3 p).2 (by omega)).1, Or.inr ⟨p, hp, rfl⟩⟩
  obtain ⟨d, hd⟩ : ∃ d : Nat → Nat → Nat, ∀ x y, d x y < 1000 ∧ (x < n → y < n → dD r2 r3 r6 r8 r38 r39 r40 r41 m x y p = nI (d x y) ∧ (d x y = T ∨ ∃ k, k < n ∧ d x y = dy k)) := by
    refine ⟨fun x y => if x < n ∧ y < n then (dD r2 r3 r6 r8 r38 r39 r40 r41 m x y p).toNatClampNeg else 0, fun x y => ?_⟩
    by_cases l : x < n ∧ y < n
    · obtain ⟨e, e1, e2⟩ := inSet x y l.1 l.2
      have le : e < 1000 := by
        rcases e2 with e2 | ⟨k, _, e2⟩
        · omega
        · have := (hdy3 k).1; omega
      simp only [if_pos l]
      rw [e1, nI_clamp (by omega)]
      exact ⟨le, fun _ _ => ⟨rfl, e2⟩⟩
    · simp only [if_neg l]
      exact ⟨by decide, fun a b => absurd ⟨a, b⟩ l⟩
  have h9 : ∀ x y, x < n → y < n → vX0_dayBehind r29 r39 (nI (x * 8 + y)) (nI p) = nI (d x y) := fun x y hx hy => by
    rw [← ((hd x y).2 hx hy).1]
    unfold vX0_dayBehind
    rw [show (nI (x * 8 + y) - nI (x * 8 + y) / 8 * 8 : Int32) = nI ((x * 8 + y) % 8) from pk_rem (d := 8) (by omega) (by decide) (by decide), show (x * 8 + y) % 8 = y by omega, cl_ (show p < 8 by omega), nI_clamp (by omega)]
    by_cases e : y = p
    · rw [if_pos (by rw [e]), (hw x y hx hy).2, e]
    · rw [if_neg (fun q => e ((nI_eq (by omega) (by omega)).mp q))]
      unfold dD
      rw [if_neg (fun q => e q.symm)]
  obtain ⟨w1, a1, a2, a3, a4, a5⟩ := most_is (r38 := r38) (p := p) (Rt := fun x y => dRb (dD r2 r3 r6 r8 r38 r39 r40 r41 m x y) L) (d := d) hn (T := T) (dy := dy) (by omega) (fun k hk2 => ⟨((hdy3 k).2 (by omega)).1, (hdy3 k).1⟩) hT (fun v hv => left_is hn (by omega) (fun x y hx hy => (hw x y hx hy).1) h9 (fun x y => (hd x y).1) hv)
  obtain ⟨w2, b1, b2, b3⟩ := worst_is (r498 := r498) (r779 := r779) (m := m) (r8 := r8) h hk hs hn hL hg (show p < 8 by omega) (d := d) (fun x y => (hd x y).1) (fun x y hx hy => ((hd x y).2 hx hy).1)
  have e : w2 = w1 := by
    apply Nat.le_antisymm
    · rcases b3 with b3 | ⟨v, b3⟩
      · omega
      · rcases Nat.eq_zero_or_pos w2 with z | z
        · omega
        · have occ : ∃ x y, x < n ∧ y < n ∧ d x y = v := by
            apply Classical.byContradiction
            intro no
            have : lkC (fun x y => dRb (dD r2 r3 r6 r8 r38 r39 r40 r41 m x y) L) d v n n = 0 := fo_inv (P := fun _ (s : Nat) => s = 0) n 0 rfl (fun x s hx es => fo_inv (P := fun _ (s : Nat) => s = 0) n s es (fun y s hy es => by
              rw [if_neg (fun q => no ⟨x, y, hx, hy, q.2⟩), es]))
            omega
          obtain ⟨x, y, hx, hy, ev⟩ := occ
          rcases ((hd x y).2 hx hy).2 with e | ⟨k, hk2, e⟩
          · rw [← b3, ← ev, e]; exact a3
          · rw [← b3, ← ev, e]; exact a4 k hk2
    · obtain ⟨v, a5⟩ := a5
      rw [← a5]; exact b2 v
  exact ⟨w1, a2, a1, by rw [b1, e]⟩
end
theorem q_look {c : Nat → Nat} {T n m u t : Nat} {L : bL_} {h : hp_} (I : IV c T n m u t L h) (w : Int32) : res 1 (vX9_look (h 0) (h 2) (h 3) (h 6) (h 8) (h 25) (h 26) (h 28) (h 29) (h 38) (h 39) (h 40) (h 41) n m w) (h 0) (rX9_look_0 (h 0) (h 2) (h 3) (h 6) (h 8) (h 25) (h 26) (h 28) (h 29) (h 38) (h 39) (h 40) (h 41) n m w) ((rX10_look_49 (h 8) (h 49) (h 51) (h 73) (h 497) (h 498) (h 779) (jj_gd h 64 8) (jj_gd h 397 8) n m L.length w) 0) (.int (vX10_look (h 8) (h 49) (h 51) (h 73) (h 497) (h 498) (h 779) (jj_gd h 64 8) (jj_gd h 397 8) n m L.length w)) (h 51) (rX10_look_51 (h 8) (h 49) (h 51) (h 73) (h 497) (h 498) (h 779) (jj_gd h 64 8) (jj_gd h 397 8) n m L.length w) ∧ rX9_look_25 (h 0) (h 2) (h 3) (h 6) (h 8) (h 25) (h 26) (h 28) (h 29) (h 38) (h 39) (h 40) (h 41) n m w 2 = h 25 2 := by
  have hn := iv_8 I
  have E := wg_all (m := m) (r8 := h 8) (r28 := h 28) (r29 := h 29) (r498 := h 498) (iv_n I) (iv_k I) (iv_s I) hn I.2.2.2.2.2.1.2.2.1 (iv_g I) I.2.2.2.2.2.1.1 I.2.2.2.2.2.1.2.2.2.1
  have E1 : (rX0_weigh_25 (h 2) (h 3) (h 6) (h 8) (h 25) (h 26) (h 28) (h 29) (h 38) (h 39) (h 40) (h 41) n m) 2 = h 25 2 := E.1 2 (by decide) (by decide)
  have E2 : ∀ x y, x < n → y < n → (rX0_weigh_28 (h 2) (h 3) (h 6) (h 8) (h 25) (h 26) (h 28) (h 29) (h 38) (h 39) (h 40) (h 41) n m) (x * 8 + y) = (if dRb (dD (h 2) (h 3) (h 6) (h 8) (h 38) (h 39) (h 40) (h 41) m x y) L = true then 1 else 0) ∧ (rX0_weigh_29 (h 2) (h 3) (h 6) (h 8) (h 25) (h 26) (h 28) (h 29) (h 38) (h 39) (h 40) (h 41) n m) (x * 8 + y) = dD (h 2) (h 3) (h 6) (h 8) (h 38) (h 39) (h 40) (h 41) m x y y := fun x y hx hy => E.2.1 x y hx hy (Or.inl hx)
  clear E
  constructor
  · have F := fo_rel (R := fun _ (a : Int32 × Int32) (b : Int32 × Int32 × (Nat → Int32) × (Nat → Int32)) => a.1 = b.1 ∧ a.2 = b.2.1) (f := fX9_look_1 (h 2) (h 3) (h 6) (h 8) (h 25) (h 26) (h 28) (h 29) (h 38) (h 39) (h 40) (h 41) n m) (g := fX10_look_1 (h 8) (h 73) (h 497) (jj_gd h 64 8) (jj_gd h 397 8) n m L.length) n ((-1), (-1)) ((-1), (-1), h 498, h 779) ⟨rfl, rfl⟩ (fun k a b hk2 ih => by
      obtain ⟨w0, wl, e1, e2⟩ := look_p (m := m) (r8 := h 8) (r498 := b.2.2.1) (r779 := b.2.2.2) (iv_n I) (iv_k I) (iv_s I) hn I.2.2.2.2.2.1.2.2.1 (iv_g I) E2 hk2
      unfold fX9_look_1 fX10_look_1
      rw [line_is (E1.trans I.2.2.2.2.2.1.1) I.2.2.2.2.2.1.2.2.1 I.2.2.2.2.2.1.2.2.2.1 (show k < 8 by omega), told_is I.2.2.2.2.2.1.2.2.1 (iv_g I) (show k < 8 by omega) hn, e1, e2]
      by_cases q : (L.lookup k).isSome = true
      · simp only [if_pos q, if_neg one0]; exact ih
      · simp only [if_neg q, if_true, if_neg (nI_ne1 (show w0 < 2 ^ 31 by omega))]
        rw [ih.1, ih.2, le_if]
        by_cases z : b.1 = -1
        · simp only [if_pos z]; exact ⟨trivial, trivial⟩
        · simp only [if_neg z]
          by_cases y : nI w0 < b.2.1
          · simp only [if_pos y]; exact ⟨trivial, trivial⟩
          · simp only [if_neg y]; exact ⟨trivial, trivial⟩)
    unfold vX9_look rX9_look_0 vX10_look rX10_look_49 rX10_look_51
    simp only [in_if, e_bit]
    refine res_if (fun _ => (Or.inr (Or.inr ⟨rfl, rfl, rfl, rfl⟩))) (fun c1 => ?_)
    refine res_if (fun _ => (Or.inr (Or.inr ⟨rfl, rfl, rfl, rfl⟩))) (fun c2 => ?_)
    refine res_ok ?_ rfl
    refine ok_if (fun _ => F.1) (fun _ => ok_e F.2)
  · unfold rX9_look_25
    split
    · rfl
    · exact E1
