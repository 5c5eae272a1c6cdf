/-! ===== kneel ===== -/
abbrev k3 : Type := (Nat → Int32) × (Nat → Int32) × (Nat → Int32)
theorem b_not (x : Int32) {i : Nat} (hi : i < 32) : bt (x ^^^ (-1)) i = !bt x i := by
  have e : bt (-1) i = true := by
    have key : ∀ i, i < 32 → bt (-1) i = true := by decide +kernel
    exact key i hi
  have e2 : bt (x ^^^ (-1)) i = (bt x i ^^ bt (-1) i) := by
    unfold bt
    rw [Int32.toBitVec_xor, BitVec.getLsbD_xor]
  rw [e2, e, Bool.xor_true]
theorem fox_rel {α β γ : Type} {R : Nat → α → β → Prop} {f : Nat → α → α} {F : Nat → β → Sum β γ} : ∀ n a b, R 0 a b → (∀ k a b, k < n → R k a b → ∃ b2, F k b = .inl b2 ∧ R (k + 1) (f k a) b2) → ∃ b2, jj_fx F n b = .inl b2 ∧ R n (jj_fo f n a) b2
  | 0, a, b, h, _ => ⟨b, rfl, h⟩
  | n + 1, a, b, h, s => by
    obtain ⟨b2, e, h2⟩ := fox_rel n a b h (fun k a b hk => s k a b (by omega))
    obtain ⟨b3, e3, h3⟩ := s n _ _ (Nat.lt_succ_self n) h2
    refine ⟨b3, ?_, h3⟩
    show Sum.elim (fun b => F n b) (fun r => .inr r) (jj_fx F n b) = _
    rw [e]
    exact e3
/-- what an early end gives is as good as the end -/
def unS (s : Sum k3 k3) : k3 := Sum.elim (fun x => x) (fun x => x) s
theorem un_f {α : Type} (f : k3 → α) (s : Sum k3 k3) : Sum.elim (fun x => f x) (fun x => f x) s = f (unS s) := by cases s <;> rfl
theorem un_inv {P : k3 → Prop} {F : Nat → k3 → Sum k3 k3} : ∀ n b, P b → (∀ k b, k < n → P b → P (unS (F k b))) → P (unS (jj_fx F n b))
  | 0, _, h, _ => h
  | n + 1, b, h, s => by
    have ih := un_inv n b h (fun k b hk => s k b (by omega))
    show P (unS (Sum.elim (fun b => F n b) (fun r => .inr r) (jj_fx F n b)))
    revert ih
    cases jj_fx F n b with
    | inl x => exact fun ih => s n x (Nat.lt_succ_self n) ih
    | inr x => exact fun ih => ih
def kR (q : Nat → Int32) (n P : Nat) (a b : k3) : Prop := a.1 5 = b.1 41 ∧ (a.1 5 = -1 ∨ ((∃ g, g ≤ 8 ∧ a.1 5 = nI g) ∧ a.1 6 = b.1 42 ∧ ∀ p, p < n → a.2.2 p = b.2.2 p)) ∧ (∀ p, p < P → a.2.1 p = b.2.1 p) ∧ ∀ i, ¬ i = 41 → ¬ i = 42 → b.1 i = q i
theorem kR_dn {q : Nat → Int32} {n P : Nat} {a b : k3} (h : kR q n (P + 1) a b) : kR q n P a b := ⟨h.1, h.2.1, fun p hp => h.2.2.1 p (by omega), h.2.2.2⟩
theorem cp8_ {f r : Nat → Int32} {p : Nat} (hp : p < 8) : jj_fo (fgv0_1 f) 8 r p = f p := by
  rcases lt_8 hp with rfl | rfl | rfl | rfl | rfl | rfl | rfl | rfl <;> rfl
theorem kn_0 {q r31 r38 r39 r8 r73 r : Nat → Int32} {g64 : Nat → Nat → Int32} {n m P g : Nat} {a b : k3} {bz w : Int32} (hn : n ≤ 8) (hg : g ≤ n) (h : kR q n n a b) : kR q n n (kn r31 r38 r39 n 0 P bz (nI g) w a.1 a.2.1 a.2.2) (gv r8 r73 r g64 n m 0 P bz (nI g) w b.1 b.2.1 b.2.2) ∧ ¬ (kn r31 r38 r39 n 0 P bz (nI g) w a.1 a.2.1 a.2.2).1 5 = -1 := by
  show kR q n n (rkn0_30 a.1 a.2.1 a.2.2 n (nI g) w, a.2.1, rkn0_33 a.1 a.2.1 a.2.2 n (nI g) w) (rgv0_49 b.1 b.2.1 b.2.2 (nI g) w, b.2.1, rgv0_778 b.1 b.2.1 b.2.2 (nI g) w) ∧ ¬ rkn0_30 a.1 a.2.1 a.2.2 n (nI g) w 5 = -1
  obtain ⟨h1, h2, h3, h4⟩ := h
  have set : kR q n n (upd (upd a.1 5 (nI g)) 6 w, a.2.1, va_cpy a.2.1 a.2.2 (0 : Int32).toNatClampNeg (0 : Int32).toNatClampNeg (8 : Int32).toNatClampNeg) (upd (upd b.1 41 (nI g)) 42 w, b.2.1, jj_fo (fgv0_1 b.2.1) 8 b.2.2) ∧ ¬ upd (upd a.1 5 (nI g)) 6 w 5 = -1 :=
    ⟨⟨rfl, Or.inr ⟨⟨g, by omega, rfl⟩, rfl, fun p hp => (cpy_8 (by omega)).trans ((h3 p hp).trans (cp8_ (by omega)).symm)⟩, h3, fun i i1 i2 => (jj_une i2).trans ((jj_une i1).trans (h4 i i1 i2))⟩, nI_ne1 (v := g) (by omega)⟩
  have ev : (nI g + nI n - nI n : Int32) = nI g := by rw [nI_add, pk_sub (by omega), show g + n - n = g by omega]
  unfold rkn0_30 rkn0_33 rgv0_49 rgv0_778 rX2_keepIfBetter_30 rX2_keepIfBetter_33
  rw [ev, ← h1]
  rcases h2 with M | ⟨⟨g0, l0, M⟩, h5, h6⟩
  · have c1 : (-1 : Int32) < nI g := by
      rw [Int32.lt_iff_toInt_lt, nI_toInt (by omega)]
      have : (-1 : Int32).toInt = -1 := by decide
      omega
    rw [M, if_pos (Int32.le_of_lt c1), if_pos (Int32.le_of_lt c1), if_pos c1, if_pos c1, if_neg (Int32.not_lt.mpr (Int32.le_of_lt c1)), if_neg (Int32.not_lt.mpr (Int32.le_of_lt c1)), if_neg (nI_ne1 (by omega)), if_neg (nI_ne1 (by omega))]
    exact set
  · rw [M]
    have keep : kR q n n (a.1, a.2.1, a.2.2) (b.1, b.2.1, b.2.2) ∧ ¬ a.1 5 = -1 := ⟨⟨h1, Or.inr ⟨⟨g0, l0, M⟩, h5, h6⟩, h3, h4⟩, by rw [M]; exact nI_ne1 (by omega)⟩
    rcases Nat.lt_trichotomy g g0 with l | l | l
    · rw [if_neg (nI_ge l (by omega)), if_neg (nI_ge l (by omega)), if_pos (nI_lt l (by omega)), if_pos (nI_lt l (by omega))]
      exact keep
    · subst l
      rw [if_pos (nI_le (Nat.le_refl g) (by omega)), if_pos (nI_le (Nat.le_refl g) (by omega)), if_neg (nI_nlt (Nat.le_refl g) (by omega)), if_neg (nI_nlt (Nat.le_refl g) (by omega)), if_neg (nI_nlt (Nat.le_refl g) (by omega)), if_neg (nI_nlt (Nat.le_refl g) (by omega)), if_pos rfl, if_pos rfl, if_pos rfl, if_pos rfl, ← h5]
      by_cases c : w ≤ a.1 6
      · rw [if_pos c, if_pos c, if_neg (Int32.not_lt.mpr c), if_neg (Int32.not_lt.mpr c)]
        exact keep
      · rw [if_neg c, if_neg c, if_pos (Int32.not_le.mp c), if_pos (Int32.not_le.mp c)]
        exact set
    · rw [if_pos (nI_le (Nat.le_of_lt l) (by omega)), if_pos (nI_le (Nat.le_of_lt l) (by omega)), if_pos (nI_lt l (by omega)), if_pos (nI_lt l (by omega)), if_neg (nI_nlt (Nat.le_of_lt l) (by omega)), if_neg (nI_nlt (Nat.le_of_lt l) (by omega)), if_neg (fun z => absurd ((nI_eq (by omega) (by omega)).mp z) (by omega)), if_neg (fun z => absurd ((nI_eq (by omega) (by omega)).mp z) (by omega))]
      exact set
/-- where nothing better can come, the reference finds nothing better -/
def kZ (P : Nat) (b c : k3) : Prop := c.1 = b.1 ∧ c.2.2 = b.2.2 ∧ ∀ p, p < P → c.2.1 p = b.2.1 p
theorem gv_no {r8 r73 r : Nat → Int32} {g64 : Nat → Nat → Int32} {n m M : Nat} (hM : M ≤ 8) : ∀ j {P g : Nat} {b : k3} {bz w : Int32}, P + j = n → n ≤ 8 → b.1 41 = nI M → g + j < M → kZ P b (gv r8 r73 r g64 n m j P bz (nI g) w b.1 b.2.1 b.2.2)
  | 0, P, g, b, bz, w, hP, hn, h1, h2 => by
    show kZ P b (rgv0_49 b.1 b.2.1 b.2.2 (nI g) w, b.2.1, rgv0_778 b.1 b.2.1 b.2.2 (nI g) w)
    unfold rgv0_49 rgv0_778
    rw [h1, if_pos (nI_lt (show g < M by omega) (by omega)), if_pos (nI_lt (show g < M by omega) (by omega))]
    exact ⟨rfl, rfl, fun _ _ => rfl⟩
  | j + 1, P, g, b, bz, w, hP, hn, h1, h2 => by
    show kZ P b (rgv1_49 r8 b.1 r73 r b.2.1 b.2.2 g64 n m (gv r8 r73 r g64 n m j) P (nI g) w bz, rgv1_777 r8 b.1 r73 r b.2.1 b.2.2 g64 n m (gv r8 r73 r g64 n m j) P (nI g) w bz, rgv1_778 r8 b.1 r73 r b.2.1 b.2.2 g64 n m (gv r8 r73 r g64 n m j) P (nI g) w bz)
    unfold rgv1_49 rgv1_777 rgv1_778
    rw [un_f (fun x => (gv r8 r73 r g64 n m j (P + 1) bz (nI g) w x.1 (upd x.2.1 ((nI P) : Int32).toNatClampNeg (-1)) x.2.2).1), un_f (fun x => (gv r8 r73 r g64 n m j (P + 1) bz (nI g) w x.1 (upd x.2.1 ((nI P) : Int32).toNatClampNeg (-1)) x.2.2).2.1), un_f (fun x => (gv r8 r73 r g64 n m j (P + 1) bz (nI g) w x.1 (upd x.2.1 ((nI P) : Int32).toNatClampNeg (-1)) x.2.2).2.2)]
    have cP : ((nI P) : Int32).toNatClampNeg = P := nI_clamp (by omega)
    rw [cP]
    have L : kZ P b (unS (jj_fx (fgv1_1 r8 r73 r g64 m (gv r8 r73 r g64 n m j) P (nI g) w bz) n (b.1, upd b.2.1 P (-1), b.2.2))) := un_inv (P := kZ P b) n _ ⟨rfl, rfl, fun p hp => jj_une (by omega)⟩ (fun k x _ hx => by
      have rec_ : ∀ bz2 w2 z, kZ P b (gv r8 r73 r g64 n m j (P + 1) bz2 (nI g + 1) w2 x.1 (upd x.2.1 P z) x.2.2) := fun bz2 w2 z => by
        have := gv_no (r8 := r8) (r73 := r73) (r := r) (g64 := g64) (m := m) hM j (P := P + 1) (g := g + 1) (b := (x.1, upd x.2.1 P z, x.2.2)) (bz := bz2) (w := w2) (by omega) hn (by rw [hx.1]; exact h1) (by omega)
        rw [nI_1]
        exact ⟨this.1.trans hx.1, this.2.1.trans hx.2.1, fun p hp => (this.2.2 p (by omega)).trans ((jj_une (by omega)).trans (hx.2.2 p hp))⟩
      unfold fgv1_1
      rw [cP]
      repeat' split
      all_goals first
        | exact hx
        | exact rec_ _ _ _)
    obtain ⟨L1, L2, L3⟩ := L
    have fin := gv_no (r8 := r8) (r73 := r73) (r := r) (g64 := g64) (m := m) hM j (P := P + 1) (g := g) (b := ((unS (jj_fx (fgv1_1 r8 r73 r g64 m (gv r8 r73 r g64 n m j) P (nI g) w bz) n (b.1, upd b.2.1 P (-1), b.2.2))).1, upd (unS (jj_fx (fgv1_1 r8 r73 r g64 m (gv r8 r73 r g64 n m j) P (nI g) w bz) n (b.1, upd b.2.1 P (-1), b.2.2))).2.1 P (-1), (unS (jj_fx (fgv1_1 r8 r73 r g64 m (gv r8 r73 r g64 n m j) P (nI g) w bz) n (b.1, upd b.2.1 P (-1), b.2.2))).2.2)) (bz := bz) (w := w) (by omega) hn (by rw [L1]; exact h1) (by omega)
    exact ⟨fin.1.trans L1, fin.2.1.trans L2, fun p hp => (fin.2.2 p (by omega)).trans ((jj_une (by omega)).trans (L3 p hp))⟩
section
variable {q r2 r3 r4 r5 r6 r8 r31 r38 r39 r40 r41 r42 r73 r : Nat → Int32} {g64 : Nat → Nat → Int32} {n m B : Nat}
theorem hp_bt (h : nr r38 r39 r40 r41 r42 r) (hk : nok B r38 r39 r40 r42) (hs : srl n r2 r3 r4 r5 r6 r73 g64) (hn : n ≤ 8) {P k : Nat} (hP : P < n) (hk2 : k < n) : bt (vX3_helperBits r2 r3 r6 r8 r38 r39 r40 r41 n m (nI P)) k = decide (¬ vX3_wouldTie_n r2 r3 r6 r8 r38 r39 r40 r41 m (nI k) (nI P) = 0) := by
  have := bt_set (f := fun k1 a1 => (if (vX3_wouldTie_n r2 r3 r6 r8 r38 r39 r40 r41 m (nI k1) (nI P)) = 0 then (a1 ||| 0) else (a1 ||| (1 <<< ((nI k1) &&& 31))))) (p := fun k => decide (¬ vX3_wouldTie_n r2 r3 r6 r8 r38 r39 r40 r41 m (nI k) (nI P) = 0)) (fun k a _ => by
    by_cases c : vX3_wouldTie_n r2 r3 r6 r8 r38 r39 r40 r41 m (nI k) (nI P) = 0
    · rw [if_pos c, if_neg (by simp [c])]
    · rw [if_neg c, if_pos (by simp [c])]) (i := k) (by omega) n hn
  rw [decide_eq_true hk2, Bool.true_and] at this
  exact this
theorem kn_gv (h : nr r38 r39 r40 r41 r42 r) (hk : nok B r38 r39 r40 r42) (hs : srl n r2 r3 r4 r5 r6 r73 g64) (hn : n ≤ 8) (hH : ∀ P, P < n → r31 P = vX3_helperBits r2 r3 r6 r8 r38 r39 r40 r41 n m (nI P)) : ∀ j {P g : Nat} {a b : k3} {bz w : Int32}, P + j = n → g ≤ P → kR q n P a b → kR q n P (kn r31 r38 r39 n j P bz (nI g) w a.1 a.2.1 a.2.2) (gv r8 r73 r g64 n m j P bz (nI g) w b.1 b.2.1 b.2.2) ∧ ¬ (kn r31 r38 r39 n j P bz (nI g) w a.1 a.2.1 a.2.2).1 5 = -1
  | 0, P, g, a, b, bz, w, hP, hg, hR => by
    have : P = n := by omega
    subst this
    exact kn_0 hn hg hR
  | j + 1, P, g, a, b, bz, w, hP, hg, hR => by
    have hPn : P < n := by omega
    have cP : ((nI P) : Int32).toNatClampNeg = P := nI_clamp (by omega)
    show kR q n P (rkn1_30 a.1 r31 a.2.1 a.2.2 r38 r39 n (kn r31 r38 r39 n j) P bz (nI g) w, rkn1_32 a.1 r31 a.2.1 a.2.2 r38 r39 n (kn r31 r38 r39 n j) P bz (nI g) w, rkn1_33 a.1 r31 a.2.1 a.2.2 r38 r39 n (kn r31 r38 r39 n j) P bz (nI g) w) (rgv1_49 r8 b.1 r73 r b.2.1 b.2.2 g64 n m (gv r8 r73 r g64 n m j) P (nI g) w bz, rgv1_777 r8 b.1 r73 r b.2.1 b.2.2 g64 n m (gv r8 r73 r g64 n m j) P (nI g) w bz, rgv1_778 r8 b.1 r73 r b.2.1 b.2.2 g64 n m (gv r8 r73 r g64 n m j) P (nI g) w bz) ∧ ¬ rkn1_30 a.1 r31 a.2.1 a.2.2 r38 r39 n (kn r31 r38 r39 n j) P bz (nI g) w 5 = -1
    have ev : (nI g + nI n - nI P : Int32) = nI (g + n - P) := by rw [nI_add, pk_sub (by omega)]
    by_cases c : a.1 5 ≤ nI (g + n - P)
    · unfold rkn1_30 rkn1_32 rkn1_33 rgv1_49 rgv1_777 rgv1_778
      rw [ev, if_pos c, if_pos c, if_pos c]
      rw [un_f (fun x => (gv r8 r73 r g64 n m j (P + 1) bz (nI g) w x.1 (upd x.2.1 ((nI P) : Int32).toNatClampNeg (-1)) x.2.2).1), un_f (fun x => (gv r8 r73 r g64 n m j (P + 1) bz (nI g) w x.1 (upd x.2.1 ((nI P) : Int32).toNatClampNeg (-1)) x.2.2).2.1), un_f (fun x => (gv r8 r73 r g64 n m j (P + 1) bz (nI g) w x.1 (upd x.2.1 ((nI P) : Int32).toNatClampNeg (-1)) x.2.2).2.2)]
      rw [cP]
      have R0 : kR q n P a (b.1, upd b.2.1 P (-1), b.2.2) := ⟨hR.1, hR.2.1, fun p hp => (hR.2.2.1 p hp).trans (jj_une (by omega)).symm, hR.2.2.2⟩
      have L : kR q n P (jj_fo (fkn1_1 r31 r38 r39 (kn r31 r38 r39 n j) P bz (nI g) w) n (a.1, a.2.1, a.2.2)) (unS (jj_fx (fgv1_1 r8 r73 r g64 m (gv r8 r73 r g64 n m j) P (nI g) w bz) n (b.1, upd b.2.1 P (-1), b.2.2))) := by
        have ccl : ∀ k, k < n → ((((r31 P) &&& (bz ^^^ ((-1) : Int32))) &&& (1 <<< ((nI k) &&& 31))) = 0 ↔ ¬ (¬ vX3_wouldTie_n r2 r3 r6 r8 r38 r39 r40 r41 m (nI k) (nI P) = 0 ∧ bt bz k = false)) := fun k hk2 => by
          rw [and_bt (show k < 8 by omega), b_and, b_not bz (show k < 32 by omega), hH P hPn, hp_bt h hk hs hn hPn hk2]
          by_cases z : vX3_wouldTie_n r2 r3 r6 r8 r38 r39 r40 r41 m (nI k) (nI P) = 0
          · simp [z]
          · cases y : bt bz k <;> simp [z]
        by_cases lo : vX10_isLoose_n r (nI P) = 0
        · have e1 : jj_fo (fkn1_1 r31 r38 r39 (kn r31 r38 r39 n j) P bz (nI g) w) n (a.1, a.2.1, a.2.2) = a := fo_inv (P := fun _ (x : k3) => x = a) n _ rfl (fun k x hk2 ex => by
            unfold fkn1_1
            rw [cP, if_pos ((ccl k hk2).mpr (fun z => z.1 (by rw [e_would h hk hs hn hk2 hPn, if_pos lo])))]
            exact ex)
          have e2 : unS (jj_fx (fgv1_1 r8 r73 r g64 m (gv r8 r73 r g64 n m j) P (nI g) w bz) n (b.1, upd b.2.1 P (-1), b.2.2)) = (b.1, upd b.2.1 P (-1), b.2.2) := un_inv (P := fun x => x = (b.1, upd b.2.1 P (-1), b.2.2)) n _ rfl (fun k x _ ex => by
            unfold fgv1_1
            rw [if_pos lo]
            exact ex)
          rw [e1, e2]
          exact R0
        · obtain ⟨b2, e2, h2⟩ := fox_rel (R := fun _ (a b : k3) => kR q n P a b) (f := fkn1_1 r31 r38 r39 (kn r31 r38 r39 n j) P bz (nI g) w) (F := fgv1_1 r8 r73 r g64 m (gv r8 r73 r g64 n m j) P (nI g) w bz) n (a.1, a.2.1, a.2.2) (b.1, upd b.2.1 P (-1), b.2.2) R0 (fun k x y hk2 hxy => by
            have step : ∀ w2, kR q n P (kn r31 r38 r39 n j (P + 1) (bz ||| (1 <<< ((nI k) &&& 31))) (nI g + 1) w2 x.1 (upd x.2.1 P (nI k)) x.2.2) (gv r8 r73 r g64 n m j (P + 1) (bz ||| (1 <<< ((nI k) &&& 31))) (nI g + 1) w2 y.1 (upd y.2.1 P (nI k)) y.2.2) := fun w2 => by
              have := (kn_gv h hk hs hn hH j (P := P + 1) (g := g + 1) (a := (x.1, upd x.2.1 P (nI k), x.2.2)) (b := (y.1, upd y.2.1 P (nI k), y.2.2)) (bz := bz ||| (1 <<< ((nI k) &&& 31))) (w := w2) (by omega) (by omega) ⟨hxy.1, hxy.2.1, fun p hp => by
                show upd x.2.1 P (nI k) p = upd y.2.1 P (nI k) p
                by_cases e : p = P
                · rw [jj_ueq e, jj_ueq e]
                · rw [jj_une e, jj_une e]; exact hxy.2.2.1 p (by omega), hxy.2.2.2⟩).1
              rw [nI_1]
              exact kR_dn this
            have day : vX3_dayBy_n r38 r39 (nI k) (nI P) = if nI k = nI P then r 33 else r k := by
              unfold vX3_dayBy_n
              rw [cl_ (show k < 8 by omega), h.1.1, (h.2 k (by omega)).1]
            unfold fkn1_1 fgv1_1
            rw [cP, if_neg lo, has_bt (show k < 8 by omega), Nat.zero_add, cl_ (show k < 8 by omega)]
            have wo := e_would (m := m) (r8 := r8) h hk hs hn hk2 hPn
            rw [if_neg lo] at wo
            cases z : bt bz k with
            | true =>
              rw [if_pos rfl, if_neg one0, if_pos ((ccl k hk2).mpr (fun u => by rw [z] at u; cases u.2))]
              exact ⟨_, rfl, hxy⟩
            | false =>
              rw [if_neg (show ¬ false = true by decide), if_pos rfl]
              by_cases ha : vX10_isHand_n r (nI k) (nI P) = 0
              · rw [if_pos ha] at wo ⊢
                rw [if_pos ((ccl k hk2).mpr (fun u => u.1 wo))]
                exact ⟨_, rfl, hxy⟩
              · rw [if_neg ha] at wo ⊢
                by_cases ho : vX10_holdOf_n r8 r73 r g64 m (nI k) (nI P) 0 < 10
                · rw [if_pos ho] at wo
                  rw [if_neg (Int32.not_le.mpr ho), if_pos ((ccl k hk2).mpr (fun u => u.1 wo))]
                  exact ⟨_, rfl, hxy⟩
                · rw [if_neg ho] at wo
                  rw [if_pos (Int32.not_lt.mp ho), if_neg (fun u => (ccl k hk2).mp u ⟨by rw [wo]; exact one0, z⟩), day]
                  by_cases eq : nI k = nI P
                  · rw [if_pos eq, if_pos eq]
                    exact ⟨_, rfl, step _⟩
                  · rw [if_neg eq, if_neg eq]
                    exact ⟨_, rfl, step _⟩)
          rw [e2]
          exact h2
      generalize jj_fo (fkn1_1 r31 r38 r39 (kn r31 r38 r39 n j) P bz (nI g) w) n (a.1, a.2.1, a.2.2) = A1 at L ⊢
      generalize unS (jj_fx (fgv1_1 r8 r73 r g64 m (gv r8 r73 r g64 n m j) P (nI g) w bz) n (b.1, upd b.2.1 P (-1), b.2.2)) = B1 at L ⊢
      have fin := kn_gv h hk hs hn hH j (P := P + 1) (g := g) (a := (A1.1, upd A1.2.1 P (-1), A1.2.2)) (b := (B1.1, upd B1.2.1 P (-1), B1.2.2)) (bz := bz) (w := w) (by omega) (by omega) ⟨L.1, L.2.1, fun p hp => by
        show upd A1.2.1 P (-1) p = upd B1.2.1 P (-1) p
        by_cases e : p = P
        · rw [jj_ueq e, jj_ueq e]
        · rw [jj_une e, jj_une e]; exact L.2.2.1 p (by omega), L.2.2.2⟩
      exact ⟨kR_dn fin.1, fin.2⟩
    · have M : ∃ g0, g0 ≤ 8 ∧ a.1 5 = nI g0 := by
        rcases hR.2.1 with z | z
        · exfalso
          rw [z] at c
          refine c (Int32.le_of_lt ?_)
          rw [Int32.lt_iff_toInt_lt, nI_toInt (by omega)]
          have : (-1 : Int32).toInt = -1 := by decide
          omega
        · exact z.1
      obtain ⟨g0, l0, M⟩ := M
      have lt : g + n - P < g0 := by
        rcases Nat.lt_or_ge (g + n - P) g0 with z | z
        · exact z
        · exact absurd (by rw [M]; exact nI_le z (by omega)) c
      have no := gv_no (r8 := r8) (r73 := r73) (r := r) (g64 := g64) (m := m) (n := n) (M := g0) l0 (j + 1) (P := P) (g := g) (b := b) (bz := bz) (w := w) hP hn (by rw [← hR.1]; exact M) (by omega)
      unfold rkn1_30 rkn1_32 rkn1_33
      rw [ev, if_neg c, if_neg c, if_neg c]
      refine ⟨?_, by rw [M]; exact nI_ne1 (by omega)⟩
      have : kR q n P a (gv r8 r73 r g64 n m (j + 1) P bz (nI g) w b.1 b.2.1 b.2.2) := ⟨hR.1.trans (congrFun no.1 41).symm, hR.2.1.imp_right (fun z => ⟨z.1, z.2.1.trans (congrFun no.1 42).symm, fun p hp => (z.2.2 p hp).trans (congrFun no.2.1 p).symm⟩), fun p hp => (hR.2.2.1 p hp).trans (no.2.2 p hp).symm, fun i i1 i2 => (congrFun no.1 i).trans (hR.2.2.2 i i1 i2)⟩
      exact this
end
theorem kn_iv {c : Nat → Nat} {T n m u t : Nat} {L : bL_} {h : hp_} (I : IV c T n m u t L h) : kR (upd (h 49) 0 0) n 0 (rX2_search_30 (h 2) (h 3) (h 6) (h 8) (h 30) (h 31) (h 32) (h 33) (h 38) (h 39) (h 40) (h 41) n m, rX2_search_32 (h 2) (h 3) (h 6) (h 8) (h 30) (h 31) (h 32) (h 33) (h 38) (h 39) (h 40) (h 41) n m, rX2_search_33 (h 2) (h 3) (h 6) (h 8) (h 30) (h 31) (h 32) (h 33) (h 38) (h 39) (h 40) (h 41) n m) (rX10_laysKneelers_49 (h 8) (upd (h 49) 0 0) (h 73) (h 497) (h 777) (h 778) (jj_gd h 64 8) n m, rX10_laysKneelers_777 (h 8) (upd (h 49) 0 0) (h 73) (h 497) (h 777) (h 778) (jj_gd h 64 8) n m, rX10_laysKneelers_778 (h 8) (upd (h 49) 0 0) (h 73) (h 497) (h 777) (h 778) (jj_gd h 64 8) n m) ∧ ¬ rX2_search_30 (h 2) (h 3) (h 6) (h 8) (h 30) (h 31) (h 32) (h 33) (h 38) (h 39) (h 40) (h 41) n m 5 = -1 := by
  have hn := iv_8 I
  have hH : ∀ P, P < n → jj_fo (fX2_search_1 (h 2) (h 3) (h 6) (h 8) (h 38) (h 39) (h 40) (h 41) n m) n (h 31) P = vX3_helperBits (h 2) (h 3) (h 6) (h 8) (h 38) (h 39) (h 40) (h 41) n m (nI P) := by
    have := fo_inv (P := fun k (x : Nat → Int32) => ∀ P, P < k → x P = vX3_helperBits (h 2) (h 3) (h 6) (h 8) (h 38) (h 39) (h 40) (h 41) n m (nI P)) (f := fX2_search_1 (h 2) (h 3) (h 6) (h 8) (h 38) (h 39) (h 40) (h 41) n m) n (h 31) (fun P hP => absurd hP (Nat.not_lt_zero P)) (fun k x _ hx P hP => by
      unfold fX2_search_1
      by_cases e : P = k
      · rw [jj_ueq e, e]
      · rw [jj_une e]; exact hx P (by omega))
    exact this
  exact kn_gv (q := upd (h 49) 0 0) (iv_n I) (iv_k I) (iv_s I) hn hH n (P := 0) (g := 0) (a := (upd (upd (h 30) 5 (-1)) 6 0, h 32, h 33)) (b := (upd (upd (upd (h 49) 0 0) 41 (-1)) 42 (-1), h 777, h 778)) (bz := 0) (w := 0) (by omega) (Nat.le_refl _) ⟨rfl, Or.inl rfl, fun p hp => absurd hp (Nat.not_lt_zero p), fun i i1 i2 => (jj_une i2).trans (jj_une i1)⟩
theorem q_kneel {c : Nat → Nat} {T n m u t : Nat} {L : bL_} {h : hp_} (I : IV c T n m u t L h) (w : Int32) : res 1 (vX9_kneel (h 0) (h 2) (h 3) (h 6) (h 8) (h 30) (h 31) (h 32) (h 33) (h 38) (h 39) (h 40) (h 41) n m w) (h 0) (rX9_kneel_0 (h 0) (h 2) (h 3) (h 6) (h 8) (h 30) (h 31) (h 32) (h 33) (h 38) (h 39) (h 40) (h 41) n m w) ((rX10_kneel_49 (h 8) (h 49) (h 51) (h 73) (h 497) (h 777) (h 778) (jj_gd h 64 8) n m w) 0) (.int (vX10_kneel (h 8) (h 49) (h 51) (h 73) (h 497) (h 777) (h 778) (jj_gd h 64 8) n m w)) (h 51) (rX10_kneel_51 (h 8) (h 49) (h 51) (h 73) (h 497) (h 777) (h 778) (jj_gd h 64 8) n m w) := by
  have hn := iv_8 I
  unfold vX9_kneel rX9_kneel_0 vX10_kneel rX10_kneel_49 rX10_kneel_51
  simp only [in_if, two_if, iv_p I, e_bit, e_week, e_bits hn]
  refine res_if (fun _ => (Or.inr (Or.inr ⟨rfl, rfl, rfl, rfl⟩))) (fun c1 => ?_)
  refine res_if (fun _ => (Or.inr (Or.inr ⟨rfl, rfl, rfl, rfl⟩))) (fun c2 => ?_)
  obtain ⟨K, K5⟩ := kn_iv I
  have K2 := K.2.1.resolve_left K5
  refine res_ok ?_ (K.2.2.2 0 (by decide) (by decide))
  refine ok_if (fun _ => K.1) (fun _ => ok_e K2.2.1)
theorem q_kneels {c : Nat → Nat} {T n m u t : Nat} {L : bL_} {h : hp_} (I : IV c T n m u t L h) (p : Int32) : res 1 (vX9_kneels (h 0) (h 1) (h 2) (h 3) (h 6) (h 8) (h 30) (h 31) (h 32) (h 33) (h 38) (h 39) (h 40) (h 41) n m p) (h 0) (rX9_kneels_0 (h 0) (h 1) (h 2) (h 3) (h 6) (h 8) (h 30) (h 31) (h 32) (h 33) (h 38) (h 39) (h 40) (h 41) n m p) ((rX10_kneels_49 (h 8) (h 49) (h 51) (h 73) (h 497) (h 777) (h 778) (jj_gd h 64 8) n m p) 0) (.int (vX10_kneels (h 8) (h 49) (h 51) (h 73) (h 497) (h 777) (h 778) (jj_gd h 64 8) n m p)) (h 51) (rX10_kneels_51 (h 8) (h 49) (h 51) (h 73) (h 497) (h 777) (h 778) (jj_gd h 64 8) n m p) := by
  have hn := iv_8 I
  unfold vX9_kneels rX9_kneels_0 vX10_kneels rX10_kneels_49 rX10_kneels_51
  simp only [in_if, two_if, iv_p I, e_bit, e_week, e_bits hn]
  refine res_if (fun _ => (Or.inr (Or.inl ⟨rfl, rfl, rfl, rfl⟩))) (fun c1 => ?_)
  obtain ⟨Pp, hp, rfl⟩ := jj_persM hn c1
  obtain ⟨K, K5⟩ := kn_iv I
  have K2 := K.2.1.resolve_left K5
  refine res_ok (ok_e ?_) (K.2.2.2 0 (by decide) (by decide))
  rw [cl_ (show Pp < 8 by omega)]
  exact K2.2.2 Pp hp
