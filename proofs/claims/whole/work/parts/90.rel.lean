/-! ===== two loops side by side ===== -/
theorem fo_rel {α β : Type} {R : Nat → α → β → Prop} {f : Nat → α → α} {g : Nat → β → β} : ∀ n a b, R 0 a b → (∀ k a b, k < n → R k a b → R (k + 1) (f k a) (g k b)) → R n (jj_fo f n a) (jj_fo g n b)
  | 0, _, _, h, _ => h
  | n + 1, a, b, h, s => s n _ _ (Nat.lt_succ_self n) (fo_rel n a b h (fun k a b hk => s k a b (by omega)))
theorem fo_eq {α : Type} {f g : Nat → α → α} (n : Nat) (a : α) (s : ∀ k a, k < n → f k a = g k a) : jj_fo f n a = jj_fo g n a :=
  fo_rel (R := fun _ x y => x = y) n a a rfl (fun k a b hk e => by rw [e]; exact s k b hk)
/-- a loop alone -/
theorem fo_inv {α : Type} {P : Nat → α → Prop} {f : Nat → α → α} : ∀ n a, P 0 a → (∀ k a, k < n → P k a → P (k + 1) (f k a)) → P n (jj_fo f n a)
  | 0, _, h, _ => h
  | n + 1, a, h, s => s n _ (Nat.lt_succ_self n) (fo_inv n a h (fun k a hk => s k a (by omega)))
def sr {α β γ δ : Type} (R : α → β → Prop) (E : γ → δ → Prop) : Sum α γ → Sum β δ → Prop
  | .inl a, .inl b => R a b
  | .inr a, .inr b => E a b
  | _, _ => False
theorem fx_rel {α β γ δ : Type} {R : Nat → α → β → Prop} {E : γ → δ → Prop} {f : Nat → α → Sum α γ} {g : Nat → β → Sum β δ} : ∀ n a b, R 0 a b → (∀ k a b, k < n → R k a b → sr (R (k + 1)) E (f k a) (g k b)) → sr (R n) E (jj_fx f n a) (jj_fx g n b)
  | 0, _, _, h, _ => h
  | n + 1, a, b, h, s => by
    have ih := fx_rel n a b h (fun k a b hk => s k a b (by omega))
    show sr _ E (Sum.elim (fun b => f n b) (fun r => .inr r) (jj_fx f n a)) (Sum.elim (fun b => g n b) (fun r => .inr r) (jj_fx g n b))
    revert ih
    cases jj_fx f n a <;> cases jj_fx g n b <;> intro ih
    · exact s n _ _ (Nat.lt_succ_self n) ih
    · exact ih.elim
    · exact ih.elim
    · exact ih
/-! ===== the days of both ===== -/
def nr (r38 r39 r40 r41 r42 r : Nat → Int32) : Prop := (r 33 = r38 0 ∧ r 34 = r38 1 ∧ r 32 = r38 2) ∧ ∀ p, p < 8 → r p = r39 p ∧ r (8 + p) = r40 p ∧ r (16 + p) = r41 p ∧ r (24 + p) = r42 p
def nok (B : Nat) (r38 r39 r40 r42 : Nat → Int32) : Prop := (∃ T, r38 0 = nI T ∧ T ≤ B ∧ ∀ p, p < 8 → ∃ D, r39 p = nI D ∧ D ≤ T) ∧ ∀ p, p < 8 → (r40 p = 0 ∨ r40 p = 1 ∨ r40 p = 2) ∧ (r42 p = -1 ∨ vp_in (r42 p) 8)
def srl (n : Nat) (r2 r3 r4 r5 r6 r73 : Nat → Int32) (g64 : Nat → Nat → Int32) : Prop := ∀ p, p < n → g64 p 0 = r2 p ∧ g64 p 1 = r3 p ∧ g64 p 2 = r4 p ∧ g64 p 3 = r5 p ∧ r73 p = r6 p
section
variable {r2 r3 r4 r5 r6 r8 r38 r39 r40 r41 r42 r73 r : Nat → Int32} {g64 : Nat → Nat → Int32} {n m p a b B : Nat}
theorem c0_ (hp : p < 8) : ((0 : Int32) + nI p).toNatClampNeg = p := by
  have := jj_rc (o := 0) hp (by decide)
  rw [Nat.zero_add] at this
  exact this
theorem c8_ (hp : p < 8) : ((8 : Int32) + nI p).toNatClampNeg = 8 + p := jj_rc (o := 8) hp (by decide)
theorem c16_ (hp : p < 8) : ((16 : Int32) + nI p).toNatClampNeg = 16 + p := jj_rc (o := 16) hp (by decide)
theorem c24_ (hp : p < 8) : ((24 : Int32) + nI p).toNatClampNeg = 24 + p := jj_rc (o := 24) hp (by decide)
theorem cl_ (hp : p < 8) : (nI p).toNatClampNeg = p := nI_clamp (by omega)
theorem e_behind (h : nr r38 r39 r40 r41 r42 r) (hp : p < 8) : vX10_behind_n r (nI p) = vX6_behindOf_n r38 r39 (nI p) := by
  unfold vX10_behind_n vX6_behindOf_n
  rw [c0_ hp, cl_ hp, h.1.1, (h.2 p hp).1]
theorem e_cut (h : nr r38 r39 r40 r41 r42 r) (hp : p < 8) : vX10_has (r 32) (nI p) = vX6_isCut_n r38 (nI p) := by
  unfold vX6_isCut_n
  rw [h.1.2.2, has_bt hp]
  by_cases c : bt (r38 2) p = true
  · rw [if_pos c, if_neg (fun q => by rw [and_bt hp] at q; rw [q] at c; cases c)]
  · rw [if_neg c, if_pos ((and_bt hp).mpr (by simpa using c))]
theorem e_loose (h : nr r38 r39 r40 r41 r42 r) (hp : p < 8) : vX10_isLoose_n r (nI p) = vX6_isLoose_n r38 r40 (nI p) := by
  unfold vX10_isLoose_n vX6_isLoose_n
  rw [c8_ hp, cl_ hp, (h.2 p hp).2.1, e_cut h hp]
theorem e_hand (h : nr r38 r39 r40 r41 r42 r) (hk : nok B r38 r39 r40 r42) (ha : a < 8) : vX10_isHand_n r (nI a) (nI b) = if nI a = nI b then 1 else if r40 a = 0 then 0 else 1 := by
  unfold vX10_isHand_n
  rw [c8_ ha, (h.2 a ha).2.1]
  by_cases c : nI a = nI b
  · rw [if_pos c, if_pos c]
  · rw [if_neg c, if_neg c]
    rcases (hk.2 a ha).1 with e | e | e <;> rw [e] <;> decide
theorem e_may (h : nr r38 r39 r40 r41 r42 r) (hk : nok B r38 r39 r40 r42) (ha : a < 8) (hb : b < 8) : vX6_mayTie_n r38 r40 (nI a) (nI b) = if vX10_isLoose_n r (nI b) = 0 then 0 else vX10_isHand_n r (nI a) (nI b) := by
  unfold vX6_mayTie_n
  rw [e_loose h hb, e_hand h hk ha, cl_ ha]
theorem e_hold (h : nr r38 r39 r40 r41 r42 r) (hs : srl n r2 r3 r4 r5 r6 r73 g64) (hn : n ≤ 8) (ha : a < n) (hb : b < n) (tw : Int32) : vX10_holdOf_n r8 r73 r g64 m (nI a) (nI b) tw = vX3_holdOf_n r2 r3 r6 r8 r38 r39 r41 m (nI a) (nI b) tw := by
  have ha8 : a < 8 := by omega
  have hb8 : b < 8 := by omega
  unfold vX10_holdOf_n vX3_holdOf_n
  rw [cl_ ha8, cl_ hb8, (hs a ha).1, (hs b hb).2.1, e_behind h hb8, c16_ hb8, (h.2 b hb8).2.2.1, h.1.1, (hs a ha).2.2.2.2]
  by_cases c : nI a = nI b
  · rw [if_pos c, if_pos c]
  · rw [if_neg c, if_neg c]
theorem e_would (h : nr r38 r39 r40 r41 r42 r) (hk : nok B r38 r39 r40 r42) (hs : srl n r2 r3 r4 r5 r6 r73 g64) (hn : n ≤ 8) (ha : a < n) (hb : b < n) : vX3_wouldTie_n r2 r3 r6 r8 r38 r39 r40 r41 m (nI a) (nI b) = if vX10_isLoose_n r (nI b) = 0 then 0 else if vX10_isHand_n r (nI a) (nI b) = 0 then 0 else if vX10_holdOf_n r8 r73 r g64 m (nI a) (nI b) 0 < 10 then 0 else 1 := by
  unfold vX3_wouldTie_n
  rw [e_may h hk (by omega) (by omega), e_hold h hs hn ha hb]
  by_cases c : vX10_isLoose_n r (nI b) = 0
  · rw [if_pos c, if_pos c, if_pos rfl]
  · rw [if_neg c, if_neg c]
theorem nok_mo {B2 : Nat} (h : nok B r38 r39 r40 r42) (hB : B ≤ B2) : nok B2 r38 r39 r40 r42 := by
  obtain ⟨⟨T, h1, h2, h3⟩, h4⟩ := h
  exact ⟨⟨T, h1, by omega, h3⟩, h4⟩
theorem nok_b (h : nok B r38 r39 r40 r42) (hB : B < 2 ^ 30) (hp : p < 8) : ∃ v, v ≤ B ∧ vX6_behindOf_n r38 r39 (nI p) = nI v := by
  obtain ⟨⟨T, h1, h2, h3⟩, _⟩ := h
  obtain ⟨D, h5, h6⟩ := h3 p hp
  refine ⟨T - D, by omega, ?_⟩
  unfold vX6_behindOf_n
  rw [cl_ hp, h1, h5, pk_sub h6]
/-- a lace is tied, in both -/
theorem e_ties (h : nr r38 r39 r40 r41 r42 r) (hk : nok B r38 r39 r40 r42) (hs : srl n r2 r3 r4 r5 r6 r73 g64) (hn : n ≤ 8) (ha : a < n) (hb : b < n) {tw : Int32} (ht : tw = 0 ∨ tw = 1) :
    vX10_ties_n r8 r73 r g64 m (nI a) (nI b) tw = vX3_tieLace_n r2 r3 r6 r8 r38 r39 r40 r41 r42 m (nI a) (nI b) tw ∧
    nr (rX3_tieLace_n_38 r2 r3 r6 r8 r38 r39 r40 r41 r42 m (nI a) (nI b) tw) (rX3_tieLace_n_39 r2 r3 r6 r8 r38 r39 r40 r41 r42 m (nI a) (nI b) tw) (rX3_tieLace_n_40 r2 r3 r6 r8 r38 r39 r40 r41 r42 m (nI a) (nI b) tw) (rX3_tieLace_n_41 r2 r3 r6 r8 r38 r39 r40 r41 r42 m (nI a) (nI b) tw) (rX3_tieLace_n_42 r2 r3 r6 r8 r38 r39 r40 r41 r42 m (nI a) (nI b) tw) (rX10_ties_n_497 r8 r73 r g64 m (nI a) (nI b) tw) ∧
    nok B (rX3_tieLace_n_38 r2 r3 r6 r8 r38 r39 r40 r41 r42 m (nI a) (nI b) tw) (rX3_tieLace_n_39 r2 r3 r6 r8 r38 r39 r40 r41 r42 m (nI a) (nI b) tw) (rX3_tieLace_n_40 r2 r3 r6 r8 r38 r39 r40 r41 r42 m (nI a) (nI b) tw) (rX3_tieLace_n_42 r2 r3 r6 r8 r38 r39 r40 r41 r42 m (nI a) (nI b) tw) := by
  have ha8 : a < 8 := by omega
  have hb8 : b < 8 := by omega
  have hm := e_may h hk ha8 hb8
  have hh := e_hold (m := m) (r8 := r8) h hs hn ha hb tw
  unfold vX10_ties_n vX3_tieLace_n rX3_tieLace_n_38 rX3_tieLace_n_39 rX3_tieLace_n_40 rX3_tieLace_n_41 rX3_tieLace_n_42 rX10_ties_n_497
  rw [← hh, hm]
  by_cases c1 : vX10_isLoose_n r (nI b) = 0
  · simp only [if_pos c1, if_true]
    exact ⟨trivial, h, hk⟩
  · simp only [if_neg c1]
    by_cases c2 : vX10_isHand_n r (nI a) (nI b) = 0
    · simp only [if_pos c2]
      exact ⟨trivial, h, hk⟩
    · simp only [if_neg c2]
      refine ⟨trivial, ?_⟩
      rw [c0_ ha8, c0_ hb8, c8_ hb8, c16_ hb8, c24_ hb8, cl_ hb8]
      by_cases c3 : 10 ≤ vX10_holdOf_n r8 r73 r g64 m (nI a) (nI b) tw
      · simp only [if_pos c3]
        have hd : vX3_dayBy_n r38 r39 (nI a) (nI b) = if nI a = nI b then r 33 else r a := by
          unfold vX3_dayBy_n
          rw [cl_ ha8, h.1.1, (h.2 a ha8).1]
        have key : ∀ z : Int32, (if nI a = nI b then upd (upd (upd (upd r (8 + b) (1 + tw)) (24 + b) (nI a)) b (upd (upd r (8 + b) (1 + tw)) (24 + b) (nI a) 33)) 34 (upd (upd (upd r (8 + b) (1 + tw)) (24 + b) (nI a)) b (upd (upd r (8 + b) (1 + tw)) (24 + b) (nI a) 33) 34 + 1) else upd (upd (upd (upd r (8 + b) (1 + tw)) (24 + b) (nI a)) b (upd (upd r (8 + b) (1 + tw)) (24 + b) (nI a) a)) 34 (upd (upd (upd r (8 + b) (1 + tw)) (24 + b) (nI a)) b (upd (upd r (8 + b) (1 + tw)) (24 + b) (nI a) a) 34 + 1)) = upd (upd (upd (upd r (8 + b) (1 + tw)) (24 + b) (nI a)) b (vX3_dayBy_n r38 r39 (nI a) (nI b))) 34 (r 34 + 1) := by
          intro _
          have e34 : ∀ v, upd (upd (upd r (8 + b) (1 + tw)) (24 + b) (nI a)) b v 34 = r 34 := fun v => by rw [jj_une (by omega), jj_une (by omega), jj_une (by omega)]
          rw [e34, e34, jj_une (show ¬ 33 = 24 + b by omega), jj_une (show ¬ 33 = 8 + b by omega), jj_une (show ¬ a = 24 + b by omega), jj_une (show ¬ a = 8 + b by omega), hd]
          by_cases c : nI a = nI b
          · rw [if_pos c, if_pos c]
          · rw [if_neg c, if_neg c]
        rw [key 0]
        clear key
        refine ⟨⟨⟨?_, ?_, ?_⟩, fun p hp => ?_⟩, ?_⟩
        · rw [jj_une (by omega), jj_une (by omega), jj_une (by omega), jj_une (by omega), jj_une (by omega)]; exact h.1.1
        · rw [jj_ueq rfl, jj_ueq rfl, h.1.2.1]
        · rw [jj_une (by omega), jj_une (by omega), jj_une (by omega), jj_une (by omega), jj_une (by omega)]; exact h.1.2.2
        · obtain ⟨q1, q2, q3, q4⟩ := h.2 p hp
          by_cases e : p = b
          · subst e
            refine ⟨?_, ?_, ?_, ?_⟩
            · rw [jj_une (by omega), jj_ueq rfl, jj_ueq rfl]
            · rw [jj_une (by omega), jj_une (by omega), jj_une (by omega), jj_ueq rfl, jj_ueq rfl]
            · rw [jj_une (by omega), jj_une (by omega), jj_une (by omega), jj_une (by omega)]; exact q3
            · rw [jj_une (by omega), jj_une (by omega), jj_ueq rfl, jj_ueq rfl]
          · refine ⟨?_, ?_, ?_, ?_⟩
            · rw [jj_une (by omega), jj_une e, jj_une (by omega), jj_une (by omega), jj_une e]; exact q1
            · rw [jj_une (by omega), jj_une (by omega), jj_une (by omega), jj_une (by omega), jj_une e]; exact q2
            · rw [jj_une (by omega), jj_une (by omega), jj_une (by omega), jj_une (by omega)]; exact q3
            · rw [jj_une (by omega), jj_une (by omega), jj_une (by omega), jj_une (by omega), jj_une e]; exact q4
        · obtain ⟨⟨T, k1, k2, k3⟩, k4⟩ := hk
          refine ⟨⟨T, (jj_une (by decide)).trans k1, k2, fun p hp => ?_⟩, fun p hp => ?_⟩
          · by_cases e : p = b
            · rw [jj_ueq e]
              unfold vX3_dayBy_n
              rw [cl_ ha8]
              by_cases c : nI a = nI b
              · rw [if_pos c]; exact ⟨T, k1, Nat.le_refl _⟩
              · rw [if_neg c]; exact k3 a ha8
            · rw [jj_une e]; exact k3 p hp
          · by_cases e : p = b
            · rw [jj_ueq e, jj_ueq e]
              refine ⟨?_, Or.inr (vp_in_nI ha8 (by decide))⟩
              rcases ht with rfl | rfl
              · exact Or.inr (Or.inl rfl)
              · exact Or.inr (Or.inr rfl)
            · rw [jj_une e, jj_une e]; exact k4 p hp
      · simp only [if_neg c3]
        refine ⟨⟨⟨?_, ?_, ?_⟩, fun p hp => ?_⟩, hk⟩
        · rw [jj_une (by omega)]; exact h.1.1
        · rw [jj_une (by omega)]; exact h.1.2.1
        · rw [jj_une (by omega)]; exact h.1.2.2
        · obtain ⟨q1, q2, q3, q4⟩ := h.2 p hp
          refine ⟨?_, ?_, ?_, ?_⟩
          · rw [jj_une (by omega)]; exact q1
          · rw [jj_une (by omega)]; exact q2
          · by_cases e : p = b
            · subst e; rw [jj_ueq rfl, jj_ueq rfl, q3]
            · rw [jj_une (by omega), jj_une e]; exact q3
          · rw [jj_une (by omega)]; exact q4
end
