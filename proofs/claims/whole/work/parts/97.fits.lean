/-! ===== fits ===== -/
theorem all_1 {F : Nat → Unit → Sum Unit Int32} {P : Nat → Prop} [∀ k, Decidable (P k)] {c : Int32} : ∀ N, (∀ k, k < N → F k () = if P k then .inl () else .inr c) → (∀ k, k < N → P k) → jj_fx F N () = .inl ()
  | 0, _, _ => rfl
  | N + 1, hF, h => by
    show Sum.elim (fun b => F N b) (fun r => .inr r) (jj_fx F N ()) = _
    rw [all_1 N (fun k hk => hF k (by omega)) (fun k hk => h k (by omega))]
    show F N () = _
    rw [hF N (by omega), if_pos (h N (by omega))]
theorem all_0 {F : Nat → Unit → Sum Unit Int32} {P : Nat → Prop} [∀ k, Decidable (P k)] {c : Int32} {k : Nat} (h : ¬ P k) : ∀ N, (∀ k, k < N → F k () = if P k then .inl () else .inr c) → k < N → jj_fx F N () = .inr c
  | 0, _, hk => absurd hk (Nat.not_lt_zero k)
  | N + 1, hF, hk => by
    show Sum.elim (fun b => F N b) (fun r => .inr r) (jj_fx F N ()) = _
    by_cases a : ∃ j, j < N ∧ ¬ P j
    · obtain ⟨j, hj, hp⟩ := a
      rw [all_0 hp N (fun k hk => hF k (by omega)) hj]
      rfl
    · have al : ∀ j, j < N → P j := fun j hj => by
        apply Classical.byContradiction
        exact fun no => a ⟨j, hj, no⟩
      rw [all_1 N (fun k hk => hF k (by omega)) al]
      show F N () = _
      have e : k = N := by
        rcases Nat.lt_or_ge k N with q | q
        · exact absurd (al k q) h
        · omega
      rw [hF N (by omega), if_neg (e ▸ h)]
/-- in which day p is behind it, if a ties b -/
def dD (r2 r3 r6 r8 r38 r39 r40 r41 : Nat → Int32) (m a b p : Nat) : Int32 := if p = b then (if vX3_wouldTie_n r2 r3 r6 r8 r38 r39 r40 r41 m (nI a) (nI b) = 0 then r39 b else vX3_dayBy_n r38 r39 (nI a) (nI b)) else r39 p
def dRb (D : Nat → Int32) (L : bL_) : Bool := L.all fun z => D z.1 == nI z.2
theorem dRb_1 {D : Nat → Int32} {L : bL_} (h : dRb D L = true) {i : Nat} {z : Nat × Nat} (hi : L[i]? = some z) : D z.1 = nI z.2 := by
  have := List.all_eq_true.mp h z (List.mem_of_getElem? hi)
  simpa using this
theorem dRb_0 {D : Nat → Int32} {L : bL_} (h : ¬ dRb D L = true) : ∃ (i : Nat) (z : Nat × Nat), L[i]? = some z ∧ ¬ D z.1 = nI z.2 := by
  apply Classical.byContradiction
  intro no
  refine h (List.all_eq_true.mpr (fun z hz => ?_))
  obtain ⟨i, hi⟩ := List.mem_iff_getElem?.mp hz
  have : D z.1 = nI z.2 := by
    apply Classical.byContradiction
    exact fun q => no ⟨i, z, hi, q⟩
  simpa using this
theorem lk_ex : ∀ {L : bL_} {p v : Nat}, L.lookup p = some v → ∃ i : Nat, L[i]? = some (p, v)
  | [], p, v, h => by cases h
  | (a, b) :: L, p, v, h => by
    by_cases e : p = a
    · subst e
      rw [List.lookup_cons] at h
      simp at h
      exact ⟨0, by rw [h]; rfl⟩
    · have n : (p == a) = false := by rw [beq_eq_false_iff_ne]; exact e
      rw [List.lookup_cons, n] at h
      obtain ⟨i, hi⟩ := lk_ex (L := L) h
      exact ⟨i + 1, by rw [List.getElem?_cons_succ]; exact hi⟩
section
variable {r2 r3 r4 r5 r6 r8 r25 r26 r28 r29 r38 r39 r40 r41 r42 r73 r r498 : Nat → Int32} {g64 g397 : Nat → Nat → Int32} {n m B a b p : Nat} {L : bL_}
theorem so_dD (h : nr r38 r39 r40 r41 r42 r) (hk : nok B r38 r39 r40 r42) (hs : srl n r2 r3 r4 r5 r6 r73 g64) (hn : n ≤ 8) (ha : a < n) (hb : b < n) (hp : p < 8) : rX10_ties_t_498 r8 r73 (rX10_copies_nt_498 r r498) g64 m (nI a) (nI b) 0 p = dD r2 r3 r6 r8 r38 r39 r40 r41 m a b p := by
  have hc := e_copy (r43 := r38) (r44 := r39) (r45 := r40) (r46 := r41) (r47 := r42) (r498 := r498) h
  have hkc := nok_copy (r41 := r41) (r43 := r38) (r44 := r39) (r45 := r40) (r46 := r41) (r47 := r42) hk
  have e := (e_ties (m := m) (r8 := r8) hc hkc hs hn ha hb (tw := 0) (Or.inl rfl)).2.1
  have e1 : rX10_ties_t_498 r8 r73 (rX10_copies_nt_498 r r498) g64 m (nI a) (nI b) 0 p = _ := (e.2 p hp).1
  rw [e1]
  have c38 : rX6_copyFrom_43 r38 r39 r40 r41 r42 r38 r39 r40 r41 r42 = r38 := by
    funext j
    unfold rX6_copyFrom_43 upd
    by_cases q2 : j = 2
    · rw [if_pos q2, q2]
    · rw [if_neg q2]
      by_cases q1 : j = 1
      · rw [if_pos q1, q1]
      · rw [if_neg q1]
        by_cases q0 : j = 0
        · rw [if_pos q0, q0]
        · rw [if_neg q0]
  have cp : ∀ x : (Nat → Int32) × (Nat → Int32) × (Nat → Int32) × (Nat → Int32), x = (r39, r40, r41, r42) → ∀ k, (upd x.1 k (r39 k), upd x.2.1 k (r40 k), upd x.2.2.1 k (r41 k), upd x.2.2.2 k (r42 k)) = (r39, r40, r41, r42) := fun x hx k => by
    subst hx
    have u : ∀ f : Nat → Int32, upd f k (f k) = f := fun f => by
      funext j
      unfold upd
      by_cases q : j = k
      · rw [if_pos q, q]
      · rw [if_neg q]
    rw [u, u, u, u]
  have c44 : jj_fo (fun k1 (a1 : (Nat → Int32) × (Nat → Int32) × (Nat → Int32) × (Nat → Int32)) => ((upd a1.1 (k1) (r39 k1)), (upd a1.2.1 (k1) (r40 k1)), (upd a1.2.2.1 (k1) (r41 k1)), (upd a1.2.2.2 (k1) (r42 k1)))) 8 (r39, r40, r41, r42) = (r39, r40, r41, r42) := fo_inv (P := fun _ a => a = (r39, r40, r41, r42)) 8 _ rfl (fun k a _ ih => cp a ih k)
  have e44 : rX6_copyFrom_44 r38 r39 r40 r41 r42 r38 r39 r40 r41 r42 = r39 := congrArg (fun x => x.1) c44
  have e45 : rX6_copyFrom_45 r38 r39 r40 r41 r42 r38 r39 r40 r41 r42 = r40 := congrArg (fun x => x.2.1) c44
  have e46 : rX6_copyFrom_46 r38 r39 r40 r41 r42 r38 r39 r40 r41 r42 = r41 := congrArg (fun x => x.2.2.1) c44
  have e47 : rX6_copyFrom_47 r38 r39 r40 r41 r42 r38 r39 r40 r41 r42 = r42 := congrArg (fun x => x.2.2.2) c44
  rw [c38, e44, e45, e46, e47]
  unfold rX3_tieLace_n_39 dD vX3_wouldTie_n
  by_cases c1 : vX6_mayTie_n r38 r40 (nI a) (nI b) = 0
  · rw [if_pos c1, if_pos c1, if_pos rfl]
    by_cases q : p = b
    · rw [if_pos q, q]
    · rw [if_neg q]
  · rw [if_neg c1, if_neg c1, cl_ (show b < 8 by omega)]
    by_cases c2 : vX3_holdOf_n r2 r3 r6 r8 r38 r39 r41 m (nI a) (nI b) 0 < 10
    · rw [if_pos c2, if_pos rfl, if_neg (Int32.not_le.mpr c2)]
      by_cases q : p = b
      · rw [if_pos q, q]
      · rw [if_neg q]
    · rw [if_neg c2, if_neg one0, if_pos (Int32.not_lt.mp c2)]
      by_cases q : p = b
      · rw [jj_ueq q, if_pos q]
      · rw [jj_une q, if_neg q]
theorem so_is (h : nr r38 r39 r40 r41 r42 r) (hk : nok B r38 r39 r40 r42) (hs : srl n r2 r3 r4 r5 r6 r73 g64) (hn : n ≤ 8) (ha : a < n) (hb : b < n) (hL : bok n L) (hg : ∀ i z, L[i]? = some z → g397 i 0 = nI z.1 ∧ g397 i 1 = nI z.2) : vX10_isSo r8 r73 r r498 g64 g397 m L.length (nI a) (nI b) = if dRb (dD r2 r3 r6 r8 r38 r39 r40 r41 m a b) L = true then 1 else 0 := by
  have dec : ∀ k : Nat, Decidable (∃ z, L[k]? = some z ∧ dD r2 r3 r6 r8 r38 r39 r40 r41 m a b z.1 = nI z.2) := fun k => Classical.propDecidable _
  have hF : ∀ k, k < L.length → fX10_isSo_1 r8 r73 r r498 g64 g397 m (nI a) (nI b) k () = if (∃ z, L[k]? = some z ∧ dD r2 r3 r6 r8 r38 r39 r40 r41 m a b z.1 = nI z.2) then .inl () else .inr 0 := fun k hk2 => by
    have hz : L[k]? = some L[k] := List.getElem?_eq_getElem hk2
    have hz2 := hg k _ hz
    have hz3 := (hL.1 _ _ (hL.2.2 k _ hz)).1
    unfold fX10_isSo_1
    rw [hz2.1, hz2.2, c0_ (by omega), so_dD h hk hs hn ha hb (by omega)]
    by_cases c : dD r2 r3 r6 r8 r38 r39 r40 r41 m a b L[k].1 = nI L[k].2
    · rw [if_pos c, if_pos ⟨_, hz, c⟩]
    · rw [if_neg c, if_neg (fun q => by
        obtain ⟨z, y1, y2⟩ := q
        rw [hz] at y1
        cases y1
        exact c y2)]
  unfold vX10_isSo
  by_cases c : dRb (dD r2 r3 r6 r8 r38 r39 r40 r41 m a b) L = true
  · rw [if_pos c, all_1 (c := 0) L.length (P := fun k => ∃ z, L[k]? = some z ∧ dD r2 r3 r6 r8 r38 r39 r40 r41 m a b z.1 = nI z.2) (fun k hk2 => by rw [hF k hk2]) (fun k hk2 => ⟨_, List.getElem?_eq_getElem hk2, dRb_1 c (List.getElem?_eq_getElem hk2)⟩)]
    rfl
  · obtain ⟨i, z, hi, no⟩ := dRb_0 c
    have hi2 := (List.getElem?_eq_some_iff.mp hi).1
    rw [if_neg c, all_0 (c := 0) (k := i) (P := fun k => ∃ z, L[k]? = some z ∧ dD r2 r3 r6 r8 r38 r39 r40 r41 m a b z.1 = nI z.2) (fun q => by
      obtain ⟨y, y1, y2⟩ := q
      rw [hi] at y1
      cases y1
      exact no y2) L.length (fun k hk2 => by rw [hF k hk2]) hi2]
    rfl
theorem line_is (h2 : r25 2 = nI L.length) (hL : bok n L) (hr : 0 < L.length → ∀ p, p < 8 → r26 p = bk L p) (hp : p < 8) : vX0_hasLine r25 r26 (nI p) = if (L.lookup p).isSome = true then 1 else 0 := by
  unfold vX0_hasLine
  have l8 := bok_8 hL
  rw [h2, cl_ hp]
  rcases Nat.eq_zero_or_pos L.length with z | z
  · have : L = [] := List.eq_nil_of_length_eq_zero z
    subst this
    rw [if_pos (show nI ([] : bL_).length ≤ 0 by decide), if_neg (show ¬ (([] : bL_).lookup p).isSome = true by intro z; cases z)]
  · rw [if_neg (nI_nle z (by omega)), hr z p hp]
    by_cases c : (L.lookup p).isSome = true
    · rw [if_neg (bk_ne hL c), if_pos c]
    · rw [if_neg c, if_pos (bk_none (isS_none c))]
theorem right_is {i : Nat} (hi : i = a * 8 + b) (hn : n ≤ 8) (ha : a < n) (hb : b < n) (h2 : r25 2 = nI L.length) (hL : bok n L) (hr : 0 < L.length → ∀ p, p < 8 → r26 p = bk L p) {D : Nat → Int32} (h9 : r29 i = D b) (hD : ∀ p, p < 8 → ¬ p = b → D p = r39 p) : vX0_isRight r25 r26 r29 r39 n (nI i) = if dRb D L = true then 1 else 0 := by
  have db : ∀ k, k < 8 → vX0_dayBehind r29 r39 (nI i) (nI k) = D k := fun k hk => by
    unfold vX0_dayBehind
    rw [show (nI i - nI i / 8 * 8 : Int32) = nI (i % 8) from pk_rem (d := 8) (by omega) (by decide) (by decide), show i % 8 = b by omega, cl_ hk, nI_clamp (by omega)]
    by_cases e : b = k
    · rw [if_pos (by rw [e]), h9, e]
    · rw [if_neg (fun q => e ((nI_eq (by omega) (by omega)).mp q)), hD k hk (fun q => e q.symm)]
  have dec : ∀ k, Decidable (∀ v, L.lookup k = some v → D k = nI v) := fun k => Classical.propDecidable _
  have hF : ∀ k, k < n → fX0_isRight_1 r25 r26 r29 r39 (nI i) k () = if (∀ v, L.lookup k = some v → D k = nI v) then .inl () else .inr 0 := fun k hk => by
    unfold fX0_isRight_1
    rw [line_is h2 hL hr (show k < 8 by omega), db k (by omega)]
    by_cases q : (L.lookup k).isSome = true
    · obtain ⟨v, hv⟩ := Option.isSome_iff_exists.mp q
      have z : 0 < L.length := by
        rcases Nat.eq_zero_or_pos L.length with z | z
        · have : L = [] := List.eq_nil_of_length_eq_zero z
          subst this
          cases hv
        · exact z
      rw [if_pos q, if_neg one0, hr z k (by omega), bk_some hv]
      by_cases e : nI v = D k
      · rw [if_pos e, if_pos (fun w hw => by rw [hv] at hw; cases hw; exact e.symm)]
      · rw [if_neg e, if_neg (fun y => e (y v hv).symm)]
    · rw [if_neg q, if_pos rfl, if_pos (fun v z => by rw [isS_none q] at z; cases z)]
  unfold vX0_isRight
  by_cases c : dRb D L = true
  · rw [if_pos c, all_1 (c := 0) n (P := fun k => ∀ v, L.lookup k = some v → D k = nI v) (fun k hk2 => by rw [hF k hk2]) (fun k hk2 v hv => by
      obtain ⟨j, hj⟩ := lk_ex hv
      exact dRb_1 c hj)]
    rfl
  · obtain ⟨j, z, hj, no⟩ := dRb_0 c
    have lk := hL.2.2 j z hj
    rw [if_neg c, all_0 (c := 0) (k := z.1) (P := fun k => ∀ v, L.lookup k = some v → D k = nI v) (fun q => no (q z.2 lk)) n (fun k hk2 => by rw [hF k hk2]) (hL.1 _ _ lk).1]
    rfl
end
/-- the pairs that were weighed -/
def wgP (Rt : Nat → Nat → Bool) (D : Nat → Nat → Int32) (r25 : Nat → Int32) (n k1 k2 : Nat) (a : (Nat → Int32) × (Nat → Int32) × (Nat → Int32)) (b1 b2 : Int32) : Prop := (∀ i, ¬ i = 8 → ¬ i = 9 → a.1 i = r25 i) ∧ (∀ x y, x < n → y < n → (x < k1 ∨ (x = k1 ∧ y < k2)) → a.2.1 (x * 8 + y) = (if Rt x y = true then 1 else 0) ∧ a.2.2 (x * 8 + y) = D x y) ∧ a.1 8 = b1 ∧ a.1 9 = b2 ∧ ∃ c, b1 = nI c ∧ c ≤ 8 * k1 + k2 ∧ (c = 0 → b2 = -1) ∧ (0 < c → ¬ b2 = -1)
theorem wg_gen {Rt : Nat → Nat → Bool} {D : Nat → Nat → Int32} {r25 : Nat → Int32} {n k1 k2 : Nat} {a : (Nat → Int32) × (Nat → Int32) × (Nat → Int32)} {b1 b2 V d : Int32} (hn : n ≤ 8) (h1 : k1 < n) (h2 : k2 < n) (h : wgP Rt D r25 n k1 k2 a b1 b2) (hd : d = D k1 k2) (hV : V = if Rt k1 k2 = true then 1 else 0) :
    wgP Rt D r25 n k1 (k2 + 1) (if (upd a.2.1 (k1 * 8 + k2) V) (k1 * 8 + k2) = 0 then (a.1, (upd a.2.1 (k1 * 8 + k2) V), (upd a.2.2 (k1 * 8 + k2) d)) else (if ((upd a.1 (8) ((a.1 8) + 1)) 9) = (-1) then ((upd (upd a.1 (8) ((a.1 8) + 1)) (9) (nI ((10 * k1) + k2))), (upd a.2.1 (k1 * 8 + k2) V), (upd a.2.2 (k1 * 8 + k2) d)) else ((upd (upd a.1 (8) ((a.1 8) + 1)) (9) ((upd a.1 (8) ((a.1 8) + 1)) 9)), (upd a.2.1 (k1 * 8 + k2) V), (upd a.2.2 (k1 * 8 + k2) d))))
      (if Rt k1 k2 = true then b1 + 1 else b1) (if Rt k1 k2 = true then (if b1 = 0 then nI (10 * k1 + k2) else b2) else b2) := by
  obtain ⟨p1, p2, p3, p4, c, c1, c2, c3, c4⟩ := h
  have rows : ∀ x y, x < n → y < n → (x < k1 ∨ (x = k1 ∧ y < k2 + 1)) → upd a.2.1 (k1 * 8 + k2) V (x * 8 + y) = (if Rt x y = true then 1 else 0) ∧ upd a.2.2 (k1 * 8 + k2) d (x * 8 + y) = D x y := fun x y hx hy hl => by
    by_cases e : x = k1 ∧ y = k2
    · obtain ⟨rfl, rfl⟩ := e
      rw [jj_ueq rfl, jj_ueq rfl]
      exact ⟨hV, hd⟩
    · rw [jj_une (by omega), jj_une (by omega)]
      exact p2 x y hx hy (by omega)
  rw [jj_ueq rfl]
  by_cases q : Rt k1 k2 = true
  · rw [if_neg (show ¬ V = 0 by rw [hV, if_pos q]; exact one0)]
    simp only [if_pos q]
    rw [jj_une (show ¬ 9 = 8 by decide), p4]
    rcases Nat.eq_zero_or_pos c with z | z
    · rw [if_pos (c3 z), if_pos (by rw [c1, z]; rfl)]
      exact ⟨fun i i8 i9 => (jj_une i9).trans ((jj_une i8).trans (p1 i i8 i9)), rows, by show a.1 8 + 1 = _; rw [p3], rfl, c + 1, by rw [c1, nI_1], by omega, fun y => absurd y (by omega), fun _ => nI_ne1 (by omega)⟩
    · rw [if_neg (c4 z), if_neg (by rw [c1]; exact nI_ne0 z (by omega))]
      exact ⟨fun i i8 i9 => (jj_une i9).trans ((jj_une i8).trans (p1 i i8 i9)), rows, by show a.1 8 + 1 = _; rw [p3], rfl, c + 1, by rw [c1, nI_1], by omega, fun y => absurd y (by omega), fun _ => c4 z⟩
  · rw [if_pos (show V = 0 by rw [hV, if_neg q])]
    simp only [if_neg q]
    exact ⟨p1, rows, p3, p4, c, c1, by omega, c3, c4⟩
section
variable {r2 r3 r4 r5 r6 r8 r25 r26 r28 r29 r38 r39 r40 r41 r42 r73 r r498 : Nat → Int32} {g64 g397 : Nat → Nat → Int32} {n m B : Nat} {L : bL_}
theorem wg_2 (h : nr r38 r39 r40 r41 r42 r) (hk : nok B r38 r39 r40 r42) (hs : srl n r2 r3 r4 r5 r6 r73 g64) (hn : n ≤ 8) (hL : bok n L) (hg : ∀ i z, L[i]? = some z → g397 i 0 = nI z.1 ∧ g397 i 1 = nI z.2) (h2 : r25 2 = nI L.length) (hr : 0 < L.length → ∀ p, p < 8 → r26 p = bk L p) {k1 k2 : Nat} (hk1 : k1 < n) (hk2 : k2 < n) {a : (Nat → Int32) × (Nat → Int32) × (Nat → Int32)} {b : Int32 × Int32 × (Nat → Int32)} (ih : wgP (fun x y => dRb (dD r2 r3 r6 r8 r38 r39 r40 r41 m x y) L) (fun x y => dD r2 r3 r6 r8 r38 r39 r40 r41 m x y y) r25 n k1 k2 a b.1 b.2.1) : wgP (fun x y => dRb (dD r2 r3 r6 r8 r38 r39 r40 r41 m x y) L) (fun x y => dD r2 r3 r6 r8 r38 r39 r40 r41 m x y y) r25 n k1 (k2 + 1) (fX0_weigh_2 r2 r3 r6 r8 r26 r38 r39 r40 r41 n m k1 k2 a) (fX10_fits_2 r8 r73 r g64 g397 m L.length k1 k2 b).1 (fX10_fits_2 r8 r73 r g64 g397 m L.length k1 k2 b).2.1 := by
  have b25 : a.1 2 = nI L.length := (ih.1 2 (by decide) (by decide)).trans h2
  have nar : ∀ x : Bool, vp_nar .boolean (if x = true then (1 : Int32) else 0) = if x = true then 1 else 0 := by decide
  have main : ∀ d, d = dD r2 r3 r6 r8 r38 r39 r40 r41 m k1 k2 k2 → vp_nar .boolean (vX0_isRight a.1 r26 (upd a.2.2 (k1 * 8 + k2) d) r39 n (nI (k1 * 8 + k2))) = if dRb (dD r2 r3 r6 r8 r38 r39 r40 r41 m k1 k2) L = true then 1 else 0 := fun d hd => by
    rw [right_is (a := k1) (b := k2) rfl hn hk1 hk2 b25 hL hr (D := dD r2 r3 r6 r8 r38 r39 r40 r41 m k1 k2) ((jj_ueq rfl).trans hd) (fun p _ e => by unfold dD; rw [if_neg e]), nar]
  have e1 : (fX10_fits_2 r8 r73 r g64 g397 m L.length k1 k2 b).1 = (if dRb (dD r2 r3 r6 r8 r38 r39 r40 r41 m k1 k2) L = true then b.1 + 1 else b.1) ∧ (fX10_fits_2 r8 r73 r g64 g397 m L.length k1 k2 b).2.1 = (if dRb (dD r2 r3 r6 r8 r38 r39 r40 r41 m k1 k2) L = true then (if b.1 = 0 then nI (10 * k1 + k2) else b.2.1) else b.2.1) := by
    unfold fX10_fits_2
    rw [so_is h hk hs hn hk1 hk2 hL hg]
    by_cases c : dRb (dD r2 r3 r6 r8 r38 r39 r40 r41 m k1 k2) L = true
    · simp only [if_pos c, if_neg one0]
      by_cases z : b.1 = 0
      · simp only [if_pos z]
        exact ⟨trivial, by rw [show (10 : Int32) * nI k1 = nI (10 * k1) from pk_mul 10 k1, nI_add]⟩
      · simp only [if_neg z]; exact ⟨trivial, trivial⟩
    · simp only [if_neg c, if_true]; exact ⟨trivial, trivial⟩
  rw [e1.1, e1.2]
  unfold fX0_weigh_2
  rw [nI_clamp (show k1 * 8 + k2 < 2 ^ 31 by omega)]
  by_cases c : vX3_wouldTie_n r2 r3 r6 r8 r38 r39 r40 r41 m (nI k1) (nI k2) = 0
  · rw [if_pos c]
    have hd : r39 k2 = dD r2 r3 r6 r8 r38 r39 r40 r41 m k1 k2 k2 := by unfold dD; rw [if_pos rfl, if_pos c]
    exact wg_gen hn hk1 hk2 ih hd (main _ hd)
  · rw [if_neg c]
    have hd : vX3_dayBy_n r38 r39 (nI k1) (nI k2) = dD r2 r3 r6 r8 r38 r39 r40 r41 m k1 k2 k2 := by unfold dD; rw [if_pos rfl, if_neg c]
    exact wg_gen hn hk1 hk2 ih hd (main _ hd)
theorem wg_all (h : nr r38 r39 r40 r41 r42 r) (hk : nok B r38 r39 r40 r42) (hs : srl n r2 r3 r4 r5 r6 r73 g64) (hn : n ≤ 8) (hL : bok n L) (hg : ∀ i z, L[i]? = some z → g397 i 0 = nI z.1 ∧ g397 i 1 = nI z.2) (h2 : r25 2 = nI L.length) (hr : 0 < L.length → ∀ p, p < 8 → r26 p = bk L p) : wgP (fun x y => dRb (dD r2 r3 r6 r8 r38 r39 r40 r41 m x y) L) (fun x y => dD r2 r3 r6 r8 r38 r39 r40 r41 m x y y) r25 n n 0 (rX0_weigh_25 r2 r3 r6 r8 r25 r26 r28 r29 r38 r39 r40 r41 n m, rX0_weigh_28 r2 r3 r6 r8 r25 r26 r28 r29 r38 r39 r40 r41 n m, rX0_weigh_29 r2 r3 r6 r8 r25 r26 r28 r29 r38 r39 r40 r41 n m) (jj_fo (fX10_fits_1 r8 r73 r g64 g397 n m L.length) n (0, (-1), r498)).1 (jj_fo (fX10_fits_1 r8 r73 r g64 g397 n m L.length) n (0, (-1), r498)).2.1 :=
  fo_rel (R := fun k (a : (Nat → Int32) × (Nat → Int32) × (Nat → Int32)) (b : Int32 × Int32 × (Nat → Int32)) => wgP (fun x y => dRb (dD r2 r3 r6 r8 r38 r39 r40 r41 m x y) L) (fun x y => dD r2 r3 r6 r8 r38 r39 r40 r41 m x y y) r25 n k 0 a b.1 b.2.1) (f := fX0_weigh_1 r2 r3 r6 r8 r26 r38 r39 r40 r41 n m) (g := fX10_fits_1 r8 r73 r g64 g397 n m L.length) n ((upd (upd r25 (8) 0) (9) (-1)), r28, r29) (0, (-1), r498) ⟨fun i i8 i9 => (jj_une i9).trans (jj_une i8), fun x y _ _ z => absurd z (by omega), rfl, rfl, 0, rfl, Nat.le_refl _, fun _ => rfl, fun z => absurd z (by decide)⟩ (fun k a b hk1 ih => by
    have key := fo_rel (R := fun k2 (a : (Nat → Int32) × (Nat → Int32) × (Nat → Int32)) (b : Int32 × Int32 × (Nat → Int32)) => wgP (fun x y => dRb (dD r2 r3 r6 r8 r38 r39 r40 r41 m x y) L) (fun x y => dD r2 r3 r6 r8 r38 r39 r40 r41 m x y y) r25 n k k2 a b.1 b.2.1) (f := fX0_weigh_2 r2 r3 r6 r8 r26 r38 r39 r40 r41 n m k) (g := fX10_fits_2 r8 r73 r g64 g397 m L.length k) n (a.1, a.2.1, a.2.2) (b.1, b.2.1, b.2.2) ih (fun k2 a b hk2 ih => wg_2 h hk hs hn hL hg h2 hr hk1 hk2 ih)
    obtain ⟨p1, p2, p3, p4, c, c1, c2, c3, c4⟩ := key
    exact ⟨p1, fun x y hx hy z => p2 x y hx hy (by omega), p3, p4, c, c1, by omega, c3, c4⟩)
end
theorem iv_g {c : Nat → Nat} {T n m u t : Nat} {L : bL_} {h : hp_} (I : IV c T n m u t L h) : ∀ i z, L[i]? = some z → jj_gd h 397 8 i 0 = nI z.1 ∧ jj_gd h 397 8 i 1 = nI z.2 := fun i z hi => by
  have hi2 := (List.getElem?_eq_some_iff.mp hi).1
  have := bok_8 I.2.2.2.2.2.1.2.2.1
  rw [← jj_gd_at (by omega)]
  exact I.2.2.2.2.2.1.2.2.2.2 i z hi
theorem q_fits {c : Nat → Nat} {T n m u t : Nat} {L : bL_} {h : hp_} (I : IV c T n m u t L h) (w : Int32) : res 1 (vX9_fits (h 0) (h 2) (h 3) (h 6) (h 8) (h 25) (h 26) (h 28) (h 29) (h 38) (h 39) (h 40) (h 41) n m w) (h 0) (rX9_fits_0 (h 0) (h 2) (h 3) (h 6) (h 8) (h 25) (h 26) (h 28) (h 29) (h 38) (h 39) (h 40) (h 41) n m w) ((rX10_fits_49 (h 8) (h 49) (h 51) (h 73) (h 497) (h 498) (jj_gd h 64 8) (jj_gd h 397 8) n m L.length w) 0) (.int (vX10_fits (h 8) (h 49) (h 51) (h 73) (h 497) (h 498) (jj_gd h 64 8) (jj_gd h 397 8) n m L.length w)) (h 51) (rX10_fits_51 (h 8) (h 49) (h 51) (h 73) (h 497) (h 498) (jj_gd h 64 8) (jj_gd h 397 8) n m L.length w) ∧ rX9_fits_25 (h 0) (h 2) (h 3) (h 6) (h 8) (h 25) (h 26) (h 28) (h 29) (h 38) (h 39) (h 40) (h 41) n m w 2 = h 25 2 := by
  have hn := iv_8 I
  have E := wg_all (m := m) (r8 := h 8) (r28 := h 28) (r29 := h 29) (r498 := h 498) (iv_n I) (iv_k I) (iv_s I) hn I.2.2.2.2.2.1.2.2.1 (iv_g I) I.2.2.2.2.2.1.1 I.2.2.2.2.2.1.2.2.2.1
  constructor
  · unfold vX9_fits rX9_fits_0 vX10_fits rX10_fits_49 rX10_fits_51
    simp only [in_if, e_bit]
    refine res_if (fun _ => (Or.inr (Or.inr ⟨rfl, rfl, rfl, rfl⟩))) (fun c1 => ?_)
    refine res_if (fun _ => (Or.inr (Or.inr ⟨rfl, rfl, rfl, rfl⟩))) (fun c2 => ?_)
    refine res_ok ?_ rfl
    refine ok_if (fun _ => E.2.2.1) (fun _ => ok_e E.2.2.2.1)
  · unfold rX9_fits_25
    split
    · rfl
    · exact E.1 2 (by decide) (by decide)
