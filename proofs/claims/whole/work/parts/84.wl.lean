/-! ===== what a WORK that was read is like ===== -/
def smp (n row : Nat) (z : wE_) : Prop := (∃ k a b, z = (k, some a, some b, some (row + 1)) ∧ k < 2 ∧ a < n ∧ b < n) ∨ (∃ k a, z = (k, some a, none, some (row + 1)) ∧ 2 ≤ k ∧ k < 5 ∧ a < n) ∨ z = (5, none, none, some (row + 1))
def wl (n : Nat) : Nat → Nat → Nat → List wE_ → Prop
  | 0, _, _, W => W = []
  | f + 1, lev, row, W => W = [] ∨ (∃ z V, W = z :: V ∧ smp n row z ∧ wl n f lev (row + 1) V) ∨ ∃ q l B V, lev = l + 1 ∧ q ≤ 60 ∧ W = (6, some q, none, some (row + 1 + B.length)) :: (B ++ V) ∧ wl n f l (row + 1) B ∧ wl n f lev (row + 1 + B.length) V
theorem wl_nil {n lev row : Nat} : ∀ f, wl n f lev row []
  | 0 => rfl
  | _ + 1 => Or.inl rfl
theorem wl_mo {n : Nat} : ∀ {f f2 lev row : Nat} {W : List wE_}, f ≤ f2 → wl n f lev row W → wl n f2 lev row W
  | 0, f2, lev, row, W, _, h => by
    have h : W = [] := h
    subst h
    exact wl_nil f2
  | f + 1, 0, lev, row, W, hf, h => absurd hf (by omega)
  | f + 1, f2 + 1, lev, row, W, hf, h => by
    rcases h with h | ⟨z, V, h1, h2, h3⟩ | ⟨q, l, B, V, h0, h1, h2, h3, h4⟩
    · exact Or.inl h
    · exact Or.inr (Or.inl ⟨z, V, h1, h2, wl_mo (by omega) h3⟩)
    · exact Or.inr (Or.inr ⟨q, l, B, V, h0, h1, h2, wl_mo (by omega) h3, wl_mo (by omega) h4⟩)
theorem wl_app {n : Nat} : ∀ {f f2 lev row : Nat} {A B : List wE_}, wl n f lev row A → wl n f2 lev (row + A.length) B → wl n (f + f2) lev row (A ++ B)
  | 0, f2, lev, row, A, B, h, h2 => by
    have h : A = [] := h
    subst h
    rw [Nat.zero_add]
    exact h2
  | f + 1, f2, lev, row, A, B, h, h2 => by
    rw [show f + 1 + f2 = (f + f2) + 1 by omega]
    rcases h with h | ⟨z, V, h1, hs, h3⟩ | ⟨q, l, C, V, h0, h1, hw, h3, h4⟩
    · subst h
      exact wl_mo (by omega) h2
    · subst h1
      refine Or.inr (Or.inl ⟨z, V ++ B, rfl, hs, wl_app h3 ?_⟩)
      have e : row + 1 + V.length = row + (z :: V).length := by rw [List.length_cons]; omega
      rw [e]
      exact h2
    · subst hw
      refine Or.inr (Or.inr ⟨q, l, C, V ++ B, h0, h1, by rw [List.cons_append, List.append_assoc], wl_mo (by omega) h3, wl_app h4 ?_⟩)
      have e : row + 1 + C.length + V.length = row + (((6, some q, none, some (row + 1 + C.length)) : wE_) :: (C ++ V)).length := by rw [List.length_cons, List.length_append]; omega
      rw [e]
      exact h2
def wlx (n lev row : Nat) (W : List wE_) : Prop := ∃ f, wl n f lev row W
theorem wlx_nil {n lev row : Nat} : wlx n lev row [] := ⟨0, rfl⟩
theorem wlx_one {n lev row : Nat} {z : wE_} (h : smp n row z) : wlx n lev row [z] := ⟨1, Or.inr (Or.inl ⟨z, [], rfl, h, rfl⟩)⟩
theorem wlx_app {n lev row : Nat} {A B : List wE_} (h1 : wlx n lev row A) (h2 : wlx n lev (row + A.length) B) : wlx n lev row (A ++ B) := by
  obtain ⟨f, h1⟩ := h1
  obtain ⟨f2, h2⟩ := h2
  exact ⟨f + f2, wl_app h1 h2⟩
theorem wlx_blk {n l row q : Nat} {B : List wE_} (hq : q ≤ 60) (h : wlx n l (row + 1) B) : wlx n (l + 1) row ((6, some q, none, some (row + 1 + B.length)) :: B) := by
  obtain ⟨f, h⟩ := h
  exact ⟨f + 1, Or.inr (Or.inr ⟨q, l, B, [], rfl, hq, by rw [List.append_nil], h, wl_nil f⟩)⟩
theorem pnum_v {c : Nat → Nat} {e lim a : Nat} {z : Nat × Nat} (h : pnum c e lim a = .ok z) : z.1 < lim := by
  unfold pnum at h
  by_cases k : kd c e a = 1
  · rw [if_pos k] at h
    by_cases v : vl c e a < lim
    · rw [if_pos v] at h; cases h; exact v
    · rw [if_neg v] at h; cases h
  · rw [if_neg k] at h; cases h
theorem pstep_wl {S : Option (Nat → Nat → pW_)} {c : Nat → Nat} {e n lev : Nat} (hS : ∀ s, S = some s → ∃ l, lev = l + 1 ∧ ∀ row a L b, s row a = .ok (L, b) → wlx n l row L) (row a : Nat) (L : List wE_) (b : Nat) (h : pstep S c e n row a = .ok (L, b)) : wlx n lev row L := by
  have two : ∀ k, k < 2 → ptwo c e n k row a = .ok (L, b) → wlx n lev row L := by
    intro k hk h
    unfold ptwo at h
    obtain ⟨z, h1, h⟩ := pb_inv h
    obtain ⟨z2, h2, h⟩ := pb_inv h
    obtain ⟨z3, h3, h⟩ := pb_inv h
    cases h
    exact wlx_one (Or.inl ⟨k, z.1, z2.1, rfl, hk, pnum_v h1, pnum_v h2⟩)
  have sgl : ∀ k, 2 ≤ k → k < 5 → psgl c e n k row a = .ok (L, b) → wlx n lev row L := by
    intro k hk hk5 h
    unfold psgl at h
    obtain ⟨z, h1, h⟩ := pb_inv h
    obtain ⟨z3, h3, h⟩ := pb_inv h
    cases h
    exact wlx_one (Or.inr (Or.inl ⟨k, z.1, rfl, hk, hk5, pnum_v h1⟩))
  rcases sk_cs c e a with q | q | q | q | q | q | q | q
  · unfold pstep at h
    rw [q, if_neg (by decide), if_neg (by decide), if_neg (by decide), if_neg (by decide), if_neg (by decide), if_neg (by decide), if_neg (by decide)] at h
    cases h
  · unfold pstep at h; rw [q, if_pos rfl] at h; exact two _ (by decide) h
  · unfold pstep at h; rw [q, if_neg (by decide), if_pos rfl] at h; exact two _ (by decide) h
  · unfold pstep at h; rw [q, if_neg (by decide), if_neg (by decide), if_pos rfl] at h; exact sgl _ (by decide) (by decide) h
  · unfold pstep at h; rw [q, if_neg (by decide), if_neg (by decide), if_neg (by decide), if_pos rfl] at h; exact sgl _ (by decide) (by decide) h
  · unfold pstep at h; rw [q, if_neg (by decide), if_neg (by decide), if_neg (by decide), if_neg (by decide), if_pos rfl] at h; exact sgl _ (by decide) (by decide) h
  · unfold pstep at h; rw [q, if_neg (by decide), if_neg (by decide), if_neg (by decide), if_neg (by decide), if_neg (by decide), if_pos rfl] at h
    obtain ⟨z, h1, h⟩ := pb_inv h
    cases h
    exact wlx_one (Or.inr (Or.inr rfl))
  · unfold pstep at h; rw [q, if_neg (by decide), if_neg (by decide), if_neg (by decide), if_neg (by decide), if_neg (by decide), if_neg (by decide), if_pos rfl] at h
    cases S with
    | none => rw [pa_none] at h; cases h
    | some s =>
      rw [pa_some] at h
      obtain ⟨z1, h1, h⟩ := pb_inv h
      obtain ⟨z2, h2, h⟩ := pb_inv h
      obtain ⟨z3, h3, h⟩ := pb_inv h
      obtain ⟨z4, h4, h⟩ := pb_inv h
      obtain ⟨z5, h5, h⟩ := pb_inv h
      cases h
      obtain ⟨l, rfl, hl⟩ := hS s rfl
      have hq := pnum_v h1
      exact wlx_blk (by omega) (hl _ _ _ _ (show s (row + 1) z2 = .ok (z3.1, z3.2) from h3))
theorem plw_wl {P : Nat → Nat → pW_} {c : Nat → Nat} {e n lev row : Nat} (hP : ∀ row a L b, P row a = .ok (L, b) → wlx n lev row L) : ∀ f F a L b, wlx n lev row F → plw P c e row f F a = .ok (L, b) → wlx n lev row L
  | 0, F, a, L, b, hF, h => by cases h; exact hF
  | f + 1, F, a, L, b, hF, h => by
    by_cases k : kd c e a = 2
    · rw [plw_s k] at h
      obtain ⟨z, h1, h⟩ := pb_inv h
      exact plw_wl hP f _ _ _ _ (wlx_app hF (hP _ _ _ _ (show P (row + F.length) a = .ok (z.1, z.2) from h1))) h
    · rw [plw_0 k] at h; cases h; exact hF
theorem pS_wl {c : Nat → Nat} {e n : Nat} : ∀ l s, pS_ c e n l = some s → ∃ k, l = k + 1 ∧ ∀ row a L b, s row a = .ok (L, b) → wlx n k row L
  | 0, s, h => by cases h
  | l + 1, s, h => by
    cases h
    refine ⟨l, rfl, fun row a L b h => ?_⟩
    rw [pstps_eq] at h
    exact plw_wl (pstep_wl (pS_wl l)) _ _ _ _ _ wlx_nil h
theorem pwork_wl {c : Nat → Nat} {e n : Nat} {L : List wE_} (h : pwork c e n = .ok L) : wlx n 6 0 L := by
  unfold pwork at h
  obtain ⟨z, h1, h⟩ := pb_inv h
  by_cases q : e ≤ z.2
  · rw [if_pos q] at h
    cases h
    rw [pstps_eq] at h1
    exact plw_wl (pstep_wl (pS_wl 6)) _ _ _ _ _ wlx_nil (show _ = Except.ok (z.1, z.2) from h1)
  · rw [if_neg q] at h; cases h
/-- each row of it; X: the rows by their numbers -/
def wel (n t r : Nat) (X : Nat → Option wE_) : Prop := ∃ z, X r = some z ∧ (smp n r z ∨ ∃ q e, z = (6, some q, none, some e) ∧ q ≤ 60 ∧ r < e ∧ e ≤ t ∧ ∀ j, r < j → j < e → ∃ z2 e2, X j = some z2 ∧ z2.2.2.2 = some e2 ∧ e2 ≤ e)
theorem wel_nx {n t r : Nat} {X : Nat → Option wE_} (h : wel n t r X) (hr : r < t) : ∃ z e, X r = some z ∧ z.2.2.2 = some e ∧ r < e ∧ e ≤ t := by
  obtain ⟨z, h1, (⟨k, a, b, rfl, _⟩ | ⟨k, a, rfl, _⟩ | rfl) | ⟨q, e, rfl, _, h3, h4, _⟩⟩ := h
  · exact ⟨_, r + 1, h1, rfl, by omega, by omega⟩
  · exact ⟨_, r + 1, h1, rfl, by omega, by omega⟩
  · exact ⟨_, r + 1, h1, rfl, by omega, by omega⟩
  · exact ⟨_, e, h1, rfl, h3, h4⟩
theorem wel_mo {n t t2 r : Nat} {X : Nat → Option wE_} (h : wel n t r X) (ht : t ≤ t2) : wel n t2 r X := by
  obtain ⟨z, h1, h2⟩ := h
  refine ⟨z, h1, h2.imp_right (fun h2 => ?_)⟩
  obtain ⟨q, e, a1, a2, a3, a4, a5⟩ := h2
  exact ⟨q, e, a1, a2, a3, by omega, a5⟩
theorem wl_el {n : Nat} {X : Nat → Option wE_} : ∀ {f lev row : Nat} {W : List wE_}, wl n f lev row W → (∀ i, i < W.length → X (row + i) = W[i]?) → ∀ r, row ≤ r → r < row + W.length → wel n (row + W.length) r X
  | 0, lev, row, W, h, hX, r, h1, h2 => by
    have h : W = [] := h
    subst h
    exact absurd h2 (by rw [List.length_nil]; omega)
  | f + 1, lev, row, W, h, hX, r, h1, h2 => by
    rcases h with h | ⟨z, V, hW, hs, h3⟩ | ⟨q, l, B, V, h0, hq, hW, h3, h4⟩
    · subst h
      exact absurd h2 (by rw [List.length_nil]; omega)
    · subst hW
      rw [List.length_cons] at h2 ⊢
      by_cases e : r = row
      · refine ⟨z, ?_, Or.inl (e ▸ hs)⟩
        have := hX 0 (by rw [List.length_cons]; omega)
        rw [e]; exact this
      · have := wl_el h3 (X := X) (fun i hi => by
          have q := hX (i + 1) (by rw [List.length_cons]; omega)
          rw [show row + 1 + i = row + (i + 1) by omega, q, List.getElem?_cons_succ]) r (by omega) (by omega)
        exact wel_mo this (by omega)
    · subst hW
      have hl : (((6, some q, none, some (row + 1 + B.length)) : wE_) :: (B ++ V)).length = B.length + V.length + 1 := by rw [List.length_cons, List.length_append]
      rw [hl] at h2 ⊢
      have hB := wl_el h3 (X := X) (fun i hi => by
        have z := hX (i + 1) (by rw [hl]; omega)
        rw [show row + 1 + i = row + (i + 1) by omega, z, List.getElem?_cons_succ, List.getElem?_append_left hi])
      have hV := wl_el h4 (X := X) (fun i hi => by
        have z := hX (B.length + i + 1) (by rw [hl]; omega)
        rw [show row + 1 + B.length + i = row + (B.length + i + 1) by omega, z, List.getElem?_cons_succ, List.getElem?_append_right (by omega), show B.length + i - B.length = i by omega])
      by_cases e : r = row
      · subst e
        refine ⟨_, hX 0 (by rw [hl]; omega), Or.inr ⟨q, r + 1 + B.length, rfl, hq, by omega, by omega, fun j j1 j2 => ?_⟩⟩
        obtain ⟨z2, e2, x1, x2, x3, x4⟩ := wel_nx (hB j (by omega) (by omega)) (by omega)
        exact ⟨z2, e2, x1, x2, x4⟩
      · by_cases e2 : r < row + 1 + B.length
        · exact wel_mo (hB r (by omega) e2) (by omega)
        · exact wel_mo (hV r (by omega) (by omega)) (by omega)
theorem wlx_el {n lev : Nat} {L : List wE_} (h : wlx n lev 0 L) {r : Nat} (hr : r < L.length) : wel n L.length r (fun i => L[i]?) := by
  obtain ⟨f, h⟩ := h
  have := wl_el h (X := fun i => L[i]?) (fun i hi => by rw [Nat.zero_add]) r (by omega) (by omega)
  rw [Nat.zero_add] at this
  exact this
theorem vp_in8 {a n : Nat} (h : a < n) (hn : n ≤ 8) : vp_in (nI a) 8 := vp_in_nI (by omega) (by decide)
theorem nI_ne6 {k : Nat} (hk : k < 6) : ¬ nI k = 6 := fun q => by
  have : k = 6 := (nI_eq (a := k) (b := 6) (by omega) (by decide)).mp q
  omega
theorem wk_pgok {n lev : Nat} {L : List wE_} {r22 r23 r24 : Nat → Int32} (hn : n ≤ 8) (hL : L.length ≤ 38) (h : wlx n lev 0 L) (hc : ∀ i z, L[i]? = some z → crl z (r22 i) (r23 i) (r24 i)) : pgok L.length r22 r23 r24 := by
  intro r hr
  obtain ⟨z, h1, (⟨k, a, b, rfl, hk, ha, hb⟩ | ⟨k, a, rfl, hk, hk5, ha⟩ | rfl) | ⟨q, e, rfl, hq, h3, h4, _⟩⟩ := wlx_el h hr
  · obtain ⟨c0, c1, c2, _⟩ := hc r _ h1
    refine ⟨⟨fun _ => ?_, fun _ => ?_⟩, fun q => ?_⟩
    · rw [c1 a rfl]; exact vp_in8 ha hn
    · rw [c2 b rfl]; exact vp_in8 hb hn
    · rw [c0] at q; exact absurd q (nI_ne6 (by omega))
  · obtain ⟨c0, c1, _, _⟩ := hc r _ h1
    refine ⟨⟨fun _ => ?_, fun q => ?_⟩, fun q => ?_⟩
    · rw [c1 a rfl]; exact vp_in8 ha hn
    · rw [c0] at q
      rcases q with q | q
      · have : k = 0 := (nI_eq (a := k) (b := 0) (by omega) (by decide)).mp q
        omega
      · have : k = 1 := (nI_eq (a := k) (b := 1) (by omega) (by decide)).mp q
        omega
    · rw [c0] at q; exact absurd q (nI_ne6 (by omega))
  · obtain ⟨c0, _, _, _⟩ := hc r _ h1
    have c0 : r22 r = 5 := c0
    refine ⟨⟨fun q => ?_, fun q => ?_⟩, fun q => ?_⟩ <;> rw [c0] at q <;> exact absurd q (by decide)
  · obtain ⟨c0, c1, _, c3⟩ := hc r _ h1
    have c0 : r22 r = 6 := c0
    refine ⟨⟨fun q => ?_, fun q => ?_⟩, fun _ => ⟨⟨q, c1 q rfl, hq⟩, e, c3 rfl e rfl, h4⟩⟩ <;> rw [c0] at q <;> exact absurd q (by decide)
theorem wk_pmok {n lev : Nat} {L : List wE_} {g : Nat → Nat → Int32} (hn : n ≤ 8) (hL : L.length ≤ 80) (h : wlx n lev 0 L) (hc : ∀ i z, L[i]? = some z → wrl z (g i)) : pmok L.length g ∧ ∀ r, r < L.length → (g r 3).toNatClampNeg ≤ L.length := by
  have hx : ∀ r, r < L.length → ∃ e, g r 3 = nI e ∧ r < e ∧ e ≤ L.length := fun r hr => by
    obtain ⟨z, e, x1, x2, x3, x4⟩ := wel_nx (wlx_el h hr) hr
    exact ⟨e, (hc r z x1).2.2.2 e x2, x3, x4⟩
  refine ⟨fun r hr => ?_, fun r hr => ?_⟩
  · refine ⟨?_, hx r hr, ?_⟩
    · obtain ⟨z, h1, (⟨k, a, b, rfl, hk, ha, hb⟩ | ⟨k, a, rfl, hk, hk5, ha⟩ | rfl) | ⟨q, e, rfl, hq, h3, h4, _⟩⟩ := wlx_el h hr
      · obtain ⟨c0, c1, c2, _⟩ := hc r _ h1
        refine ⟨fun _ => ?_, fun _ => ?_⟩
        · rw [c1 a rfl]; exact vp_in8 ha hn
        · rw [c2 b rfl]; exact vp_in8 hb hn
      · obtain ⟨c0, c1, _, _⟩ := hc r _ h1
        refine ⟨fun _ => ?_, fun q => ?_⟩
        · rw [c1 a rfl]; exact vp_in8 ha hn
        · rw [c0] at q
          rcases q with q | q
          · have : k = 0 := (nI_eq (a := k) (b := 0) (by omega) (by decide)).mp q
            omega
          · have : k = 1 := (nI_eq (a := k) (b := 1) (by omega) (by decide)).mp q
            omega
      · obtain ⟨c0, _, _, _⟩ := hc r _ h1
        have c0 : g r 0 = 5 := c0
        refine ⟨fun q => ?_, fun q => ?_⟩ <;> rw [c0] at q <;> exact absurd q (by decide)
      · obtain ⟨c0, c1, _, c3⟩ := hc r _ h1
        have c0 : g r 0 = 6 := c0
        refine ⟨fun q => ?_, fun q => ?_⟩ <;> rw [c0] at q <;> exact absurd q (by decide)
    · intro g6
      obtain ⟨z, h1, (⟨k, a, b, rfl, hk, ha, hb⟩ | ⟨k, a, rfl, hk, hk5, ha⟩ | rfl) | ⟨q, e, rfl, hq, h3, h4, h5⟩⟩ := wlx_el h hr
      · have c0 := (hc r _ h1).1
        rw [c0] at g6; exact absurd g6 (nI_ne6 (by omega))
      · have c0 := (hc r _ h1).1
        rw [c0] at g6; exact absurd g6 (nI_ne6 (by omega))
      · have c0 : g r 0 = 5 := (hc r _ h1).1
        rw [c0] at g6; exact absurd g6 (by decide)
      · obtain ⟨c0, c1, _, c3⟩ := hc r _ h1
        have c3 : g r 3 = nI e := c3 e rfl
        refine ⟨⟨q, c1 q rfl, hq⟩, fun r2 q1 q2 => ?_⟩
        rw [c3, nI_clamp (by omega)] at q2 ⊢
        obtain ⟨z2, e2, x1, x2, x3⟩ := h5 r2 q1 q2
        rw [(hc r2 z2 x1).2.2.2 e2 x2, nI_clamp (by omega)]
        exact x3
  · obtain ⟨e, e1, _, e3⟩ := hx r hr
    rw [e1, nI_clamp (by omega)]
    exact e3
