/-! ===== texts: characters by their codes, tokens by their places ===== -/
/-- a byte as the class has it -/
def sb (c : Nat) : Int32 := if c < 128 then nI c else nI c - 256
def isB (c : Nat) : Bool := c == 32
def isD (c : Nat) : Bool := decide (48 ≤ c) && decide (c ≤ 57)
def isL (c : Nat) : Bool := decide (97 ≤ c) && decide (c ≤ 122)
theorem sb_B : ∀ c, c < 256 → (decide (sb c = 32) = isB c) := by decide +kernel
theorem sb_D : ∀ c, c < 256 → ((!decide (sb c < 48) && !decide (57 < sb c)) = isD c) := by decide +kernel
theorem sb_L : ∀ c, c < 256 → ((!decide (sb c < 97) && !decide (122 < sb c)) = isL c) := by decide +kernel
theorem sb_n : ∀ c, c < 256 → isD c = true → sb c = nI c := by decide +kernel
def sp (P : Nat → Bool) (c : Nat → Nat) (e : Nat) : Nat → Nat → Nat
  | 0, x => x
  | k + 1, x => if x < e ∧ P (c x) = true then sp P c e k (x + 1) else x
/-- the first place from x on where P doesn't hold, or the end -/
def spn (P : Nat → Bool) (c : Nat → Nat) (e x : Nat) : Nat := sp P c e (e - x) x
theorem sp_all {P : Nat → Bool} {c : Nat → Nat} {e : Nat} : ∀ k x, x ≤ sp P c e k x ∧ (x ≤ e → sp P c e k x ≤ e) ∧ (∀ i, x ≤ i → i < sp P c e k x → P (c i) = true) ∧ (e ≤ x + k → sp P c e k x < e → P (c (sp P c e k x)) = false)
  | 0, x => ⟨Nat.le_refl _, fun h => h, fun i h1 h2 => absurd h2 (by show ¬ i < x; omega), fun h1 h2 => absurd h2 (by show ¬ x < e; omega)⟩
  | k + 1, x => by
    rw [sp]
    by_cases h : x < e ∧ P (c x) = true
    · rw [if_pos h]
      obtain ⟨a1, a2, a3, a4⟩ := sp_all (P := P) (c := c) (e := e) k (x + 1)
      refine ⟨by omega, fun _ => a2 (by omega), fun i h1 h2 => ?_, fun h1 => a4 (by omega)⟩
      by_cases q : i = x
      · rw [q]; exact h.2
      · exact a3 i (by omega) h2
    · rw [if_neg h]
      refine ⟨Nat.le_refl _, fun h => h, fun i h1 h2 => absurd h2 (by omega), fun _ h2 => ?_⟩
      cases q : P (c x) with
      | false => rfl
      | true => exact absurd ⟨h2, q⟩ h
theorem spn_ge {P : Nat → Bool} {c : Nat → Nat} {e x : Nat} : x ≤ spn P c e x := (sp_all _ _).1
theorem spn_le {P : Nat → Bool} {c : Nat → Nat} {e x : Nat} (h : x ≤ e) : spn P c e x ≤ e := (sp_all _ _).2.1 h
theorem spn_in {P : Nat → Bool} {c : Nat → Nat} {e x i : Nat} (h1 : x ≤ i) (h2 : i < spn P c e x) : P (c i) = true := (sp_all _ _).2.2.1 i h1 h2
theorem spn_stop {P : Nat → Bool} {c : Nat → Nat} {e x : Nat} (h : spn P c e x < e) : P (c (spn P c e x)) = false := (sp_all (P := P) (c := c) (e := e) (e - x) x).2.2.2 (by omega) h
/-- a loop over places, its state by the place and the steps -/
theorem lp_row {α : Type} {F : Nat → α → Sum α α} {S : Nat → α} {P : Nat → Bool} {c : Nat → Nat} {e p : Nat} (hpe : p ≤ e) (hF : ∀ k, p + k ≤ e → F k (S k) = if p + k < e ∧ P (c (p + k)) = true then .inl (S (k + 1)) else .inr (S k)) : ∀ k, k ≤ e - p → jj_fx F k (S 0) = if k ≤ spn P c e p - p then .inl (S k) else .inr (S (spn P c e p - p))
  | 0, _ => by rw [if_pos (Nat.zero_le _)]; rfl
  | k + 1, hk => by
    have ih := lp_row hpe hF k (by omega)
    have h1 := spn_ge (P := P) (c := c) (e := e) (x := p)
    have h2 := spn_le (P := P) (c := c) hpe
    show Sum.elim (fun b => F k b) (fun r => .inr r) (jj_fx F k (S 0)) = _
    rw [ih]
    by_cases q : k ≤ spn P c e p - p
    · rw [if_pos q]
      show F k (S k) = _
      rw [hF k (by omega)]
      by_cases q2 : k + 1 ≤ spn P c e p - p
      · rw [if_pos q2, if_pos ⟨by omega, spn_in (e := e) (x := p) (by omega) (by omega)⟩]
      · have e1 : spn P c e p - p = k := by omega
        rw [if_neg q2, e1]
        refine if_neg (fun w => ?_)
        have e2 : p + k = spn P c e p := by omega
        have h3 := spn_stop (P := P) (c := c) (e := e) (x := p) (by omega)
        rw [← e2, w.2] at h3
        exact absurd h3 (by decide)
    · rw [if_neg q, if_neg (by omega)]
      rfl
theorem lp_end {α : Type} {F : Nat → α → Sum α α} {S : Nat → α} {P : Nat → Bool} {c : Nat → Nat} {e p : Nat} (hpe : p ≤ e) (hF : ∀ k, p + k ≤ e → F k (S k) = if p + k < e ∧ P (c (p + k)) = true then .inl (S (k + 1)) else .inr (S k)) : jj_fx F (e - p) (S 0) = .inl (S (spn P c e p - p)) ∨ jj_fx F (e - p) (S 0) = .inr (S (spn P c e p - p)) := by
  have h := lp_row hpe hF (e - p) (Nat.le_refl _)
  have h2 := spn_le (P := P) (c := c) hpe
  by_cases q : e - p ≤ spn P c e p - p
  · rw [if_pos q] at h
    have e1 : e - p = spn P c e p - p := by omega
    rw [← e1]
    exact Or.inl h
  · rw [if_neg q] at h
    exact Or.inr h
/-- the number that k digits from p on tell -/
def nvk (c : Nat → Nat) (p : Nat) : Nat → Nat
  | 0 => 0
  | k + 1 => min 100000 (10 * nvk c p k + (c (p + k) - 48))
theorem nvk_le {c : Nat → Nat} {p : Nat} : ∀ k, nvk c p k ≤ 100000
  | 0 => Nat.zero_le _
  | k + 1 => Nat.min_le_left _ _
/-- the same as the class gathers it: digits behind a number of 100000 or more are passed -/
def wvk (c : Nat → Nat) (p : Nat) : Nat → Nat
  | 0 => 0
  | k + 1 => if wvk c p k < 100000 then min 1000000 (10 * wvk c p k + (c (p + k) - 48)) else 100000
theorem wvk_le {c : Nat → Nat} {p : Nat} : ∀ k, wvk c p k ≤ 1000000
  | 0 => Nat.zero_le _
  | k + 1 => by
    show (if wvk c p k < 100000 then min 1000000 (10 * wvk c p k + (c (p + k) - 48)) else 100000) ≤ 1000000
    by_cases h : wvk c p k < 100000
    · rw [if_pos h]; exact Nat.min_le_left _ _
    · rw [if_neg h]; decide
theorem wvk_nvk {c : Nat → Nat} {p : Nat} : ∀ k, nvk c p k = min 100000 (wvk c p k)
  | 0 => rfl
  | k + 1 => by
    have ih := wvk_nvk (c := c) (p := p) k
    show min 100000 (10 * nvk c p k + (c (p + k) - 48)) = min 100000 (if wvk c p k < 100000 then min 1000000 (10 * wvk c p k + (c (p + k) - 48)) else 100000)
    rw [ih]
    by_cases h : wvk c p k < 100000
    · rw [if_pos h]; omega
    · rw [if_neg h]; omega
def kd (c : Nat → Nat) (e a : Nat) : Nat := if e ≤ a then 0 else if isD (c a) = true then 1 else if isL (c a) = true then 2 else 3
def nx (c : Nat → Nat) (e a : Nat) : Nat := if e ≤ a then a else if isD (c a) = true then spn isD c e a else if isL (c a) = true then spn isL c e a else a + 1
def vl (c : Nat → Nat) (e a : Nat) : Nat := nvk c a (spn isD c e a - a)
def wnl (c : Nat → Nat) (e a : Nat) : Nat := wvk c a (spn isD c e a - a)
theorem wnl_le {c : Nat → Nat} {e a : Nat} : wnl c e a ≤ 1000000 := wvk_le _
theorem vl_wnl {c : Nat → Nat} {e a : Nat} : vl c e a = min 100000 (wnl c e a) := wvk_nvk _
/-- the Reader stands at the token that begins at a -/
def tk (c : Nat → Nat) (e a : Nat) (r : Nat → Int32) : Prop := a ≤ e ∧ r 2 = nI e ∧ r 3 = nI (nx c e a) ∧ r 6 = nI a ∧ r 4 = nI (kd c e a) ∧ (kd c e a = 1 → r 5 = nI (wnl c e a)) ∧ (kd c e a = 3 → r 5 = sb (c a))
def bytesok (r14 : Nat → Int32) (c : Nat → Nat) : Prop := ∀ k, k < 600 → r14 k = sb (c k) ∧ c k < 256
theorem b_at {r14 : Nat → Int32} {c : Nat → Nat} {a : Nat} (hB : bytesok r14 c) (ha : a < 600) : r14 (nI a).toNatClampNeg = sb (c a) := by
  rw [nI_clamp (by omega)]; exact (hB a ha).1
/-- the loops of advance, a step each -/
theorem av_B {r14 : Nat → Int32} {c : Nat → Nat} {e q k : Nat} {z : Nat → Int32} (hB : bytesok r14 c) (he : e ≤ 600) (h2 : z 2 = nI e) (h3 : z 3 = nI q) (hq : q ≤ e) : fX5_advance_1 r14 k z = if q < e ∧ isB (c q) = true then .inl (upd z 3 (nI (q + 1))) else .inr z := by
  unfold fX5_advance_1
  rw [h2, h3]
  by_cases w : q < e
  · rw [if_neg (nI_ge w (by omega)), b_at hB (by omega)]
    have hs := sb_B (c q) (hB q (by omega)).2
    by_cases u : sb (c q) = 32
    · rw [if_pos u, if_pos ⟨w, by rw [← hs]; exact decide_eq_true u⟩, nI_1]
    · rw [if_neg u, if_neg (fun y => u (of_decide_eq_true (by rw [hs]; exact y.2)))]
  · rw [if_pos (nI_le (by omega) (by omega)), if_neg (fun y => w y.1)]
theorem av_L {r14 : Nat → Int32} {c : Nat → Nat} {e q : Nat} {z : Nat → Int32} (hB : bytesok r14 c) (he : e ≤ 600) (h2 : z 2 = nI e) (h3 : z 3 = nI q) (hq : q ≤ e) : (if (z 2) ≤ (z 3) then (.inr z : Sum (Nat → Int32) (Nat → Int32)) else (if (r14 ((z 3) : Int32).toNatClampNeg) < 97 then (.inr z) else (if 122 < (r14 ((z 3) : Int32).toNatClampNeg) then (.inr z) else (.inl (upd z (3) ((z 3) + 1)))))) = if q < e ∧ isL (c q) = true then .inl (upd z 3 (nI (q + 1))) else .inr z := by
  rw [h2, h3]
  by_cases w : q < e
  · rw [if_neg (nI_ge w (by omega)), b_at hB (by omega)]
    have hs := sb_L (c q) (hB q (by omega)).2
    by_cases u : sb (c q) < 97
    · rw [if_pos u, if_neg (fun y => by rw [y.2, decide_eq_true u] at hs; exact absurd hs (by simp))]
    · rw [if_neg u]
      by_cases u2 : 122 < sb (c q)
      · rw [if_pos u2, if_neg (fun y => by rw [y.2, decide_eq_true u2] at hs; exact absurd hs (by simp))]
      · rw [if_neg u2, if_pos ⟨w, by rw [← hs, decide_eq_false u, decide_eq_false u2]; rfl⟩, nI_1]
  · rw [if_pos (nI_le (by omega) (by omega)), if_neg (fun y => w y.1)]
/-- the state of the loop over digits -/
def nst (z : Nat → Int32) (c : Nat → Nat) (p k : Nat) : Nat → Int32 := upd (upd z 5 (nI (wvk c p k))) 3 (nI (p + k))
theorem av_D {r14 : Nat → Int32} {c : Nat → Nat} {e p k : Nat} {z : Nat → Int32} (hB : bytesok r14 c) (he : e ≤ 600) (h2 : z 2 = nI e) (hq : p + k ≤ e) : fX5_advance_4 r14 k (nst z c p k) = if p + k < e ∧ isD (c (p + k)) = true then .inl (nst z c p (k + 1)) else .inr (nst z c p k) := by
  unfold fX5_advance_4
  have e2 : nst z c p k 2 = nI e := (jj_une (by decide)).trans ((jj_une (by decide)).trans h2)
  have e3 : nst z c p k 3 = nI (p + k) := jj_ueq rfl
  have e5 : nst z c p k 5 = nI (wvk c p k) := (jj_une (by decide)).trans (jj_ueq rfl)
  rw [e2, e3, e5]
  by_cases w : p + k < e
  · rw [if_neg (nI_ge w (by omega)), b_at hB (by omega)]
    have hc := (hB (p + k) (by omega)).2
    have hs := sb_D (c (p + k)) hc
    by_cases u : sb (c (p + k)) < 48
    · rw [if_pos u, if_neg (fun y => by rw [y.2, decide_eq_true u] at hs; exact absurd hs (by simp))]
    · rw [if_neg u]
      by_cases u2 : 57 < sb (c (p + k))
      · rw [if_pos u2, if_neg (fun y => by rw [y.2, decide_eq_true u2] at hs; exact absurd hs (by simp))]
      · have hd : isD (c (p + k)) = true := by rw [← hs, decide_eq_false u, decide_eq_false u2]; rfl
        rw [if_neg u2, if_pos (show p + k < e ∧ isD (c (p + k)) = true from ⟨w, hd⟩), sb_n _ hc hd]
        have hdd : 48 ≤ c (p + k) ∧ c (p + k) ≤ 57 := by
          unfold isD at hd
          simp only [Bool.and_eq_true, decide_eq_true_eq] at hd
          exact hd
        have hv := wvk_le (c := c) (p := p) k
        have step : ∀ V : Int32, V = nI (wvk c p (k + 1)) → (.inl (upd (upd (nst z c p k) 5 V) 3 (upd (nst z c p k) 5 V 3 + 1)) : Sum (Nat → Int32) (Nat → Int32)) = .inl (nst z c p (k + 1)) := by
          intro V hV
          rw [hV, show upd (nst z c p k) 5 (nI (wvk c p (k + 1))) 3 = nI (p + k) from (jj_une (by decide)).trans e3, nI_1]
          congr 1
          funext j
          unfold nst
          by_cases j3 : j = 3
          · rw [jj_ueq j3, jj_ueq j3]; rfl
          · rw [jj_une j3, jj_une j3]
            by_cases j5 : j = 5
            · rw [jj_ueq j5, jj_ueq j5]
            · rw [jj_une j5, jj_une j3, jj_une j5, jj_une j5]
        rw [show (100000 : Int32) = nI 100000 from rfl]
        by_cases y : wvk c p k < 100000
        · rw [if_pos (nI_lt (b := 100000) y (by decide))]
          refine step _ ?_
          show _ = nI (if wvk c p k < 100000 then min 1000000 (10 * wvk c p k + (c (p + k) - 48)) else 100000)
          rw [if_pos y, Nat.min_eq_right (by omega), show (10 : Int32) = nI 10 from rfl, jj_nm, nI_add, show (48 : Int32) = nI 48 from rfl, jj_nsub (by omega)]
          congr 1
          omega
        · rw [if_neg (nI_nlt (b := 100000) (by omega) (by omega))]
          refine step _ ?_
          show _ = nI (if wvk c p k < 100000 then min 1000000 (10 * wvk c p k + (c (p + k) - 48)) else 100000)
          rw [if_neg y]
  · rw [if_pos (nI_le (by omega) (by omega)), if_neg (fun y => w y.1)]
