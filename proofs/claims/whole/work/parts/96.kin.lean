/-! ===== kin ===== -/
theorem or_0 (a : Int32) : a ||| 0 = a := b_ext (fun i _ => by rw [b_or, b_0, Bool.or_false])
theorem or_as (a b c : Int32) : (a ||| b) ||| c = a ||| (b ||| c) := b_ext (fun i _ => by rw [b_or, b_or, b_or, b_or, Bool.or_assoc])
def kF (r6 : Nat → Int32) (n : Nat) (x : Int32) : Int32 := x ||| vX7_friendsOf r6 n x
theorem kin_F {r6 r73 : Nat → Int32} {n : Nat} (hn : n ≤ 8) (hs : ∀ p, p < n → r73 p = r6 p) (s : Int32 × Int32) : jj_fo (fX10_kin_2 r73 s) n s.1 = kF r6 n s.1 :=
  fo_rel (R := fun _ a b => a = s.1 ||| b) n s.1 0 (or_0 _).symm (fun k a b hk e => by
    unfold fX10_kin_2
    rw [has_bt (show k < 8 by omega)]
    by_cases c : bt s.1 k = true
    · rw [if_pos c, if_neg one0, if_neg (fun z => by rw [and_bt (show k < 8 by omega), c] at z; cases z), hs k hk, e, or_as]
    · have c2 : bt s.1 k = false := by simpa using c
      rw [if_neg c, if_pos rfl, if_pos ((and_bt (show k < 8 by omega)).mpr c2), e, or_as])
theorem kF_bits {r6 : Nat → Int32} {n : Nat} (hf : ∀ p, p < n → bn (r6 p) < 2 ^ n) {x : Int32} (hx : bn x < 2 ^ n) : bn (kF r6 n x) < 2 ^ n := by
  have : bn (vX7_friendsOf r6 n x) < 2 ^ n := fo_inv (P := fun _ (a : Int32) => bn a < 2 ^ n) n 0 (by show 0 < 2 ^ n; exact Nat.pow_pos (by decide)) (fun k a hk ha => by
    split
    · rw [or_0]; exact ha
    · rw [bn_or]; exact Nat.or_lt_two_pow ha (hf k hk))
  unfold kF
  rw [bn_or]
  exact Nat.or_lt_two_pow hx this
theorem bt_hi {x : Int32} {n i : Nat} (h : bn x < 2 ^ n) (hi : n ≤ i) : bt x i = false := by
  show x.toBitVec.toNat.testBit i = false
  exact Nat.testBit_lt_two_pow (Nat.lt_of_lt_of_le h (Nat.pow_le_pow_right (by decide) hi))
theorem tn1 (b : Bool) : b.toNat ≤ 1 := by cases b <;> decide
theorem tnm {a b : Bool} (h : a = true → b = true) : a.toNat ≤ b.toNat := by
  cases a with
  | false => exact Nat.zero_le _
  | true => rw [h rfl]; exact Nat.le_refl _
theorem cn8_lt {f g : Nat → Bool} {i : Nat} (h : ∀ i, f i = true → g i = true) (hi : i < 8) (hf : f i = false) (hg : g i = true) : cn8 f + 1 ≤ cn8 g := by
  have m0 := tnm (h 0); have m1 := tnm (h 1); have m2 := tnm (h 2); have m3 := tnm (h 3); have m4 := tnm (h 4); have m5 := tnm (h 5); have m6 := tnm (h 6); have m7 := tnm (h 7)
  have f0 : (f i).toNat = 0 := by rw [hf]; rfl
  have g0 : (g i).toNat = 1 := by rw [hg]; rfl
  unfold cn8
  rcases lt_8 hi with rfl | rfl | rfl | rfl | rfl | rfl | rfl | rfl <;> omega
theorem cn8_n {f : Nat → Bool} {n : Nat} (hn : n ≤ 8) (h : ∀ i, n ≤ i → f i = false) : cn8 f ≤ n := by
  have t0 := tn1 (f 0); have t1 := tn1 (f 1); have t2 := tn1 (f 2); have t3 := tn1 (f 3); have t4 := tn1 (f 4); have t5 := tn1 (f 5); have t6 := tn1 (f 6); have t7 := tn1 (f 7)
  have z : ∀ i, n ≤ i → (f i).toNat = 0 := fun i hi => by rw [h i hi]; rfl
  unfold cn8
  have c : ∀ i, (f i).toNat = 0 ∨ i < n := fun i => by
    rcases Nat.lt_or_ge i n with q | q
    · exact Or.inr q
    · exact Or.inl (z i q)
  rcases c 0 with d | d <;> rcases c 1 with d1 | d1 <;> rcases c 2 with d2 | d2 <;> rcases c 3 with d3 | d3 <;> rcases c 4 with d4 | d4 <;> rcases c 5 with d5 | d5 <;> rcases c 6 with d6 | d6 <;> rcases c 7 with d7 | d7 <;> omega
def kI (r6 : Nat → Int32) (n : Nat) (x : Int32) (j : Nat) : Int32 := jj_fo (fun _ a => kF r6 n a) j x
theorem kI_bn {r6 : Nat → Int32} {n : Nat} (hf : ∀ p, p < n → bn (r6 p) < 2 ^ n) {x : Int32} (hx : bn x < 2 ^ n) : ∀ j, bn (kI r6 n x j) < 2 ^ n
  | 0 => hx
  | j + 1 => kF_bits hf (kI_bn hf hx j)
theorem kI_st {r6 : Nat → Int32} {n : Nat} (hn : n ≤ 8) (hf : ∀ p, p < n → bn (r6 p) < 2 ^ n) {x : Int32} (hx : bn x < 2 ^ n) {p : Nat} (hp : p < 8) (hb : bt x p = true) : ∀ j, j + 1 ≤ cn8 (fun i => bt (kI r6 n x j) i) ∨ kF r6 n (kI r6 n x j) = kI r6 n x j
  | 0 => Or.inl (by
    have := cn8_lt (f := fun _ => false) (g := fun i => bt x i) (i := p) (fun i z => by cases z) hp rfl hb
    exact this)
  | j + 1 => by
    have e : kI r6 n x (j + 1) = kF r6 n (kI r6 n x j) := rfl
    rcases kI_st hn hf hx hp hb j with ih | ih
    · by_cases c : kF r6 n (kI r6 n x j) = kI r6 n x j
      · exact Or.inr (by rw [e, c, c])
      · refine Or.inl ?_
        have hm : ∀ i, bt (kI r6 n x j) i = true → bt (kF r6 n (kI r6 n x j)) i = true := fun i z => by
          unfold kF
          rw [b_or, z, Bool.true_or]
        have hb1 := kI_bn hf hx j
        have hb2 := kF_bits hf hb1
        have : ∃ i, i < 8 ∧ bt (kI r6 n x j) i = false ∧ bt (kF r6 n (kI r6 n x j)) i = true := by
          apply Classical.byContradiction
          intro no
          refine c (b_ext (fun i hi => ?_))
          by_cases l : i < 8
          · cases q : bt (kI r6 n x j) i with
            | true => exact hm i q
            | false =>
              cases q2 : bt (kF r6 n (kI r6 n x j)) i with
              | false => rfl
              | true => exact absurd ⟨i, l, q, q2⟩ no
          · rw [bt_hi hb2 (by omega), bt_hi hb1 (by omega)]
        obtain ⟨i, l, q1, q2⟩ := this
        have := cn8_lt (f := fun i => bt (kI r6 n x j) i) (g := fun i => bt (kF r6 n (kI r6 n x j)) i) hm l q1 q2
        rw [e]
        omega
    · exact Or.inr (by rw [e, ih, ih])
theorem kI_n {r6 : Nat → Int32} {n : Nat} (hn : n ≤ 8) (hf : ∀ p, p < n → bn (r6 p) < 2 ^ n) {x : Int32} (hx : bn x < 2 ^ n) {p : Nat} (hp : p < 8) (hb : bt x p = true) : ∀ k, kI r6 n x (n + k) = kI r6 n x n
  | 0 => rfl
  | k + 1 => by
    have e : kI r6 n x (n + (k + 1)) = kF r6 n (kI r6 n x (n + k)) := rfl
    rw [e, kI_n hn hf hx hp hb k]
    rcases kI_st hn hf hx hp hb n with ih | ih
    · have := cn8_n (f := fun i => bt (kI r6 n x n) i) hn (fun i hi => bt_hi (kI_bn hf hx n) hi)
      omega
    · exact ih
theorem kI_eq {r6 : Nat → Int32} {n : Nat} (hn : n ≤ 8) (hf : ∀ p, p < n → bn (r6 p) < 2 ^ n) {x : Int32} (hx : bn x < 2 ^ n) {p : Nat} (hp : p < 8) (hb : bt x p = true) {j : Nat} (h : kF r6 n (kI r6 n x j) = kI r6 n x j) : kI r6 n x j = kI r6 n x n := by
  have st : ∀ k, kI r6 n x (j + k) = kI r6 n x j := fun k => by
    induction k with
    | zero => rfl
    | succ k ih =>
      show kF r6 n (kI r6 n x (j + k)) = _
      rw [ih, h]
  rcases Nat.le_total j n with l | l
  · obtain ⟨k, rfl⟩ : ∃ k, n = j + k := ⟨n - j, by omega⟩
    exact (st k).symm
  · obtain ⟨k, rfl⟩ : ∃ k, j = n + k := ⟨j - n, by omega⟩
    exact kI_n hn hf hx hp hb k
theorem kin_ref {r6 r73 : Nat → Int32} {n : Nat} (hn : n ≤ 8) (hs : ∀ p, p < n → r73 p = r6 p) (hf : ∀ p, p < n → bn (r6 p) < 2 ^ n) {x : Int32} (hx : bn x < 2 ^ n) {p : Nat} (hp : p < 8) (hb : bt x p = true) : ∀ N, (∃ y, jj_fx (fX10_kin_1 r73 n) N (x, 0) = .inl (kI r6 n x N, y) ∧ (0 < N → ∃ M, N = M + 1 ∧ y = kI r6 n x M) ∧ (N = 0 → y = 0)) ∨ ∃ y, jj_fx (fX10_kin_1 r73 n) N (x, 0) = .inr (kI r6 n x n, y)
  | 0 => Or.inl ⟨0, rfl, fun q => absurd q (by decide), fun _ => rfl⟩
  | N + 1 => by
    have e : jj_fx (fX10_kin_1 r73 n) (N + 1) (x, 0) = Sum.elim (fun b => fX10_kin_1 r73 n N b) (fun r => .inr r) (jj_fx (fX10_kin_1 r73 n) N (x, 0)) := rfl
    rw [e]
    rcases kin_ref hn hs hf hx hp hb N with ⟨y, h1, h2, h3⟩ | ⟨y, h1⟩
    · rw [h1]
      show (∃ y2, fX10_kin_1 r73 n N (kI r6 n x N, y) = _ ∧ _) ∨ ∃ y2, fX10_kin_1 r73 n N (kI r6 n x N, y) = _
      unfold fX10_kin_1
      by_cases c : kI r6 n x N = y
      · refine Or.inr ⟨y, ?_⟩
        rw [if_pos c]
        rcases Nat.eq_zero_or_pos N with q | q
        · exfalso
          rw [h3 q, q] at c
          have c : x = 0 := c
          rw [c, b_0] at hb
          cases hb
        · obtain ⟨M, rfl, hy⟩ := h2 q
          have st : kF r6 n (kI r6 n x M) = kI r6 n x M := by
            have : kI r6 n x (M + 1) = kF r6 n (kI r6 n x M) := rfl
            rw [← this, c, hy]
          have := kI_eq hn hf hx hp hb st
          rw [c, hy, this]
      · refine Or.inl ⟨kI r6 n x N, ?_, fun _ => ⟨N, rfl, rfl⟩, fun q => absurd q (by omega)⟩
        rw [if_neg c]
        have := kin_F hn hs (kI r6 n x N, y)
        dsimp only at this ⊢
        rw [this]
        rfl
    · rw [h1]
      exact Or.inr ⟨y, rfl⟩
/-! ===== ring ===== -/
theorem fx_more {α β : Type} {F : Nat → α → Sum α β} {a : α} {r : β} {n : Nat} (h : jj_fx F n a = .inr r) : ∀ k, jj_fx F (n + k) a = .inr r
  | 0 => h
  | k + 1 => by
    show Sum.elim (fun b => F (n + k) b) (fun r => .inr r) (jj_fx F (n + k) a) = _
    rw [fx_more h k]
    rfl
def rgR (k : Nat) (a b : Int32 × Int32 × Int32) : Prop := a.1 = b.2.2 ∧ a.2.1 = b.1 ∧ a.2.2 = b.2.1 ∧ (∃ s, a.2.2 = nI s ∧ s ≤ k) ∧ k ≤ cn8 (fun i => bt a.1 i) ∧ (a.2.1 = -1 ∨ vp_in a.2.1 8)
theorem rg_rel {r42 r : Nat → Int32} (h : ∀ p, p < 8 → r (24 + p) = r42 p) (hb : ∀ p, p < 8 → r42 p = -1 ∨ vp_in (r42 p) 8) {k : Nat} {a b : Int32 × Int32 × Int32} (hR : rgR k a b) : sr (rgR (k + 1)) (fun a b => a.2.1 = b.1 ∧ a.2.2 = b.2.1) (fX9_ring_1 r42 k a) (fX10_ring_1 r k b) := by
  obtain ⟨h1, h2, h3, ⟨s, h4, h5⟩, h6, h7⟩ := hR
  have h8 := cn8_le (fun i => bt a.1 i)
  unfold fX9_ring_1 fX10_ring_1
  rw [← h1, ← h2, ← h3, if_neg (show ¬ 8 < a.2.2 by rw [h4]; exact nI_nlt (a := 8) (by omega) (by decide))]
  by_cases c : a.2.1 = -1
  · rw [if_pos c, if_pos (show a.2.1 < 0 by rw [c]; decide)]
    exact ⟨rfl, rfl⟩
  · obtain ⟨K, hK, e⟩ := vp_in_of (h7.resolve_left c) (by decide)
    rw [if_neg c, e, if_neg (nI_pos (by omega)), if_neg (show ¬ 8 ≤ nI K from fun z => absurd ((nI_leI (a := 8) (by decide) (by omega)).mp z) (by omega)), has_bt hK, c24_ hK, cl_ hK, h K hK]
    cases q : bt a.1 K with
    | true =>
      rw [if_neg (fun z => by rw [and_bt hK, q] at z; cases z), if_pos rfl, if_neg one0]
      exact ⟨rfl, rfl⟩
    | false =>
      rw [if_pos ((and_bt hK).mpr q), if_neg (show ¬ false = true by decide), if_pos rfl]
      have up : k + 1 ≤ cn8 (fun i => bt (a.1 ||| (1 <<< (nI K &&& 31))) i) := by
        have := cn8_lt (f := fun i => bt a.1 i) (g := fun i => bt (a.1 ||| (1 <<< (nI K &&& 31))) i) (i := K) (fun i z => by
          show bt (a.1 ||| (1 <<< (nI K &&& 31))) i = true
          rw [b_or, show bt a.1 i = true from z, Bool.true_or]) hK q (by
          show bt (a.1 ||| (1 <<< (nI K &&& 31))) K = true
          rw [b_or, bt_1s K hK K (by omega), decide_eq_true rfl, Bool.or_true])
        omega
      by_cases z : r42 K = -1
      · rw [if_pos z, if_pos z]
        exact ⟨rfl, rfl, rfl, ⟨s, by show a.2.2 + 0 = _; rw [Int32.add_zero]; exact h4, by omega⟩, up, Or.inl z⟩
      · rw [if_neg z, if_neg z]
        exact ⟨rfl, rfl, rfl, ⟨s + 1, by show a.2.2 + 1 = _; rw [h4, nI_1], by omega⟩, up, hb K hK⟩
theorem rg_both {r42 r : Nat → Int32} (h : ∀ p, p < 8 → r (24 + p) = r42 p) (hb : ∀ p, p < 8 → r42 p = -1 ∨ vp_in (r42 p) 8) {P : Nat} (hP : P < 8) : ∃ x y, jj_fx (fX9_ring_1 r42) 10 (0, nI P, 0) = .inr x ∧ jj_fx (fX10_ring_1 r) 256 (nI P, 0, 0) = .inr y ∧ x.2.1 = y.1 ∧ x.2.2 = y.2.1 := by
  have key := fx_rel (R := rgR) (E := fun a b => a.2.1 = b.1 ∧ a.2.2 = b.2.1) (f := fX9_ring_1 r42) (g := fX10_ring_1 r) 10 (0, nI P, 0) (nI P, 0, 0) ⟨rfl, rfl, rfl, ⟨0, rfl, Nat.le_refl _⟩, Nat.zero_le _, Or.inr (vp_in_nI hP (by decide))⟩ (fun k a b _ ih => rg_rel h hb ih)
  revert key
  cases q : jj_fx (fX9_ring_1 r42) 10 (0, nI P, 0) with
  | inl a =>
    cases jj_fx (fX10_ring_1 r) 10 (nI P, 0, 0) with
    | inl b =>
      intro key
      have := cn8_le (fun i => bt a.1 i)
      have := key.2.2.2.2.1
      omega
    | inr b => exact fun key => key.elim
  | inr x =>
    cases q2 : jj_fx (fX10_ring_1 r) 10 (nI P, 0, 0) with
    | inl b => exact fun key => key.elim
    | inr y => exact fun key => ⟨x, y, rfl, fx_more q2 246, key.1, key.2⟩
/-! ===== share ===== -/
/-- how much string goes by a bound -/
def gvN (b : Nat → Nat) (s : Nat → Bool) (n x : Nat) : Nat := jj_fo (fun k a => a + if s k then min (b k) x else 0) n 0
theorem gvN_mo {b : Nat → Nat} {s : Nat → Bool} {x y : Nat} (h : x ≤ y) (n : Nat) : gvN b s n x ≤ gvN b s n y := fo_rel (R := fun _ a c => a ≤ c) n 0 0 (Nat.le_refl _) (fun k a c _ ih => by
  cases s k <;> simp <;> omega)
theorem gvN_0 {b : Nat → Nat} {s : Nat → Bool} (n : Nat) : gvN b s n 0 = 0 := fo_inv (P := fun _ a => a = 0) n 0 rfl (fun k a _ ih => by
  cases s k <;> simp [ih])
theorem gvN_le {b : Nat → Nat} {s : Nat → Bool} {B x : Nat} (hb : ∀ p, b p ≤ B) (n : Nat) : gvN b s n x ≤ n * B := fo_inv (P := fun k a => a ≤ k * B) n 0 (by rw [Nat.zero_mul]; exact Nat.le_refl _) (fun k a _ ih => by
  have := hb k
  rw [Nat.add_mul, Nat.one_mul]
  cases s k <;> simp <;> omega)
theorem gvN_big {b : Nat → Nat} {s : Nat → Bool} {x y : Nat} (hx : ∀ p, b p ≤ x) (hy : ∀ p, b p ≤ y) (n : Nat) : gvN b s n x = gvN b s n y := fo_eq n 0 (fun k a _ => by rw [Nat.min_eq_left (hx k), Nat.min_eq_left (hy k)])
section
variable {r38 r39 r40 r41 r42 r : Nat → Int32} {n : Nat} {v : Int32}
/-- the greatest bound that q suffices for: found by halves -/
theorem sh_c {b : Nat → Nat} {s : Nat → Bool} {q : Nat} (hq : q < 2 ^ 30) (hg : ∀ x, x ≤ 901 → vX9_givenBy r38 r39 n v (nI x) = nI (gvN b s n x)) (hg2 : ∀ x, gvN b s n x < 2 ^ 30) : ∃ x, x ≤ 900 ∧ gvN b s n x ≤ q ∧ (x < 900 → q < gvN b s n (x + 1)) ∧ Sum.elim (fun a1 => a1.1) (fun r1_ => r1_.1) (jj_fx (fX9_share_1 r38 r39 n v (nI q)) 900 (0, 901)) = nI x := by
  have key : ∀ N, N ≤ 900 → (∃ lo hi, jj_fx (fX9_share_1 r38 r39 n v (nI q)) N (0, 901) = .inl (nI lo, nI hi) ∧ lo < hi ∧ hi ≤ 901 ∧ hi - lo ≤ 901 - N ∧ gvN b s n lo ≤ q ∧ (hi ≤ 900 → q < gvN b s n hi)) ∨ (∃ lo hi, jj_fx (fX9_share_1 r38 r39 n v (nI q)) N (0, 901) = .inr (nI lo, nI hi) ∧ hi = lo + 1 ∧ hi ≤ 901 ∧ gvN b s n lo ≤ q ∧ (hi ≤ 900 → q < gvN b s n hi)) := by
    intro N
    induction N with
    | zero => exact fun _ => Or.inl ⟨0, 901, rfl, by decide, Nat.le_refl _, Nat.le_refl _, by rw [gvN_0]; exact Nat.zero_le _, fun z => absurd z (by decide)⟩
    | succ N ih =>
      intro hN
      have e : jj_fx (fX9_share_1 r38 r39 n v (nI q)) (N + 1) (0, 901) = Sum.elim (fun b => fX9_share_1 r38 r39 n v (nI q) N b) (fun r => .inr r) (jj_fx (fX9_share_1 r38 r39 n v (nI q)) N (0, 901)) := rfl
      rw [e]
      rcases ih (by omega) with ⟨lo, hi, h1, h2, h3, h4, h5, h6⟩ | ⟨lo, hi, h1, h2, h3, h5, h6⟩
      · rw [h1]
        show (∃ lo2 hi2, fX9_share_1 r38 r39 n v (nI q) N (nI lo, nI hi) = _ ∧ _) ∨ ∃ lo2 hi2, fX9_share_1 r38 r39 n v (nI q) N (nI lo, nI hi) = _ ∧ _
        unfold fX9_share_1
        dsimp only
        rw [pk_sub (show lo ≤ hi by omega), nI_add]
        have ed : nI (lo + hi) / 2 = nI ((lo + hi) / 2) := pk_div (d := 2) (by omega) (by decide) (by decide)
        by_cases c : hi - lo ≤ 1
        · rw [if_pos (show nI (hi - lo) ≤ 1 from nI_le (b := 1) c (by decide))]
          exact Or.inr ⟨lo, hi, rfl, by omega, h3, h5, h6⟩
        · rw [if_neg (show ¬ nI (hi - lo) ≤ 1 from fun z => c ((nI_leI (b := 1) (by omega) (by decide)).mp z)), ed, hg _ (by omega)]
          by_cases d : q < gvN b s n ((lo + hi) / 2)
          · rw [if_pos (nI_lt d (by have := hg2 ((lo + hi) / 2); omega))]
            exact Or.inl ⟨lo, (lo + hi) / 2, rfl, by omega, by omega, by omega, h5, fun _ => d⟩
          · rw [if_neg (nI_nlt (by omega) (by omega))]
            exact Or.inl ⟨(lo + hi) / 2, hi, rfl, by omega, h3, by omega, by omega, h6⟩
      · rw [h1]
        exact Or.inr ⟨lo, hi, rfl, h2, h3, h5, h6⟩
  rcases key 900 (Nat.le_refl _) with ⟨lo, hi, h1, h2, h3, h4, h5, h6⟩ | ⟨lo, hi, h1, h2, h3, h5, h6⟩
  · refine ⟨lo, by omega, h5, fun z => ?_, by rw [h1]; rfl⟩
    have : hi = lo + 1 := by omega
    rw [← this]; exact h6 (by omega)
  · refine ⟨lo, by omega, h5, fun z => ?_, by rw [h1]; rfl⟩
    rw [← h2]; exact h6 (by omega)
/-- the same one by one -/
theorem sh_m {b : Nat → Nat} {s : Nat → Bool} {q : Nat} (hq : q < 2 ^ 30) (hg : ∀ x, x ≤ 999 → vX10_givenBy r n v (nI x) = nI (gvN b s n x)) (hg2 : ∀ x, gvN b s n x < 2 ^ 30) {x : Nat} (hx9 : x ≤ 900) (h1 : gvN b s n x ≤ q) : ∀ N, N ≤ 999 → (N ≤ x ∨ gvN b s n 999 ≤ q → jj_fx (fX10_share_1 r n v (nI q)) N () = .inl ()) ∧ (x < N → q < gvN b s n (x + 1) → jj_fx (fX10_share_1 r n v (nI q)) N () = .inr (nI x))
  | 0, _ => ⟨fun _ => rfl, fun z => absurd z (Nat.not_lt_zero x)⟩
  | N + 1, hN => by
    obtain ⟨i1, i2⟩ := sh_m hq hg hg2 hx9 h1 N (by omega)
    have e : jj_fx (fX10_share_1 r n v (nI q)) (N + 1) () = Sum.elim (fun b => fX10_share_1 r n v (nI q) N b) (fun r => .inr r) (jj_fx (fX10_share_1 r n v (nI q)) N ()) := rfl
    rw [e]
    refine ⟨fun z => ?_, fun z w => ?_⟩
    · rw [i1 (z.imp_left (by omega))]
      show fX10_share_1 r n v (nI q) N () = _
      unfold fX10_share_1
      rw [nI_1, hg _ (by omega)]
      have le : gvN b s n (N + 1) ≤ q := by
        rcases z with z | z
        · exact Nat.le_trans (gvN_mo z n) h1
        · exact Nat.le_trans (gvN_mo (by omega) n) z
      rw [if_neg (nI_nlt le (by omega))]
    · by_cases l : x < N
      · rw [i2 l w]; rfl
      · have ex : N = x := by omega
        subst ex
        rw [i1 (Or.inl (Nat.le_refl _))]
        show fX10_share_1 r n v (nI q) N () = _
        unfold fX10_share_1
        rw [nI_1, hg _ (by omega), if_pos (nI_lt w (by have := hg2 (N + 1); omega))]
end
theorem q_kin {c : Nat → Nat} {T n m u t : Nat} {L : bL_} {h : hp_} (I : IV c T n m u t L h) (p : Int32) : res 1 (vX9_kin (h 0) (h 1) (h 6) n p) (h 0) (rX9_kin_0 (h 0) (h 1) (h 6) n p) ((rX10_kin_49 (h 49) (h 51) (h 73) n p) 0) (.int (vX10_kin (h 49) (h 51) (h 73) n p)) (h 51) (rX10_kin_51 (h 49) (h 51) (h 73) n p) := by
  have hn := iv_8 I
  unfold vX9_kin rX9_kin_0 vX10_kin rX10_kin_49 rX10_kin_51
  simp only [in_if, two_if, iv_p I, e_bit, e_week, e_bits hn]
  refine res_if (fun _ => (Or.inr (Or.inl ⟨rfl, rfl, rfl, rfl⟩))) (fun c1 => ?_)
  obtain ⟨Pp, hp, rfl⟩ := jj_persM hn c1
  have hb : bt (1 <<< (nI Pp &&& 31)) Pp = true := by rw [bt_1s Pp (by omega) Pp (by omega), decide_eq_true rfl]
  have hx : bn (1 <<< (nI Pp &&& 31)) < 2 ^ n := by rw [bn_1s Pp (by omega)]; exact Nat.pow_lt_pow_right (by decide) hp
  have hf : ∀ p, p < n → bn (h 6 p) < 2 ^ n := fun p hp2 => by rw [← (iv_s I p hp2).2.2.2.2]; exact I.2.2.1.2.2.2.2.2.1 p (by omega)
  refine res_ok (ok_e ?_) rfl
  show kI (h 6) n (1 <<< (nI Pp &&& 31)) n = _
  rcases kin_ref (r73 := h 73) hn (fun p hp2 => (iv_s I p hp2).2.2.2.2) hf hx (p := Pp) (by omega) hb 257 with ⟨y, e, _, _⟩ | ⟨y, e⟩
  · rw [e]
    show _ = kI (h 6) n (1 <<< (nI Pp &&& 31)) 257
    obtain ⟨k, hk⟩ : ∃ k, 257 = n + k := ⟨257 - n, by omega⟩
    rw [hk, kI_n hn hf hx (p := Pp) (by omega) hb k]
  · rw [e]; rfl
theorem q_ring {c : Nat → Nat} {T n m u t : Nat} {L : bL_} {h : hp_} (I : IV c T n m u t L h) (p w : Int32) : res 2 (vX9_ring (h 0) (h 1) (h 42) p w) (h 0) (rX9_ring_0 (h 0) (h 1) (h 42) p w) ((rX10_ring_49 (h 49) (h 51) (h 497) n p w) 0) (.int (vX10_ring (h 49) (h 51) (h 497) n p w)) (h 51) (rX10_ring_51 (h 49) (h 51) (h 497) n p w) := by
  have hn := iv_8 I
  unfold vX9_ring rX9_ring_0 vX10_ring rX10_ring_49 rX10_ring_51
  simp only [in_if, two_if, iv_p I, e_bit, e_week, e_bits hn]
  refine res_if (fun _ => (Or.inr (Or.inl ⟨rfl, rfl, rfl, rfl⟩))) (fun c1 => ?_)
  refine res_if (fun _ => (Or.inr (Or.inr ⟨rfl, rfl, rfl, rfl⟩))) (fun c2 => ?_)
  refine res_if (fun _ => (Or.inr (Or.inr ⟨rfl, rfl, rfl, rfl⟩))) (fun c3 => ?_)
  obtain ⟨Pp, hp, rfl⟩ := jj_persM hn c1
  obtain ⟨x, y, e1, e2, e3, e4⟩ := rg_both (r := h 497) (fun p hp2 => ((iv_n I).2 p hp2).2.2.2) (fun p hp2 => ((iv_k I).2 p hp2).2) (P := Pp) (by omega)
  rw [e1, e2]
  refine res_ok ?_ rfl
  show (if w = 0 then (.inl (some (.int x.2.2)) : jj_Rs) else if x.2.1 = -1 then .inl (some (.int 0)) else .inl (some (.int 1))) = .inl (some (.int (if w = 0 then y.2.1 else if y.1 = -1 then 0 else 1)))
  rw [e3, e4]
  refine ok_if (fun _ => rfl) (fun _ => ?_)
  refine ok_if (fun _ => rfl) (fun _ => rfl)
theorem q_share {c : Nat → Nat} {T n m u t : Nat} {L : bL_} {h : hp_} (I : IV c T n m u t L h) (p v q : Int32) : res 2 (vX9_share (h 0) (h 1) (h 38) (h 39) n p v q) (h 0) (rX9_share_0 (h 0) (h 1) (h 38) (h 39) n p v q) ((rX10_share_49 (h 49) (h 51) (h 497) n p v q) 0) (.int (vX10_share (h 49) (h 51) (h 497) n p v q)) (h 51) (rX10_share_51 (h 49) (h 51) (h 497) n p v q) := by
  have hn := iv_8 I
  unfold vX9_share rX9_share_0 vX10_share rX10_share_49 rX10_share_51
  simp only [in_if, two_if, iv_p I, e_bit, e_week, e_bits hn]
  refine res_if (fun _ => (Or.inr (Or.inl ⟨rfl, rfl, rfl, rfl⟩))) (fun c1 => ?_)
  refine res_if (fun _ => (Or.inr (Or.inr ⟨rfl, rfl, rfl, rfl⟩))) (fun c2 => ?_)
  refine res_if (fun _ => (Or.inr (Or.inr ⟨rfl, rfl, rfl, rfl⟩))) (fun c3 => ?_)
  refine res_if (fun _ => (Or.inr (Or.inr ⟨rfl, rfl, rfl, rfl⟩))) (fun c4 => ?_)
  refine res_if (fun _ => (Or.inr (Or.inr ⟨rfl, rfl, rfl, rfl⟩))) (fun c5 => ?_)
  obtain ⟨Pp, hp, rfl⟩ := jj_persM hn c1
  have hp8 : Pp < 8 := by omega
  obtain ⟨Q, hQ, rfl⟩ := nI_of c4
  have hQ9 : Q ≤ 9999 := by
    rcases Nat.lt_or_ge 9999 Q with z | z
    · exact absurd (show (9999 : Int32) < nI Q from nI_lt (a := 9999) z hQ) c5
    · exact z
  obtain ⟨b, hb⟩ : ∃ b : Nat → Nat, ∀ k, (b k ≤ 900) ∧ (k < n → vX6_behindOf_n (h 38) (h 39) (nI k) = nI (b k)) := by
    refine ⟨fun k => if k < n then (vX6_behindOf_n (h 38) (h 39) (nI k)).toNatClampNeg else 0, fun k => ?_⟩
    by_cases l : k < n
    · obtain ⟨x, hx, e⟩ := nok_b (iv_k I) (by decide) (show k < 8 by omega)
      simp only [if_pos l]
      rw [e, nI_clamp (by omega)]
      exact ⟨hx, fun _ => rfl⟩
    · simp only [if_neg l]
      exact ⟨Nat.zero_le _, fun z => absurd z l⟩
  have g2 : ∀ x, gvN b (bt v) n x < 2 ^ 30 := fun x => Nat.lt_of_le_of_lt (gvN_le (fun p => (hb p).1) n) (Nat.lt_of_le_of_lt (Nat.mul_le_mul_right 900 hn) (by decide))
  have gc : ∀ x, x ≤ 901 → vX9_givenBy (h 38) (h 39) n v (nI x) = nI (gvN b (bt v) n x) := fun x hx => fo_rel (R := fun _ (a : Int32) c => a = nI c) n 0 0 rfl (fun k a c hk e => by
    rw [(hb k).2 hk, e]
    have b9 := (hb k).1
    cases z : bt v k with
    | false => rw [if_pos ((and_bt (by omega)).mpr z), Int32.add_zero]; simp
    | true =>
      rw [if_neg (fun y => by rw [and_bt (show k < 8 by omega), z] at y; cases y)]
      by_cases y : x < b k
      · rw [if_pos (nI_lt y (by omega)), nI_add, if_pos rfl, Nat.min_eq_right (by omega)]
      · rw [if_neg (nI_nlt (by omega) (by omega)), nI_add, if_pos rfl, Nat.min_eq_left (by omega)])
  have gm : ∀ x, x ≤ 999 → vX10_givenBy (h 497) n v (nI x) = nI (gvN b (bt v) n x) := fun x hx => fo_rel (R := fun _ (a : Int32) c => a = nI c) n 0 0 rfl (fun k a c hk e => by
    unfold fX10_givenBy_1 vX10_less
    rw [has_bt (by omega), e_behind (iv_n I) (show k < 8 by omega), (hb k).2 hk, e]
    have b9 := (hb k).1
    cases z : bt v k with
    | false => rw [if_neg (show ¬ false = true by decide), if_pos rfl, Int32.add_zero]; simp
    | true =>
      rw [if_pos rfl, if_neg one0]
      by_cases y : b k ≤ x
      · rw [if_pos (nI_le y (by omega)), nI_add, if_pos rfl, Nat.min_eq_left y]
      · rw [if_neg (nI_ge (by omega) (by omega)), nI_add, if_pos rfl, Nat.min_eq_right (by omega)])
  obtain ⟨x, x1, x2, x3, x4⟩ := sh_c (q := Q) (by omega) gc g2
  have M := sh_m (r := h 497) (v := v) (q := Q) (by omega) gm g2 x1 x2 999 (Nat.le_refl _)
  have ebp : vX10_behind_n (h 497) (nI Pp) = nI (b Pp) := by rw [e_behind (iv_n I) hp8, (hb Pp).2 hp]
  rw [ebp, (hb Pp).2 hp, has_bt hp8]
  have bp := (hb Pp).1
  cases z : bt v Pp with
  | false =>
    simp only [if_pos ((and_bt hp8).mpr z), if_neg (show ¬ false = true by decide), if_true, sum_c]
    refine res_ok (ok_e ?_) rfl
    cases jj_fx (fX10_share_1 (h 497) n v (nI Q)) 999 () <;> rfl
  | true =>
    have nz : ¬ (v &&& (1 <<< (nI Pp &&& 31))) = 0 := fun y => by rw [and_bt hp8, z] at y; cases y
    simp only [if_neg nz, if_true, if_neg one0, sum_c]
    have L : ∀ (s : Sum (Int32 × Int32) (Int32 × Int32)) (y : Int32), Sum.elim (fun a1 => (.inl (some (.int (if a1.1 < y then a1.1 else y))) : jj_Rs)) (fun r1_ => .inl (some (.int (if r1_.1 < y then r1_.1 else y)))) s = .inl (some (.int (if Sum.elim (fun a1 => a1.1) (fun r1_ => r1_.1) s < y then Sum.elim (fun a1 => a1.1) (fun r1_ => r1_.1) s else y))) := fun s y => by cases s <;> rfl
    rw [L, x4]
    refine res_ok (ok_e ?_) rfl
    have cls : (if nI x < nI (b Pp) then nI x else nI (b Pp)) = nI (min x (b Pp)) := by
      by_cases y : x < b Pp
      · rw [if_pos (nI_lt y (by omega)), Nat.min_eq_left (by omega)]
      · rw [if_neg (nI_nlt (by omega) (by omega)), Nat.min_eq_right (by omega)]
    rw [cls]
    have les : ∀ x, x ≤ 999 → vX10_less (nI x) (nI (b Pp)) = nI (min x (b Pp)) := fun x hx => by
      unfold vX10_less
      by_cases y : b Pp ≤ x
      · rw [if_pos (nI_le y (by omega)), Nat.min_eq_right y]
      · rw [if_neg (nI_ge (by omega) (by omega)), Nat.min_eq_left (by omega)]
    by_cases y : x < 900
    · rw [M.2 (by omega) (x3 y)]
      exact (les x (by omega)).symm
    · have ex : x = 900 := by omega
      have big : gvN b (bt v) n 999 ≤ Q := by rw [gvN_big (y := 900) (fun p => by have := (hb p).1; omega) (fun p => (hb p).1) n, ← ex]; exact x2
      rw [M.1 (Or.inr big)]
      show _ = vX10_less (nI 999) (nI (b Pp))
      rw [les 999 (Nat.le_refl _), ex, Nat.min_eq_right bp, Nat.min_eq_right (by omega)]
