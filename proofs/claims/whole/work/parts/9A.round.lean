/-! ===== rounds: sets of persons as naturals ===== -/
theorem bt_nI {S i : Nat} (h : S < 2 ^ 32) : bt (nI S) i = S.testBit i := by
  show (nI S).toBitVec.toNat.testBit i = _
  rw [pk_tn h]
theorem nI_bn {x : Int32} (h : bn x < 2 ^ 31) : x = nI (bn x) := Int32.toBitVec_inj.mp (BitVec.eq_of_toNat_eq (by rw [pk_tn (by omega)]; rfl))
theorem bn_and_le (a b : Int32) : bn (a &&& b) ≤ bn a := by
  unfold bn
  rw [Int32.toBitVec_and, BitVec.toNat_and]
  exact Nat.and_le_left
theorem bn_nI {S : Nat} (h : S < 2 ^ 32) : bn (nI S) = S := pk_tn h
/-- a set without one -/
def rm (S t : Nat) : Nat := bn (nI S &&& ((1 <<< (nI t &&& 31)) ^^^ (-1)))
theorem rm_le {S t : Nat} (hS : S < 256) : rm S t ≤ S := by
  have := bn_and_le (nI S) ((1 <<< (nI t &&& 31)) ^^^ (-1))
  rw [bn_nI (by omega)] at this
  exact this
theorem rm_I {S t : Nat} (hS : S < 256) : (nI S &&& ((1 <<< (nI t &&& 31)) ^^^ (-1))) = nI (rm S t) := nI_bn (by have := rm_le (t := t) hS; unfold rm at this; omega)
theorem tb_hi {S i n : Nat} (h : S < 2 ^ n) (hi : n ≤ i) : S.testBit i = false := Nat.testBit_lt_two_pow (Nat.lt_of_lt_of_le h (Nat.pow_le_pow_right (by decide) hi))
theorem rm_b {S t i : Nat} (hS : S < 256) (ht : t < 8) : (rm S t).testBit i = (S.testBit i && !decide (i = t)) := by
  show bt (nI S &&& ((1 <<< (nI t &&& 31)) ^^^ (-1))) i = _
  by_cases hi : i < 32
  · rw [b_and, b_not _ hi, bt_1s t ht i hi, bt_nI (by omega)]
  · rw [b_big (by omega), tb_hi (n := 8) hS (by omega), Bool.false_and]
theorem rm_lt {S t : Nat} (hS : S < 256) (ht : t < 8) (hm : S.testBit t = true) : rm S t < S := by
  rcases Nat.lt_or_ge (rm S t) S with q | q
  · exact q
  · have : rm S t = S := Nat.le_antisymm (rm_le hS) q
    have e := rm_b (i := t) hS ht
    rw [this, hm, decide_eq_true rfl] at e
    cases e
theorem rm_0 {S t : Nat} (hS : S < 256) (ht : t < 8) (h : rm S t = 0) {i : Nat} (hi : S.testBit i = true) : i = t := by
  have e := rm_b (i := i) hS ht
  rw [h, Nat.zero_testBit, hi, Bool.true_and] at e
  have : decide (i = t) = true := by
    cases z : decide (i = t)
    · rw [z] at e; cases e
    · rfl
  exact of_decide_eq_true this
theorem tb_ex {S n : Nat} (h : S < 2 ^ n) (h0 : ¬ S = 0) : ∃ k, k < n ∧ S.testBit k = true := by
  apply Classical.byContradiction
  intro no
  refine h0 (Nat.eq_of_testBit_eq (fun i => ?_))
  rw [Nat.zero_testBit]
  by_cases l : i < n
  · cases z : S.testBit i with
    | false => rfl
    | true => exact absurd ⟨i, l, z⟩ no
  · exact tb_hi h (by omega)
/-! the least of a row over a set -/
def mn (R : Nat) (f : Nat → Nat) (n : Nat) : Nat := jj_fo (fun k a => if R.testBit k = true then min a (f k) else a) n 1000000
theorem mn_eq {R n : Nat} {f g : Nat → Nat} (h : ∀ k, k < n → R.testBit k = true → f k = g k) : mn R f n = mn R g n := fo_eq n _ (fun k a hk => by
  by_cases c : R.testBit k = true
  · rw [if_pos c, if_pos c, h k hk c]
  · rw [if_neg c, if_neg c])
theorem mn_le {R n : Nat} {f : Nat → Nat} {k : Nat} (hk : k < n) (hm : R.testBit k = true) : mn R f n ≤ f k := by
  have := fo_inv (P := fun j (a : Nat) => ∀ k, k < j → R.testBit k = true → a ≤ f k) (f := fun k a => if R.testBit k = true then min a (f k) else a) n 1000000 (fun k z => absurd z (Nat.not_lt_zero k)) (fun j a _ ih k hk hm => by
    by_cases e : k = j
    · subst e; rw [if_pos hm]; omega
    · have := ih k (by omega) hm
      split <;> omega)
  exact this k hk hm
theorem mn_at {R n : Nat} {f : Nat → Nat} (hb : ∀ k, k < n → R.testBit k = true → f k < 1000000) (h : ∃ k, k < n ∧ R.testBit k = true) : ∃ k, k < n ∧ R.testBit k = true ∧ f k = mn R f n := by
  have := fo_inv (P := fun j (a : Nat) => j ≤ n → (a = 1000000 ∧ ∀ k, k < j → ¬ R.testBit k = true) ∨ (∃ k, k < j ∧ R.testBit k = true ∧ f k = a)) (f := fun k a => if R.testBit k = true then min a (f k) else a) n 1000000 (fun _ => Or.inl ⟨rfl, fun k z => absurd z (Nat.not_lt_zero k)⟩) (fun j a hj ih _ => by
    have ih := ih (by omega)
    by_cases c : R.testBit j = true
    · rw [if_pos c]
      have := hb j hj c
      rcases ih with ⟨e, _⟩ | ⟨k, k1, k2, k3⟩
      · exact Or.inr ⟨j, by omega, c, by omega⟩
      · by_cases l : f j < a
        · exact Or.inr ⟨j, by omega, c, by omega⟩
        · exact Or.inr ⟨k, by omega, k2, by omega⟩
    · rw [if_neg c]
      rcases ih with ⟨e, no⟩ | ⟨k, k1, k2, k3⟩
      · exact Or.inl ⟨e, fun k hk => by
          by_cases z : k = j
          · rw [z]; exact c
          · exact no k (by omega)⟩
      · exact Or.inr ⟨k, by omega, k2, k3⟩)
  rcases this (Nat.le_refl _) with ⟨_, no⟩ | r
  · obtain ⟨k, hk, hm⟩ := h
    exact absurd hm (no k hk)
  · exact r
/-! the least way through a set, from p, to t last -/
def wy (W : Nat → Nat → Nat) (p n : Nat) : Nat → Nat → Nat → Nat
  | 0, _, _ => 0
  | f + 1, S, t => if rm S t = 0 then W p t else mn (rm S t) (fun k => wy W p n f (rm S t) k + W k t) n
theorem wy_f {W : Nat → Nat → Nat} {p n : Nat} (hn : n ≤ 8) : ∀ f g {S t : Nat}, S < 256 → t < n → S.testBit t = true → S ≤ f → S ≤ g → wy W p n f S t = wy W p n g S t
  | 0, _, S, t, _, _, hm, hf, _ => by
    have : S = 0 := by omega
    rw [this, Nat.zero_testBit] at hm
    cases hm
  | _ + 1, 0, S, t, _, _, hm, _, hg => by
    have : S = 0 := by omega
    rw [this, Nat.zero_testBit] at hm
    cases hm
  | f + 1, g + 1, S, t, hS, ht, hm, hf, hg => by
    have l := rm_lt hS (show t < 8 by omega) hm
    show (if rm S t = 0 then W p t else mn (rm S t) (fun k => wy W p n f (rm S t) k + W k t) n) = if rm S t = 0 then W p t else mn (rm S t) (fun k => wy W p n g (rm S t) k + W k t) n
    rw [mn_eq (g := fun k => wy W p n g (rm S t) k + W k t) (fun k hk hk2 => by rw [wy_f hn f g (by omega) hk hk2 (by omega) (by omega)])]
def ww (W : Nat → Nat → Nat) (p n S t : Nat) : Nat := wy W p n 256 S t
section
variable {W : Nat → Nat → Nat} {p n : Nat}
theorem ww_eq (hn : n ≤ 8) {S t : Nat} (hS : S < 256) (ht : t < n) (hm : S.testBit t = true) : ww W p n S t = if rm S t = 0 then W p t else mn (rm S t) (fun k => ww W p n (rm S t) k + W k t) n := by
  have l := rm_lt hS (show t < 8 by omega) hm
  show (if rm S t = 0 then W p t else mn (rm S t) (fun k => wy W p n 255 (rm S t) k + W k t) n) = _
  rw [mn_eq (g := fun k => ww W p n (rm S t) k + W k t) (fun k hk hk2 => by
    show wy W p n 255 (rm S t) k + W k t = wy W p n 256 (rm S t) k + W k t
    rw [wy_f hn 255 256 (by omega) hk hk2 (by omega) (by omega)])]
theorem wy_le (hn : n ≤ 8) (hW : ∀ a b, W a b ≤ 40) : ∀ f {S t : Nat}, S < 2 ^ n → t < n → wy W p n f S t ≤ 40 * f
  | 0, _, _, _, _ => Nat.zero_le _
  | f + 1, S, t, hS, ht => by
    show (if rm S t = 0 then W p t else mn (rm S t) (fun k => wy W p n f (rm S t) k + W k t) n) ≤ _
    have S8 : S < 256 := Nat.lt_of_lt_of_le hS (Nat.pow_le_pow_right (by decide) hn)
    by_cases c : rm S t = 0
    · rw [if_pos c]; have := hW p t; omega
    · rw [if_neg c]
      have hr : rm S t < 2 ^ n := Nat.lt_of_le_of_lt (rm_le S8) hS
      obtain ⟨k, hk, hm⟩ := tb_ex hr c
      have h1 := mn_le (f := fun k => wy W p n f (rm S t) k + W k t) hk hm
      have h2 := wy_le hn hW f hr hk
      have := hW k t
      try dsimp only at h1
      omega
theorem ww_b (hn : n ≤ 8) (hW : ∀ a b, W a b ≤ 40) {S t : Nat} (hS : S < 2 ^ n) (ht : t < n) : ww W p n S t ≤ 10240 := wy_le hn hW 256 hS ht
/-- starting at p, p itself may be in the set or not -/
theorem ww_p (hn : n ≤ 8) (hW : ∀ a b, W a b ≤ 40) (h0 : W p p = 0) (tri : ∀ a b c, W a c ≤ W a b + W b c) (hp : p < n) : ∀ N {S V t : Nat}, S ≤ N → S < 2 ^ n → V < 2 ^ n → (∀ i, V.testBit i = (S.testBit i || decide (i = p))) → S.testBit p = false → t < n → S.testBit t = true → ww W p n V t = ww W p n S t := by
  intro N
  induction N with
  | zero =>
    intro S V t hN hS hV hVS hSp ht hm
    have : S = 0 := by omega
    rw [this, Nat.zero_testBit] at hm
    cases hm
  | succ N ih =>
    intro S V t hN hS hV hVS hSp ht hm
    have S8 : S < 256 := Nat.lt_of_lt_of_le hS (Nat.pow_le_pow_right (by decide) hn)
    have V8 : V < 256 := Nat.lt_of_lt_of_le hV (Nat.pow_le_pow_right (by decide) hn)
    have t8 : t < 8 := by omega
    have p8 : p < 8 := by omega
    have mV : V.testBit t = true := by rw [hVS, hm, Bool.true_or]
    have ntp : ¬ t = p := fun e => by rw [e, hSp] at hm; cases hm
    have lS := rm_lt S8 t8 hm
    have lV := rm_lt V8 t8 mV
    have bS : ∀ i, (rm S t).testBit i = (S.testBit i && !decide (i = t)) := fun i => rm_b S8 t8
    have bV : ∀ i, (rm V t).testBit i = ((rm S t).testBit i || decide (i = p)) := fun i => by
      rw [rm_b V8 t8, hVS, bS]
      by_cases e : i = t
      · subst e
        rw [decide_eq_true rfl, decide_eq_false ntp]
        simp
      · rw [decide_eq_false e]; simp
    have rSp : (rm S t).testBit p = false := by rw [bS, hSp, Bool.false_and]
    have pin : (rm V t).testBit p = true := by rw [bV, decide_eq_true rfl, Bool.or_true]
    have rV0 : ¬ rm V t = 0 := fun e => by rw [e, Nat.zero_testBit] at pin; cases pin
    have hrS : rm S t < 2 ^ n := by omega
    have hrV : rm V t < 2 ^ n := by omega
    have IH : ∀ k, k < n → (rm S t).testBit k = true → ww W p n (rm V t) k = ww W p n (rm S t) k := fun k hk hm2 => ih (by omega) hrS hrV bV rSp hk hm2
    -- with p as the one before t
    have eP : ww W p n (rm V t) p = if rm S t = 0 then 0 else mn (rm S t) (fun k => ww W p n (rm S t) k + W k p) n := by
      have : rm (rm V t) p = rm S t := Nat.eq_of_testBit_eq (fun i => by
        rw [rm_b (by omega) p8, bV]
        by_cases e : i = p
        · subst e; rw [decide_eq_true rfl, rSp]; simp
        · rw [decide_eq_false e]; simp)
      rw [ww_eq hn (by omega) hp pin, this, h0]
    rw [ww_eq hn V8 ht mV, if_neg rV0, ww_eq hn S8 ht hm]
    have bnd : ∀ k, k < n → (rm V t).testBit k = true → ww W p n (rm V t) k + W k t < 1000000 := fun k hk _ => by
      have := ww_b (p := p) hn hW hrV hk; have := hW k t; omega
    have bndS : ∀ x k, k < n → (rm S t).testBit k = true → ww W p n (rm S t) k + W k x < 1000000 := fun x k hk _ => by
      have := ww_b (p := p) hn hW hrS hk; have := hW k x; omega
    by_cases c : rm S t = 0
    · rw [if_pos c]
      apply Nat.le_antisymm
      · have := mn_le (f := fun k => ww W p n (rm V t) k + W k t) hp pin
        try dsimp only at this
        rw [eP, if_pos c] at this
        omega
      · obtain ⟨k, hk, km, ke⟩ := mn_at bnd ⟨p, hp, pin⟩
        rw [← ke]
        have : k = p := by
          rw [bV, c, Nat.zero_testBit, Bool.false_or] at km
          exact of_decide_eq_true km
        rw [this]; omega
    · rw [if_neg c]
      obtain ⟨k0, hk0, km0⟩ := tb_ex hrS c
      apply Nat.le_antisymm
      · obtain ⟨k, hk, km, ke⟩ := mn_at (bndS t) ⟨k0, hk0, km0⟩
        have := mn_le (f := fun k => ww W p n (rm V t) k + W k t) hk (by rw [bV, km, Bool.true_or])
        try dsimp only at this
        rw [IH k hk km] at this
        rw [← ke]; exact this
      · obtain ⟨k, hk, km, ke⟩ := mn_at bnd ⟨p, hp, pin⟩
        rw [← ke]
        by_cases e : k = p
        · rw [e, eP, if_neg c]
          obtain ⟨k2, hk2, km2, ke2⟩ := mn_at (bndS p) ⟨k0, hk0, km0⟩
          rw [← ke2]
          have := mn_le (f := fun k => ww W p n (rm S t) k + W k t) hk2 km2
          have := tri k2 p t
          try dsimp only at *
          omega
        · have km3 : (rm S t).testBit k = true := by
            rw [bV, decide_eq_false e, Bool.or_false] at km
            exact km
          rw [IH k hk km3]
          exact mn_le (f := fun k => ww W p n (rm S t) k + W k t) hk km3
/-- the shortest round through a set -/
def rnd (W : Nat → Nat → Nat) (p n S : Nat) : Nat := if S = 0 then 0 else mn S (fun t => ww W p n S t) n
theorem rnd_p (hn : n ≤ 8) (hW : ∀ a b, W a b ≤ 40) (h0 : W p p = 0) (tri : ∀ a b c, W a c ≤ W a b + W b c) (hp : p < n) {V : Nat} (hV : V < 2 ^ n) : rnd W p n V = rnd W p n (rm V p) := by
  have V8 : V < 256 := Nat.lt_of_lt_of_le hV (Nat.pow_le_pow_right (by decide) hn)
  have p8 : p < 8 := by omega
  have bO : ∀ i, (rm V p).testBit i = (V.testBit i && !decide (i = p)) := fun i => rm_b V8 p8
  have hO : rm V p < 2 ^ n := Nat.lt_of_le_of_lt (rm_le V8) hV
  have Op : (rm V p).testBit p = false := by rw [bO, decide_eq_true rfl]; simp
  by_cases m : V.testBit p = true
  · have V0 : ¬ V = 0 := fun e => by rw [e, Nat.zero_testBit] at m; cases m
    have bV : ∀ i, V.testBit i = ((rm V p).testBit i || decide (i = p)) := fun i => by
      rw [bO]
      by_cases e : i = p
      · subst e; rw [m, decide_eq_true rfl]; simp
      · rw [decide_eq_false e]; simp
    have same : ∀ t, t < n → (rm V p).testBit t = true → ww W p n V t = ww W p n (rm V p) t := fun t ht hm => ww_p hn hW h0 tri hp (rm V p) (Nat.le_refl _) hO hV bV Op ht hm
    have eP : ww W p n V p = if rm V p = 0 then 0 else mn (rm V p) (fun k => ww W p n (rm V p) k + W k p) n := by rw [ww_eq hn V8 hp m, h0]
    have bndV : ∀ k, k < n → V.testBit k = true → ww W p n V k < 1000000 := fun k hk _ => by have := ww_b (p := p) hn hW hV hk; omega
    unfold rnd
    rw [if_neg V0]
    by_cases c : rm V p = 0
    · rw [if_pos c]
      have := mn_le (f := fun t => ww W p n V t) hp m
      try dsimp only at this
      rw [eP, if_pos c] at this
      omega
    · rw [if_neg c]
      obtain ⟨k0, hk0, km0⟩ := tb_ex hO c
      have bndO : ∀ k, k < n → (rm V p).testBit k = true → ww W p n (rm V p) k < 1000000 := fun k hk _ => by have := ww_b (p := p) hn hW hO hk; omega
      have bndP : ∀ k, k < n → (rm V p).testBit k = true → ww W p n (rm V p) k + W k p < 1000000 := fun k hk _ => by have := ww_b (p := p) hn hW hO hk; have := hW k p; omega
      apply Nat.le_antisymm
      · obtain ⟨k, hk, km, ke⟩ := mn_at bndO ⟨k0, hk0, km0⟩
        have := mn_le (f := fun t => ww W p n V t) hk (by rw [bV, km, Bool.true_or])
        try dsimp only at this
        rw [same k hk km] at this
        rw [← ke]; exact this
      · obtain ⟨k, hk, km, ke⟩ := mn_at bndV ⟨p, hp, m⟩
        rw [← ke]
        by_cases e : k = p
        · rw [e, eP, if_neg c]
          obtain ⟨k2, hk2, km2, ke2⟩ := mn_at bndP ⟨k0, hk0, km0⟩
          rw [← ke2]
          have := mn_le (f := fun t => ww W p n (rm V p) t) hk2 km2
          try dsimp only at *
          omega
        · have km3 : (rm V p).testBit k = true := by rw [bO, km, decide_eq_false e]; rfl
          rw [same k hk km3]
          exact mn_le (f := fun t => ww W p n (rm V p) t) hk km3
  · have : rm V p = V := Nat.eq_of_testBit_eq (fun i => by
      rw [bO]
      by_cases e : i = p
      · subst e
        have : V.testBit i = false := by simpa using m
        rw [this]; simp
      · rw [decide_eq_false e]; simp)
    rw [this]
end
/-! ===== rounds of the class ===== -/
section
variable {r4 r5 r48 : Nat → Int32} {W : Nat → Nat → Nat} {p n : Nat}
theorem lo_is {R : Nat} {b : Int32} {f : Nat → Nat} (hn : n ≤ 8) (hR : R < 256) (hf : ∀ k, k < n → R.testBit k = true → (if b = -1 then r48 (R * 8 + k) + 0 else r48 (R * 8 + k) + vX7_wayBetween r4 r5 (nI k) b) = nI (f k) ∧ f k < 1000000) : vX7_leastOf r4 r5 r48 n R b = nI (mn R f n) :=
  (fo_rel (R := fun _ (a : Int32) c => a = nI c ∧ c ≤ 1000000) n 1000000 1000000 ⟨rfl, Nat.le_refl _⟩ (fun k a c hk e => by
    obtain ⟨rfl, hc⟩ := e
    unfold fX7_leastOf_1
    rw [nI_clamp (show R * 8 + k < 2 ^ 31 by omega)]
    by_cases m : R.testBit k = true
    · obtain ⟨h1, h2⟩ := hf k hk m
      rw [if_neg (fun z => by rw [and_bt (show k < 8 by omega), bt_nI (by omega), m] at z; cases z), if_pos m]
      have key : ∀ x : Int32, x = nI (f k) → (if x < nI c then x else nI c) = nI (min c (f k)) ∧ min c (f k) ≤ 1000000 := fun x hx => by
        rw [hx]
        by_cases l : f k < c
        · rw [if_pos (nI_lt l (by omega)), Nat.min_eq_right (by omega)]; exact ⟨rfl, by omega⟩
        · rw [if_neg (nI_nlt (by omega) (by omega)), Nat.min_eq_left (by omega)]; exact ⟨rfl, hc⟩
      by_cases z : b = -1
      · rw [if_pos z] at h1
        rw [if_pos z]
        exact key _ h1
      · rw [if_neg z] at h1
        rw [if_neg z]
        exact key _ h1
    · have m2 : R.testBit k = false := by simpa using m
      rw [if_pos ((and_bt (show k < 8 by omega)).mpr (by rw [bt_nI (by omega)]; exact m2)), if_neg m]
      exact ⟨rfl, hc⟩)).1
def sb_ (S O : Nat) : Prop := ∀ i, S.testBit i = true → O.testBit i = true
theorem sub_is {S O : Nat} (hS : S < 256) (hO : O < 256) : ((nI S) &&& ((nI O) ^^^ (-1))) = 0 ↔ sb_ S O := by
  rw [bz_]
  constructor
  · intro h i hi
    have l : i < 32 := by
      rcases Nat.lt_or_ge i 32 with q | q
      · exact q
      · rw [tb_hi (n := 8) hS (by omega)] at hi; cases hi
    have := h i l
    rw [b_and, b_not _ l, bt_nI (by omega), bt_nI (by omega), hi, Bool.true_and] at this
    cases z : O.testBit i with
    | true => rfl
    | false => rw [z] at this; cases this
  · intro h i l
    rw [b_and, b_not _ l, bt_nI (by omega), bt_nI (by omega)]
    cases z : S.testBit i with
    | false => rfl
    | true => rw [h i z]; rfl
/-- the class's row after the sets to N -/
def cT (W : Nat → Nat → Nat) (p n O N : Nat) (r : Nat → Int32) : Prop := ∀ S t, S ≤ N → sb_ S O → t < n → S.testBit t = true → r (S * 8 + t) = nI (ww W p n S t)
theorem cl_step (hn : n ≤ 8) (hW : ∀ a b, W a b ≤ 40) (hw : ∀ a b, a < n → b < n → vX7_wayBetween r4 r5 (nI a) (nI b) = nI (W a b)) (hp : p < n) {O S t : Nat} (hO : O < 2 ^ n) {r : Nat → Int32} (hS : S ≤ O) (hs : sb_ S O) (ht : t < n) (hm : S.testBit t = true) (hT : ∀ S2 t2, S2 < S → sb_ S2 O → t2 < n → S2.testBit t2 = true → r (S2 * 8 + t2) = nI (ww W p n S2 t2)) : vX7_leastWayTo r4 r5 r n (nI p) S (nI t) = nI (ww W p n S t) := by
  have O8 : O < 256 := Nat.lt_of_lt_of_le hO (Nat.pow_le_pow_right (by decide) hn)
  have S8 : S < 256 := by omega
  have l := rm_lt S8 (show t < 8 by omega) hm
  unfold vX7_leastWayTo
  rw [rm_I S8, nI_clamp (by omega), ww_eq hn S8 ht hm]
  by_cases c : rm S t = 0
  · rw [if_pos (by rw [c]; rfl), if_pos c, hw p t hp ht]
  · rw [if_neg (nI_ne0 (by omega) (by omega)), if_neg c]
    refine lo_is hn (by omega) (fun k hk km => ?_)
    have sk : sb_ (rm S t) O := fun i hi => hs i (by
      rw [rm_b S8 (by omega)] at hi
      cases z : S.testBit i with
      | true => rfl
      | false => rw [z] at hi; cases hi)
    have b1 := ww_b (p := p) hn hW (show rm S t < 2 ^ n by omega) hk
    have b2 := hW k t
    rw [if_neg (nI_ne1 (show t < 2 ^ 31 by omega)), hT _ k l sk hk km, hw k t hk ht, nI_add]
    exact ⟨rfl, by omega⟩
theorem cl_round (hn : n ≤ 8) (hW : ∀ a b, W a b ≤ 40) (hw : ∀ a b, a < n → b < n → vX7_wayBetween r4 r5 (nI a) (nI b) = nI (W a b)) (hp : p < n) {V : Nat} (hV : V < 2 ^ n) : vX7_leastRound r4 r5 r48 n (nI p) V = nI (rnd W p n (rm V p)) := by
  have V8 : V < 256 := Nat.lt_of_lt_of_le hV (Nat.pow_le_pow_right (by decide) hn)
  have hO : rm V p < 2 ^ n := Nat.lt_of_le_of_lt (rm_le V8) hV
  have O8 : rm V p < 256 := Nat.lt_of_le_of_lt (rm_le V8) V8
  generalize hOe : rm V p = O at hO O8
  have inner : ∀ k1 (a : Nat → Int32), k1 < 255 → 1 + k1 ≤ O → cT W p n O k1 a → cT W p n O (k1 + 1) (Sum.elim (fun x => x) (fun x => x) (jj_fx (fX7_leastRound_2 r4 r5 n (nI p) V k1) n a)) := by
    intro k1 a hk1 hle hT
    have dec : Decidable (sb_ (1 + k1) O) := Classical.propDecidable _
    have hF : ∀ k2 (x : Nat → Int32), fX7_leastRound_2 r4 r5 n (nI p) V k1 k2 x = if sb_ (1 + k1) O then (if (1 + k1).testBit k2 = true ∧ k2 < 8 then (Sum.inl (upd x ((1 + k1) * 8 + k2) (vX7_leastWayTo r4 r5 x n (nI p) (1 + k1) (nI k2)))) else (if k2 < 8 then .inl x else fX7_leastRound_2 r4 r5 n (nI p) V k1 k2 x)) else .inr x := fun k2 x => by
      by_cases c : sb_ (1 + k1) O
      · rw [if_pos c]
        by_cases k8 : k2 < 8
        · unfold fX7_leastRound_2
          rw [rm_I V8, hOe, if_pos ((sub_is (by omega) O8).mpr c), nI_clamp (by omega)]
          by_cases m : (1 + k1).testBit k2 = true
          · rw [if_neg (fun z => by rw [and_bt k8, bt_nI (by omega), m] at z; cases z), if_pos ⟨m, k8⟩]
          · have m2 : (1 + k1).testBit k2 = false := by simpa using m
            rw [if_pos ((and_bt k8).mpr (by rw [bt_nI (by omega)]; exact m2)), if_neg (fun z => m z.1), if_pos k8]
        · rw [if_neg (fun z => k8 z.2), if_neg k8]
      · rw [if_neg c]
        unfold fX7_leastRound_2
        rw [rm_I V8, hOe, if_neg (fun z => c ((sub_is (by omega) O8).mp z))]
    by_cases c : sb_ (1 + k1) O
    · obtain ⟨x, ex, hx⟩ := fox_rel (R := fun j (_ : Unit) (x : Nat → Int32) => cT W p n O k1 x ∧ ∀ t, t < j → t < n → (1 + k1).testBit t = true → x ((1 + k1) * 8 + t) = nI (ww W p n (1 + k1) t)) (f := fun _ u => u) (F := fX7_leastRound_2 r4 r5 n (nI p) V k1) n () a ⟨hT, fun t z => absurd z (Nat.not_lt_zero t)⟩ (fun k2 _ x hk2 hx => by
        obtain ⟨h1, h2⟩ := hx
        have k8 : k2 < 8 := by omega
        have e := hF k2 x
        rw [if_pos c] at e
        by_cases m : (1 + k1).testBit k2 = true
        · rw [if_pos ⟨m, k8⟩] at e
          refine ⟨_, e, fun S t hS hs ht hm => ?_, fun t ht htn hm => ?_⟩
          · rw [jj_une (by omega)]; exact h1 S t hS hs ht hm
          · by_cases et : t = k2
            · subst et
              rw [jj_ueq rfl]
              exact cl_step hn hW hw hp hO hle c htn hm (fun S2 t2 l2 s2 ht2 hm2 => h1 S2 t2 (by omega) s2 ht2 hm2)
            · rw [jj_une (by omega)]; exact h2 t (by omega) htn hm
        · rw [if_neg (fun z => m z.1), if_pos k8] at e
          refine ⟨x, e, h1, fun t ht htn hm => ?_⟩
          have : ¬ t = k2 := fun et => by rw [et] at hm; exact m hm
          exact h2 t (by omega) htn hm)
      rw [ex]
      show cT W p n O (k1 + 1) x
      intro S t hS hs ht hm
      by_cases e : S = 1 + k1
      · subst e; exact hx.2 t (by omega) ht hm
      · exact hx.1 S t (by omega) hs ht hm
    · have : Sum.elim (fun x => x) (fun x => x) (jj_fx (fX7_leastRound_2 r4 r5 n (nI p) V k1) n a) = a := by
        have key : ∀ N, Sum.elim (fun x => x) (fun x => x) (jj_fx (fX7_leastRound_2 r4 r5 n (nI p) V k1) N a) = a := fun N => by
          induction N with
          | zero => rfl
          | succ N ihN =>
            show Sum.elim (fun x => x) (fun x => x) (Sum.elim (fun b => fX7_leastRound_2 r4 r5 n (nI p) V k1 N b) (fun r => .inr r) (jj_fx (fX7_leastRound_2 r4 r5 n (nI p) V k1) N a)) = a
            revert ihN
            cases jj_fx (fX7_leastRound_2 r4 r5 n (nI p) V k1) N a with
            | inl y =>
              intro ihN
              have ihN : y = a := ihN
              have e := hF N y
              rw [if_neg c] at e
              show Sum.elim (fun x => x) (fun x => x) (fX7_leastRound_2 r4 r5 n (nI p) V k1 N y) = a
              rw [e]
              exact ihN
            | inr y => exact fun ihN => ihN
        exact key n
      rw [this]
      intro S t hS hs ht hm
      by_cases e : S = k1 + 1
      · subst e; exact absurd (by rw [Nat.add_comm]; exact hs) c
      · exact hT S t (by omega) hs ht hm
  have outer : ∀ N, N ≤ 255 → cT W p n O (min N O) (Sum.elim (fun x => x) (fun x => x) (jj_fx (fX7_leastRound_1 r4 r5 n (nI p) V) N r48)) ∧ (N ≤ O → ∃ x, jj_fx (fX7_leastRound_1 r4 r5 n (nI p) V) N r48 = .inl x) := by
    intro N
    induction N with
    | zero =>
      intro _
      refine ⟨fun S t hS _ _ hm => ?_, fun _ => ⟨r48, rfl⟩⟩
      have : S = 0 := by omega
      rw [this, Nat.zero_testBit] at hm
      cases hm
    | succ N ihN =>
      intro hN
      obtain ⟨i1, i2⟩ := ihN (by omega)
      have e : jj_fx (fX7_leastRound_1 r4 r5 n (nI p) V) (N + 1) r48 = Sum.elim (fun b => fX7_leastRound_1 r4 r5 n (nI p) V N b) (fun r => .inr r) (jj_fx (fX7_leastRound_1 r4 r5 n (nI p) V) N r48) := rfl
      rw [e]
      by_cases l : 1 + N ≤ O
      · obtain ⟨x, ex⟩ := i2 (by omega)
        rw [ex] at i1 ⊢
        have i1 : cT W p n O (min N O) x := i1
        rw [Nat.min_eq_left (by omega)] at i1
        have e2 : fX7_leastRound_1 r4 r5 n (nI p) V N x = .inl (Sum.elim (fun x => x) (fun x => x) (jj_fx (fX7_leastRound_2 r4 r5 n (nI p) V N) n x)) := by
          unfold fX7_leastRound_1
          rw [rm_I V8, hOe, if_neg (nI_nlt l (by omega))]
          cases jj_fx (fX7_leastRound_2 r4 r5 n (nI p) V N) n x <;> rfl
        show cT W p n O (min (N + 1) O) (Sum.elim (fun x => x) (fun x => x) (fX7_leastRound_1 r4 r5 n (nI p) V N x)) ∧ (N + 1 ≤ O → ∃ y, fX7_leastRound_1 r4 r5 n (nI p) V N x = .inl y)
        rw [e2, Nat.min_eq_left (by omega)]
        exact ⟨inner N x (by omega) l i1, fun _ => ⟨_, rfl⟩⟩
      · refine ⟨?_, fun z => absurd z (by omega)⟩
        rw [Nat.min_eq_right (by omega)]
        rw [Nat.min_eq_right (by omega)] at i1
        revert i1
        cases jj_fx (fX7_leastRound_1 r4 r5 n (nI p) V) N r48 with
        | inl x =>
          intro i1
          have e2 : fX7_leastRound_1 r4 r5 n (nI p) V N x = .inr x := by
            unfold fX7_leastRound_1
            rw [rm_I V8, hOe, if_pos (nI_lt (show O < 1 + N by omega) (by omega))]
          show cT W p n O O (Sum.elim (fun x => x) (fun x => x) (fX7_leastRound_1 r4 r5 n (nI p) V N x))
          rw [e2]; exact i1
        | inr x => exact fun i1 => i1
  obtain ⟨T1, _⟩ := outer 255 (Nat.le_refl _)
  rw [Nat.min_eq_right (by omega)] at T1
  unfold vX7_leastRound rnd
  rw [rm_I V8, hOe, nI_clamp (by omega)]
  have L : ∀ s : Sum (Nat → Int32) (Nat → Int32), Sum.elim (fun a1 => if nI O = 0 then 0 else vX7_leastOf r4 r5 a1 n O (-1)) (fun r1_ => if nI O = 0 then 0 else vX7_leastOf r4 r5 r1_ n O (-1)) s = if nI O = 0 then 0 else vX7_leastOf r4 r5 (Sum.elim (fun x => x) (fun x => x) s) n O (-1) := fun s => by cases s <;> rfl
  rw [L]
  by_cases c : O = 0
  · rw [if_pos (by rw [c]; rfl), if_pos c]; rfl
  · rw [if_neg (nI_ne0 (by omega) (by omega)), if_neg c]
    refine lo_is hn O8 (fun k hk km => ?_)
    rw [if_pos rfl, Int32.add_zero, T1 O k (Nat.le_refl _) (fun _ z => z) hk km]
    have := ww_b (p := p) hn hW hO hk
    exact ⟨rfl, by omega⟩
end
