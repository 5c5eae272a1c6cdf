/-! ===== rounds of the reference ===== -/
def mnR (a : Int32) (c : Nat) (no : Prop) : Prop := (a = -1 ∧ c = 1000000 ∧ no) ∨ (a = nI c ∧ c < 1000000)
theorem mnR_up {a x : Int32} {c y : Nat} {no : Prop} (h : mnR a c no) (hx : x = nI y) (hy : y < 1000000) : (if a = -1 then x else vX10_less a x) = nI (min c y) ∧ min c y < 1000000 := by
  rcases h with ⟨e, ec, _⟩ | ⟨e, ec⟩
  · rw [if_pos e, hx, ec, Nat.min_eq_right (by omega)]; exact ⟨rfl, hy⟩
  · rw [if_neg (by rw [e]; exact nI_ne1 (by omega)), e, hx]
    unfold vX10_less
    by_cases l : y ≤ c
    · rw [if_pos (nI_le l (by omega)), Nat.min_eq_right l]; exact ⟨rfl, hy⟩
    · rw [if_neg (nI_ge (by omega) (by omega)), Nat.min_eq_left (by omega)]; exact ⟨rfl, ec⟩
section
variable {g64 : Nat → Nat → Int32} {W : Nat → Nat → Nat} {p n : Nat}
theorem ro_3 {k1 k2 : Nat} {a2 : Int32 × (Nat → Nat → Int32)} {f : Nat → Nat} (hn : n ≤ 8) (hS : 1 + k1 < 256) (hk : k2 < 8) (hf : ∀ k, k < n → (rm (1 + k1) k2).testBit k = true → a2.2 (rm (1 + k1) k2) k + vX10_way g64 (nI k) (nI k2) = nI (f k) ∧ f k < 1000000) (ex : ∃ k, k < n ∧ (rm (1 + k1) k2).testBit k = true) : jj_fo (fX10_round_3 g64 k1 k2 a2) n (-1) = nI (mn (rm (1 + k1) k2) f n) := by
  have key := fo_rel (R := fun j (a : Int32) c => mnR a c (∀ k, k < j → ¬ (rm (1 + k1) k2).testBit k = true)) (f := fX10_round_3 g64 k1 k2 a2) (g := fun k a => if (rm (1 + k1) k2).testBit k = true then min a (f k) else a) n (-1) 1000000 (Or.inl ⟨rfl, rfl, fun k z => absurd z (Nat.not_lt_zero k)⟩) (fun k a c hk2 ih => by
    unfold fX10_round_3
    have l := rm_le (t := k2) hS
    rw [rm_I hS, has_bt (show k < 8 by omega), bt_nI (by omega), nI_clamp (by omega)]
    by_cases m : (rm (1 + k1) k2).testBit k = true
    · rw [if_pos m, if_neg one0, if_pos m]
      obtain ⟨h1, h2⟩ := hf k hk2 m
      exact Or.inr (mnR_up ih h1 h2)
    · rw [if_neg m, if_pos rfl, if_neg m]
      rcases ih with ⟨e, ec, no⟩ | r
      · exact Or.inl ⟨e, ec, fun j hj => by
          by_cases z : j = k
          · rw [z]; exact m
          · exact no j (by omega)⟩
      · exact Or.inr r)
  rcases key with ⟨_, _, no⟩ | ⟨e, _⟩
  · obtain ⟨k, hk2, hm⟩ := ex
    exact absurd hm (no k hk2)
  · exact e
theorem ro_4 {k1 k2 : Nat} {a2 : Int32 × (Nat → Nat → Int32)} {x : Int32} (hn : n ≤ 8) (hS : 1 + k1 < 256) (h0 : rm (1 + k1) k2 = 0) : jj_fo (fX10_round_4 g64 k1 k2 a2) n x = x := fo_inv (P := fun _ a => a = x) n x rfl (fun k a hk e => by
  unfold fX10_round_4
  rw [rm_I hS, h0, has_bt (show k < 8 by omega), bt_nI (by decide), Nat.zero_testBit, if_neg (show ¬ false = true by decide), if_pos rfl]
  exact e)
def mT (W : Nat → Nat → Nat) (p n V N : Nat) (G : Nat → Nat → Int32) : Prop := ∀ S t, S ≤ N → sb_ S V → t < n → S.testBit t = true → G S t = nI (ww W p n S t)
/-- one person more of a set -/
theorem ro_2 (hn : n ≤ 8) (hW : ∀ a b, W a b ≤ 40) (hw : ∀ a b, a < n → b < n → vX10_way g64 (nI a) (nI b) = nI (W a b)) (hp : p < n) {V k1 k2 : Nat} (hV : V < 2 ^ n) (hS : 1 + k1 ≤ V) (hk2 : k2 < n) {a : Int32 × (Nat → Nat → Int32)} (hT : mT W p n V k1 a.2) :
    (sb_ (1 + k1) V → (1 + k1).testBit k2 = true → fX10_round_2 g64 n (nI p) V k1 k2 a = ((if 1 + k1 = V then (if a.1 = -1 then nI (ww W p n (1 + k1) k2) else vX10_less a.1 (nI (ww W p n (1 + k1) k2))) else a.1), jj_ug a.2 (1 + k1) k2 (nI (ww W p n (1 + k1) k2)))) ∧ (¬ (sb_ (1 + k1) V ∧ (1 + k1).testBit k2 = true) → fX10_round_2 g64 n (nI p) V k1 k2 a = a) := by
  have V8 : V < 256 := Nat.lt_of_lt_of_le hV (Nat.pow_le_pow_right (by decide) hn)
  have S8 : 1 + k1 < 256 := by omega
  have k8 : k2 < 8 := by omega
  refine ⟨fun hs hm => ?_, fun no => ?_⟩
  · have l := rm_lt S8 k8 hm
    unfold fX10_round_2
    rw [if_pos ((sub_is S8 V8).mpr hs), has_bt k8, bt_nI (by omega), if_pos hm, if_neg one0, rm_I S8, nI_clamp (by omega)]
    have sk : sb_ (rm (1 + k1) k2) V := fun i hi => hs i (by
      rw [rm_b S8 k8] at hi
      cases z : (1 + k1).testBit i with
      | true => rfl
      | false => rw [z] at hi; cases hi)
    have val : (if nI (rm (1 + k1) k2) = 0 then jj_fo (fX10_round_4 g64 k1 k2 a) n (vX10_way g64 (nI p) (nI k2)) else jj_fo (fX10_round_3 g64 k1 k2 a) n (-1)) = nI (ww W p n (1 + k1) k2) := by
      rw [ww_eq hn S8 hk2 hm]
      by_cases c : rm (1 + k1) k2 = 0
      · rw [if_pos (by rw [c]; rfl), if_pos c, ro_4 hn S8 c, hw p k2 hp hk2]
      · rw [if_neg (nI_ne0 (by omega) (by omega)), if_neg c]
        refine ro_3 hn S8 k8 (fun k hk km => ?_) (tb_ex (show rm (1 + k1) k2 < 2 ^ n by omega) c)
        have b1 := ww_b (p := p) hn hW (show rm (1 + k1) k2 < 2 ^ n by omega) hk
        have b2 := hW k k2
        rw [hT _ k (by omega) sk hk km, hw k k2 hk hk2, nI_add]
        exact ⟨rfl, by omega⟩
    have eV : (nI (1 + k1) = nI V) ↔ 1 + k1 = V := nI_eq (by omega) (by omega)
    by_cases c : nI (rm (1 + k1) k2) = 0
    · rw [if_pos c] at val ⊢
      rw [val]
      by_cases e : 1 + k1 = V
      · rw [if_pos (eV.mpr e), if_pos e]
        by_cases z : a.1 = -1
        · rw [if_pos z, if_pos z]
        · rw [if_neg z, if_neg z]
      · rw [if_neg (fun z => e (eV.mp z)), if_neg e]
    · rw [if_neg c] at val ⊢
      rw [val]
      by_cases e : 1 + k1 = V
      · rw [if_pos (eV.mpr e), if_pos e]
        by_cases z : a.1 = -1
        · rw [if_pos z, if_pos z]
        · rw [if_neg z, if_neg z]
      · rw [if_neg (fun z => e (eV.mp z)), if_neg e]
  · unfold fX10_round_2
    by_cases hs : sb_ (1 + k1) V
    · rw [if_pos ((sub_is S8 V8).mpr hs), has_bt k8, bt_nI (by omega), if_neg (fun z => no ⟨hs, z⟩), if_pos rfl]
    · rw [if_neg (fun z => hs ((sub_is S8 V8).mp z))]
theorem ro_1 (hn : n ≤ 8) (hW : ∀ a b, W a b ≤ 40) (hw : ∀ a b, a < n → b < n → vX10_way g64 (nI a) (nI b) = nI (W a b)) (hp : p < n) {V : Nat} (hV : V < 2 ^ n) (h0 : 0 < V) (g521 : Nat → Nat → Int32) : (jj_fo (fX10_round_1 g64 n (nI p) V) V ((-1), g521)).1 = nI (rnd W p n V) := by
  have V8 : V < 256 := Nat.lt_of_lt_of_le hV (Nat.pow_le_pow_right (by decide) hn)
  have key := fo_inv (P := fun N (a : Int32 × (Nat → Nat → Int32)) => N ≤ V → mT W p n V N a.2 ∧ (N < V → a.1 = -1) ∧ (N = V → a.1 = nI (mn V (fun t => ww W p n V t) n))) (f := fX10_round_1 g64 n (nI p) V) V ((-1), g521) (fun _ => ⟨fun S t hS _ _ hm => (by
    have : S = 0 := by omega
    rw [this, Nat.zero_testBit] at hm
    cases hm), fun _ => rfl, fun z => absurd z (by omega)⟩) (fun k1 a hk1 ih _ => by
    obtain ⟨i1, i2, _⟩ := ih (by omega)
    have i2 := i2 hk1
    have inner := fo_inv (P := fun j (x : Int32 × (Nat → Nat → Int32)) => j ≤ n → mT W p n V k1 x.2 ∧ (sb_ (1 + k1) V → ∀ t, t < j → (1 + k1).testBit t = true → x.2 (1 + k1) t = nI (ww W p n (1 + k1) t)) ∧ (¬ 1 + k1 = V → x.1 = -1) ∧ (1 + k1 = V → mnR x.1 (jj_fo (fun k a => if V.testBit k = true then min a (ww W p n V k) else a) j 1000000) (∀ k, k < j → ¬ V.testBit k = true))) (f := fX10_round_2 g64 n (nI p) V k1) n (a.1, a.2) (fun _ => ⟨i1, fun _ t z => absurd z (Nat.not_lt_zero t), fun _ => i2, fun _ => Or.inl ⟨i2, rfl, fun k z => absurd z (Nat.not_lt_zero k)⟩⟩) (fun k2 x hk2 jh _ => by
      obtain ⟨j1, j2, j3, j4⟩ := jh (by omega)
      obtain ⟨r1, r2⟩ := ro_2 hn hW hw hp hV (by omega) hk2 j1
      have step : ∀ z, jj_fo (fun k a => if V.testBit k = true then min a (ww W p n V k) else a) (k2 + 1) z = if V.testBit k2 = true then min (jj_fo (fun k a => if V.testBit k = true then min a (ww W p n V k) else a) k2 z) (ww W p n V k2) else jj_fo (fun k a => if V.testBit k = true then min a (ww W p n V k) else a) k2 z := fun z => rfl
      by_cases c : sb_ (1 + k1) V ∧ (1 + k1).testBit k2 = true
      · rw [r1 c.1 c.2]
        refine ⟨fun S t hS hs ht hm => ?_, fun hs t ht hm => ?_, fun z => ?_, fun z => ?_⟩
        · show jj_ug x.2 (1 + k1) k2 _ S t = _
          unfold jj_ug
          rw [if_neg (by omega)]
          exact j1 S t hS hs ht hm
        · show jj_ug x.2 (1 + k1) k2 _ (1 + k1) t = _
          unfold jj_ug
          rw [if_pos rfl]
          by_cases e : t = k2
          · rw [jj_ueq e, e]
          · rw [jj_une e]; exact j2 hs t (by omega) hm
        · show (if 1 + k1 = V then _ else x.1) = -1
          rw [if_neg z]; exact j3 z
        · show mnR (if 1 + k1 = V then (if x.1 = -1 then nI (ww W p n (1 + k1) k2) else vX10_less x.1 (nI (ww W p n (1 + k1) k2))) else x.1) _ _
          rw [if_pos z, step, if_pos (show V.testBit k2 = true by rw [← z]; exact c.2)]
          have b1 := ww_b (p := p) hn hW hV hk2
          rw [z]
          exact Or.inr (mnR_up (j4 z) rfl (by omega))
      · rw [r2 c]
        refine ⟨j1, fun hs t ht hm => ?_, j3, fun z => ?_⟩
        · have : ¬ t = k2 := fun e => by rw [e] at hm; exact c ⟨hs, hm⟩
          exact j2 hs t (by omega) hm
        · have nm : ¬ V.testBit k2 = true := fun y => c ⟨by rw [z]; exact fun _ w => w, by rw [z]; exact y⟩
          rw [step, if_neg nm]
          rcases j4 z with ⟨e, ec, no⟩ | r
          · exact Or.inl ⟨e, ec, fun k hk => by
              by_cases y : k = k2
              · rw [y]; exact nm
              · exact no k (by omega)⟩
          · exact Or.inr r)
    obtain ⟨f1, f2, f3, f4⟩ := inner (Nat.le_refl _)
    unfold fX10_round_1
    refine ⟨fun S t hS hs ht hm => ?_, fun z => f3 (by omega), fun z => ?_⟩
    · by_cases e : S = k1 + 1
      · subst e
        have := f2 (by rw [Nat.add_comm]; exact hs) t ht (by rw [Nat.add_comm]; exact hm)
        rw [Nat.add_comm] at this
        exact this
      · exact f1 S t (by omega) hs ht hm
    · rcases f4 (by omega) with ⟨_, _, no⟩ | ⟨e, _⟩
      · obtain ⟨k, hk, km⟩ := tb_ex hV (by omega)
        exact absurd km (no k hk)
      · exact e)
  rw [(key (Nat.le_refl _)).2.2 rfl]
  unfold rnd
  rw [if_neg (by omega)]
end
theorem off_N : ∀ a, a ≤ 20 → ∀ b, b ≤ 20 → (if 0 ≤ (nI a - nI b) then (nI a - nI b) else 0 - (nI a - nI b)) = nI ((a - b) + (b - a)) := by decide +kernel
theorem q_round {c : Nat → Nat} {T n m u t : Nat} {L : bL_} {h : hp_} (I : IV c T n m u t L h) (p v : Int32) : res 2 (vX9_round (h 0) (h 1) (h 4) (h 5) (h 48) n p v) (h 0) (rX9_round_0 (h 0) (h 1) (h 4) (h 5) (h 48) n p v) ((rX10_round_49 (h 49) (h 51) (jj_gd h 64 8) (jj_gd h 521 256) n p v) 0) (.int (vX10_round (h 49) (h 51) (jj_gd h 64 8) (jj_gd h 521 256) n p v)) (h 51) (rX10_round_51 (h 49) (h 51) (jj_gd h 64 8) (jj_gd h 521 256) n p v) := by
  have hn := iv_8 I
  unfold vX9_round rX9_round_0 vX10_round rX10_round_49 rX10_round_51
  simp only [in_if, two_if, iv_p I, e_bit, e_week, e_bits hn]
  refine res_if (fun _ => (Or.inr (Or.inl ⟨rfl, rfl, rfl, rfl⟩))) (fun c1 => ?_)
  refine res_if (fun _ => (Or.inr (Or.inr ⟨rfl, rfl, rfl, rfl⟩))) (fun c2 => ?_)
  refine res_if (fun _ => (Or.inr (Or.inr ⟨rfl, rfl, rfl, rfl⟩))) (fun c3 => ?_)
  obtain ⟨Pp, hp, rfl⟩ := jj_persM hn c1
  have p2 : 2 ^ n ≤ 256 := Nat.le_trans (Nat.pow_le_pow_right (by decide) hn) (by decide)
  obtain ⟨V, hV0, rfl⟩ := nI_of c2
  have hV : V < 2 ^ n := by
    unfold vX10_everybody at c3
    rw [sh_n n hn] at c3
    obtain ⟨k, hk⟩ : ∃ k, 2 ^ n = k + 1 := ⟨2 ^ n - 1, by have := Nat.pow_pos (n := n) (show 0 < 2 by decide); omega⟩
    rw [hk, nI_pred] at c3
    rcases Nat.lt_or_ge k V with z | z
    · exact absurd (nI_lt z hV0) c3
    · omega
  rw [nI_clamp hV0]
  obtain ⟨X, Y, hXY⟩ : ∃ X Y : Nat → Nat, ∀ k, X k ≤ 20 ∧ Y k ≤ 20 ∧ (k < n → h 4 k = nI (X k) ∧ h 5 k = nI (Y k)) := by
    refine ⟨fun k => if k < n then (h 4 k).toNatClampNeg else 0, fun k => if k < n then (h 5 k).toNatClampNeg else 0, fun k => ?_⟩
    by_cases l : k < n
    · obtain ⟨x, y, e1, e2, e3, e4⟩ := iv_xy I k l
      simp only [if_pos l]
      rw [e1, e3, nI_clamp (by omega), nI_clamp (by omega)]
      exact ⟨e2, e4, fun _ => ⟨rfl, rfl⟩⟩
    · simp only [if_neg l]
      exact ⟨by decide, by decide, fun z => absurd z l⟩
  obtain ⟨W, hWd⟩ : ∃ W : Nat → Nat → Nat, ∀ a b, W a b = ((X a - X b) + (X b - X a)) + ((Y a - Y b) + (Y b - Y a)) := ⟨fun a b => ((X a - X b) + (X b - X a)) + ((Y a - Y b) + (Y b - Y a)), fun _ _ => rfl⟩
  have hW : ∀ a b, W a b ≤ 40 := fun a b => by
    rw [hWd]
    have := (hXY a).1; have := (hXY a).2.1; have := (hXY b).1; have := (hXY b).2.1
    omega
  have tri : ∀ a b c, W a c ≤ W a b + W b c := fun a b c => by
    rw [hWd, hWd, hWd]
    omega
  have h0 : W Pp Pp = 0 := by rw [hWd]; omega
  have hw : ∀ a b, a < n → b < n → vX7_wayBetween (h 4) (h 5) (nI a) (nI b) = nI (W a b) := fun a b ha hb => by
    unfold vX7_wayBetween
    rw [cl_ (show a < 8 by omega), cl_ (show b < 8 by omega), ((hXY a).2.2 ha).1, ((hXY a).2.2 ha).2, ((hXY b).2.2 hb).1, ((hXY b).2.2 hb).2, off_N _ (hXY a).1 _ (hXY b).1, off_N _ (hXY a).2.1 _ (hXY b).2.1, nI_add, hWd]
  have hw2 : ∀ a b, a < n → b < n → vX10_way (jj_gd h 64 8) (nI a) (nI b) = nI (W a b) := fun a b ha hb => by rw [← t_way (iv_s I) (iv_xy I) hn ha hb]; exact hw a b ha hb
  refine res_ok (ok_e ?_) rfl
  rw [cl_round hn hW hw hp hV, ← rnd_p hn hW h0 tri hp hV]
  by_cases z : V = 0
  · subst z
    rw [if_pos (show nI 0 = 0 from rfl)]
    unfold rnd
    rw [if_pos rfl]
    rfl
  · rw [if_neg (nI_ne0 (by omega) (by omega)), ro_1 hn hW hw2 hp hV (by omega)]
