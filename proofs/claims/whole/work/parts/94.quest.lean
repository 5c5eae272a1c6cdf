/-! ===== more questions ===== -/
theorem sum_c {α β γ : Type} {x : γ} {s : Sum α β} : Sum.elim (fun _ => x) (fun _ => x) s = x := by cases s <;> rfl
theorem one0 : ¬ (1 : Int32) = 0 := by decide
theorem le_if {α : Type} {x y : Int32} {A B : α} : (if x ≤ y then A else B) = if y < x then B else A := by
  by_cases c : x ≤ y
  · rw [if_pos c, if_neg (Int32.not_lt.mpr c)]
  · rw [if_neg c, if_pos (Int32.not_le.mp c)]
theorem or_if {α : Type} {a b : Prop} [Decidable a] [Decidable b] {X Y : α} : (if a then X else if b then X else Y) = if a ∨ b then X else Y := by
  by_cases c : a
  · rw [if_pos c, if_pos (Or.inl c)]
  · by_cases d : b
    · rw [if_neg c, if_pos d, if_pos (Or.inr d)]
    · rw [if_neg c, if_neg d, if_neg (fun q => q.elim c d)]
theorem res_iff {C D : Prop} [Decidable C] [Decidable D] {e : Int32} {a1 a2 : jj_Rs} {r0 z1 z2 t1 t2 r51 w1 w2 : Nat → Int32} {v1 v2 : Int32} (hCD : C ↔ D) (h1 : res e a1 r0 z1 (t1 0) (.int v1) r51 w1) (h2 : ¬ D → res e a2 r0 z2 (t2 0) (.int v2) r51 w2) : res e (if C then a1 else a2) r0 (if C then z1 else z2) ((if D then t1 else t2) 0) (.int (if D then v1 else v2)) r51 (if D then w1 else w2) := by
  by_cases d : D
  · simp only [if_pos d, if_pos (hCD.mpr d)]; exact h1
  · simp only [if_neg d, if_neg (fun c => d (hCD.mp c))]; exact h2 d
theorem sum_ok {α β γ δ : Type} {R : α → β → Prop} {E : γ → δ → Prop} {s : Sum α γ} {s2 : Sum β δ} {f : α → jj_Rs} {g : γ → jj_Rs} {F : β → Int32} {G : δ → Int32} (h : sr R E s s2) (h1 : ∀ a b, R a b → f a = .inl (some (.int (F b)))) (h2 : ∀ a b, E a b → g a = .inl (some (.int (G b)))) : Sum.elim f g s = .inl (some (.int (Sum.elim F G s2))) := by
  cases s <;> cases s2
  · exact h1 _ _ h
  · exact h.elim
  · exact h.elim
  · exact h2 _ _ h
/-! sets as bits -/
theorem bt_set {f : Nat → Int32 → Int32} {p : Nat → Bool} (hf : ∀ k a, k < 8 → f k a = if p k = true then a ||| (1 <<< (nI k &&& 31)) else a ||| 0) {i : Nat} (hi : i < 32) : ∀ j, j ≤ 8 → bt (jj_fo f j 0) i = (decide (i < j) && p i)
  | 0, _ => by
    show bt 0 i = _
    rw [b_0, decide_eq_false (Nat.not_lt_zero i), Bool.false_and]
  | j + 1, hj => by
    show bt (f j (jj_fo f j 0)) i = _
    have ih := bt_set hf hi j (by omega)
    rw [hf j _ (by omega)]
    by_cases c : p j = true
    · rw [if_pos c, b_or, ih, bt_1s j (by omega) i hi]
      by_cases e : i = j
      · subst e
        rw [c, decide_eq_true rfl, decide_eq_true (Nat.lt_succ_self i), Bool.or_true, Bool.and_true]
      · rw [decide_eq_false e, Bool.or_false]
        by_cases l : i < j
        · rw [decide_eq_true l, decide_eq_true (show i < j + 1 by omega)]
        · rw [decide_eq_false l, decide_eq_false (show ¬ i < j + 1 by omega)]
    · rw [if_neg c, b_or, b_0, Bool.or_false, ih]
      by_cases e : i = j
      · subst e
        have c : p i = false := by simpa using c
        rw [c, Bool.and_false, Bool.and_false]
      · by_cases l : i < j
        · rw [decide_eq_true l, decide_eq_true (show i < j + 1 by omega)]
        · rw [decide_eq_false l, decide_eq_false (show ¬ i < j + 1 by omega)]
theorem bz_ {x : Int32} : x = 0 ↔ ∀ i, i < 32 → bt x i = false := ⟨fun h i _ => by rw [h]; exact b_0 i, fun h => b_ext (fun i hi => by rw [h i hi, b_0])⟩
theorem low_ : ∀ k, k < 8 → ∀ i, i < 32 → bt ((1 <<< (nI k &&& 31)) - 1) i = decide (i < k) := by decide +kernel
theorem bt_day {r39 : Nat → Int32} {j i : Nat} (hj : j ≤ 8) (hi : i < 32) (w : Int32) : bt (vX6_bitsInDay_n r39 j w) i = (decide (i < j) && decide (r39 i = w)) := bt_set (p := fun k => decide (r39 k = w)) (fun k a _ => by
  by_cases c : r39 k = w
  · rw [if_pos c, if_pos (decide_eq_true c)]
  · rw [if_neg c, if_neg (by simp [c])]) hi j hj
section
variable {r2 r3 r4 r5 r6 r8 r38 r39 r40 r41 r42 r73 r : Nat → Int32} {g64 : Nat → Nat → Int32} {n m B : Nat}
theorem e_pass {r43 r44 r45 r46 r47 r498 : Nat → Int32} (h : nr r38 r39 r40 r41 r42 r) (hk : nok B r38 r39 r40 r42) (hn : n ≤ 8) (q : Nat) : nr (rX9_letDaysPass_43 r38 r39 r40 r41 r42 r43 r44 r45 r46 r47 n q) (rX9_letDaysPass_44 r38 r39 r40 r41 r42 r43 r44 r45 r46 r47 n q) (rX9_letDaysPass_45 r38 r39 r40 r41 r42 r43 r44 r45 r46 r47 n q) (rX9_letDaysPass_46 r38 r39 r40 r41 r42 r43 r44 r45 r46 r47 n q) (rX9_letDaysPass_47 r38 r39 r40 r41 r42 r43 r44 r45 r46 r47 n q) (jj_fo (fX10_ahead_1 n) q (rX10_copies_nt_498 r r498)) ∧ nok (B + q) (rX9_letDaysPass_43 r38 r39 r40 r41 r42 r43 r44 r45 r46 r47 n q) (rX9_letDaysPass_44 r38 r39 r40 r41 r42 r43 r44 r45 r46 r47 n q) (rX9_letDaysPass_45 r38 r39 r40 r41 r42 r43 r44 r45 r46 r47 n q) (rX9_letDaysPass_47 r38 r39 r40 r41 r42 r43 r44 r45 r46 r47 n q) :=
  fo_rel (R := fun k (a : (Nat → Int32) × (Nat → Int32) × (Nat → Int32) × (Nat → Int32) × (Nat → Int32)) x => nr a.1 a.2.1 a.2.2.1 a.2.2.2.1 a.2.2.2.2 x ∧ nok (B + k) a.1 a.2.1 a.2.2.1 a.2.2.2.2) (f := fun _ (a1 : (Nat → Int32) × (Nat → Int32) × (Nat → Int32) × (Nat → Int32) × (Nat → Int32)) => (rX6_passDay_t_43 a1.1 a1.2.1 a1.2.2.1 n, rX6_passDay_t_44 a1.1 a1.2.1 a1.2.2.1 n, rX6_passDay_t_45 a1.1 a1.2.1 a1.2.2.1 n, a1.2.2.2.1, a1.2.2.2.2)) (g := fX10_ahead_1 n) q (rX6_copyFrom_43 r38 r39 r40 r41 r42 r43 r44 r45 r46 r47, rX6_copyFrom_44 r38 r39 r40 r41 r42 r43 r44 r45 r46 r47, rX6_copyFrom_45 r38 r39 r40 r41 r42 r43 r44 r45 r46 r47, rX6_copyFrom_46 r38 r39 r40 r41 r42 r43 r44 r45 r46 r47, rX6_copyFrom_47 r38 r39 r40 r41 r42 r43 r44 r45 r46 r47) (rX10_copies_nt_498 r r498) ⟨e_copy h, nok_copy hk⟩ (fun k a x _ ih => e_day ih.1 ih.2 hn)
theorem t_helper (h : nr r38 r39 r40 r41 r42 r) (hk : nok B r38 r39 r40 r42) (hs : srl n r2 r3 r4 r5 r6 r73 g64) (hn : n ≤ 8) {b : Nat} (hb : b < n) : vX3_helperBits r2 r3 r6 r8 r38 r39 r40 r41 n m (nI b) = jj_fo (fX10_helpers_1 r8 r73 r g64 m (nI b)) n 0 := fo_eq n 0 (fun k a hk2 => by
  unfold fX10_helpers_1
  rw [e_would h hk hs hn hk2 hb]
  by_cases c1 : vX10_isLoose_n r (nI b) = 0
  · rw [if_pos c1, if_pos c1, if_pos rfl]
  · rw [if_neg c1, if_neg c1]
    by_cases c2 : vX10_isHand_n r (nI k) (nI b) = 0
    · rw [if_pos c2, if_pos c2, if_pos rfl]
    · rw [if_neg c2, if_neg c2]
      by_cases c3 : vX10_holdOf_n r8 r73 r g64 m (nI k) (nI b) 0 < 10
      · rw [if_pos c3, if_pos c3, if_pos rfl]
      · rw [if_neg c3, if_neg c3, if_neg (by decide)])
theorem t_days (h : nr r38 r39 r40 r41 r42 r) (hn : n ≤ 8) : vX9_days r39 n = jj_fo (fX10_days_1 r n) n 0 := fo_eq n 0 (fun k a hk => by
  unfold fX10_days_1
  rw [c0_ (by omega), (h.2 k (by omega)).1, ← t_inDay h hn]
  have e : vX6_bitsInDay_n r39 k (r39 k) = 0 ↔ (vX6_bitsInDay_n r39 n (r39 k) &&& ((1 <<< (nI k &&& 31)) - 1)) = 0 := by
    rw [bz_, bz_]
    refine forall_congr' fun i => forall_congr' fun hi => ?_
    rw [b_and, bt_day (by omega) hi, bt_day hn hi, low_ k (by omega) i hi]
    by_cases l : i < k
    · rw [decide_eq_true l, decide_eq_true (show i < n by omega), Bool.and_true]
    · rw [decide_eq_false l, Bool.false_and, Bool.and_false]
  by_cases c : vX6_bitsInDay_n r39 k (r39 k) = 0
  · rw [if_pos c, if_pos (e.mp c)]
  · rw [if_neg c, if_neg (fun q => c (e.mpr q))])
theorem t_steady (h : nr r38 r39 r40 r41 r42 r) (hk : nok B r38 r39 r40 r42) (hs : srl n r2 r3 r4 r5 r6 r73 g64) (hn : n ≤ 8) : vX9_steady r2 r3 r6 r8 r38 r39 r40 r41 n m = jj_fo (fX10_steady_1 r8 r73 r g64 m) n 0 := fo_eq n 0 (fun k a hk2 => by
  unfold fX10_steady_1
  rw [e_would h hk hs hn hk2 hk2, e_hand h hk (show k < 8 by omega), if_pos rfl]
  by_cases c1 : vX10_isLoose_n r (nI k) = 0
  · rw [if_pos c1, if_pos c1, if_pos rfl]
  · rw [if_neg c1, if_neg c1, if_neg one0]
    by_cases c3 : vX10_holdOf_n r8 r73 r g64 m (nI k) (nI k) 0 < 10
    · rw [if_pos c3, if_pos c3, if_pos rfl]
    · rw [if_neg c3, if_neg c3, if_neg one0])
theorem t_loose (h : nr r38 r39 r40 r41 r42 r) (hn : n ≤ 8) : vX9_loose r38 r40 n = jj_fo (fX10_loose_1 r) n 0 := fo_eq n 0 (fun k a hk => by
  unfold fX10_loose_1
  rw [e_loose h (by omega)])
theorem t_ways (hs : srl n r2 r3 r4 r5 r6 r73 g64) (hx : ∀ p, p < n → ∃ x y, r4 p = nI x ∧ x ≤ 20 ∧ r5 p = nI y ∧ y ≤ 20) (hn : n ≤ 8) {a : Nat} (ha : a < n) : vX7_waysTogether r4 r5 n (nI a) = jj_fo (fX10_middle_2 g64 a) n 0 := fo_eq n 0 (fun k z hk => by
  unfold fX10_middle_2
  rw [t_way hs hx hn ha hk])
end
def solF (v w : Int32) (k1 : Nat) (a1 : Int32 × Int32 × Int32) : Int32 × Int32 × Int32 := (if (vX9_isRest ((nI k1) >>> (1 &&& 31)) ((nI k1) &&& 1) v w) = 0 then (a1.1, a1.2.1, a1.2.2) else (if a1.1 = 0 then ((a1.1 + 1), (((10 : Int32) * ((nI k1) >>> (1 &&& 31))) + ((nI k1) &&& 1)), ((vX9_soldierHas ((nI k1) >>> (1 &&& 31)) ((nI k1) &&& 1) v w) + (vX9_soldierHas ((nI k1) &&& 1) ((nI k1) >>> (1 &&& 31)) v w))) else ((a1.1 + 1), a1.2.1, a1.2.2)))
theorem sol_R (a b v w : Int32) : vX9_isRest a b v w = if vX10_isBest a b v w = 0 then 0 else vX10_isBest b a v w := by
  have e : ∀ a b, vX10_hasBy a b v w = vX9_soldierHas a b v w := fun _ _ => rfl
  unfold vX9_isRest vX10_isBest
  rw [e, e, e, e]
  by_cases c : vX9_soldierHas a b v w < vX9_soldierHas (1 - a) b v w
  · rw [if_pos c, if_pos c, if_pos rfl]
  · rw [if_neg c, if_neg c, if_neg one0]
theorem sol_k {v w x y : Int32} {k k1 k2 : Nat} (hx : (nI k >>> (1 &&& 31) : Int32) = nI k1) (hy : (nI k &&& 1 : Int32) = nI k2) (a : Int32 × Int32 × Int32) : solF v w k a = fX10_soldier_2 v w k1 k2 a := by
  have e : ∀ a b, vX10_hasBy a b v w = vX9_soldierHas a b v w := fun _ _ => rfl
  unfold solF fX10_soldier_2
  rw [hx, hy, sol_R, e, e]
  by_cases c : vX10_isBest (nI k1) (nI k2) v w = 0
  · rw [if_pos c, if_pos c, if_pos rfl]
  · rw [if_neg c, if_neg c]
theorem sol_1 {v w : Int32} {k : Nat} (a : Int32 × Int32 × Int32) : fX10_soldier_1 v w k a = fX10_soldier_2 v w k 1 (fX10_soldier_2 v w k 0 a) := by
  have e : jj_fo (fX10_soldier_2 v w k) 2 (a.1, a.2.1, a.2.2) = fX10_soldier_2 v w k 1 (fX10_soldier_2 v w k 0 a) := by simp only [jj_fo]
  unfold fX10_soldier_1
  rw [e]
theorem sol_4 (v w : Int32) : jj_fo (solF v w) 4 (0, -1, 0) = jj_fo (fX10_soldier_1 v w) 2 (0, -1, 0) := by
  simp only [jj_fo]
  rw [sol_1, sol_1, sol_k (x := 0) (y := 0) (k := 0) (k1 := 0) (k2 := 0) (by decide) (by decide), sol_k (x := 0) (y := 0) (k := 1) (k1 := 0) (k2 := 1) (by decide) (by decide), sol_k (x := 0) (y := 0) (k := 2) (k1 := 1) (k2 := 0) (by decide) (by decide), sol_k (x := 0) (y := 0) (k := 3) (k1 := 1) (k2 := 1) (by decide) (by decide)]
theorem q_ahead {c : Nat → Nat} {T n m u t : Nat} {L : bL_} {h : hp_} (I : IV c T n m u t L h) (q w : Int32) : res 1 (vX9_ahead (h 0) (h 38) (h 39) (h 40) (h 41) (h 42) (h 43) (h 44) (h 45) (h 46) (h 47) n q w) (h 0) (rX9_ahead_0 (h 0) (h 38) (h 39) (h 40) (h 41) (h 42) (h 43) (h 44) (h 45) (h 46) (h 47) n q w) ((rX10_ahead_49 (h 49) (h 51) (h 497) (h 498) n q w) 0) (.int (vX10_ahead (h 49) (h 51) (h 497) (h 498) n q w)) (h 51) (rX10_ahead_51 (h 49) (h 51) (h 497) (h 498) n q w) := by
  have hn := iv_8 I
  unfold vX9_ahead rX9_ahead_0 vX10_ahead rX10_ahead_49 rX10_ahead_51
  simp only [in_if, two_if, iv_p I, e_bit, e_week, e_bits hn]
  refine res_if (fun _ => (Or.inr (Or.inr ⟨rfl, rfl, rfl, rfl⟩))) (fun c1 => ?_)
  refine res_if (fun _ => (Or.inr (Or.inr ⟨rfl, rfl, rfl, rfl⟩))) (fun c2 => ?_)
  refine res_if (fun _ => (Or.inr (Or.inr ⟨rfl, rfl, rfl, rfl⟩))) (fun c3 => ?_)
  refine res_if (fun _ => (Or.inr (Or.inr ⟨rfl, rfl, rfl, rfl⟩))) (fun c4 => ?_)
  have E := e_pass (r43 := h 43) (r44 := h 44) (r45 := h 45) (r46 := h 46) (r47 := h 47) (r498 := h 498) (iv_n I) (iv_k I) hn (q : Int32).toNatClampNeg
  refine res_ok ?_ rfl
  refine ok_if (fun _ => t_lateness E.1 hn) (fun _ => ?_)
  refine ok_if (fun _ => t_late E.1 hn) (fun _ => ?_)
  exact ok_e (t_tied E.1 hn 1)
theorem q_later {c : Nat → Nat} {T n m u t : Nat} {L : bL_} {h : hp_} (I : IV c T n m u t L h) (p q : Int32) : res 2 (vX9_later (h 0) (h 1) (h 38) (h 39) (h 40) (h 41) (h 42) (h 43) (h 44) (h 45) (h 46) (h 47) n p q) (h 0) (rX9_later_0 (h 0) (h 1) (h 38) (h 39) (h 40) (h 41) (h 42) (h 43) (h 44) (h 45) (h 46) (h 47) n p q) ((rX10_later_49 (h 49) (h 51) (h 497) (h 498) n p q) 0) (.int (vX10_later (h 49) (h 51) (h 497) (h 498) n p q)) (h 51) (rX10_later_51 (h 49) (h 51) (h 497) (h 498) n p q) := by
  have hn := iv_8 I
  unfold vX9_later rX9_later_0 vX10_later rX10_later_49 rX10_later_51
  simp only [in_if, two_if, iv_p I, e_bit, e_week, e_bits hn]
  refine res_if (fun _ => (Or.inr (Or.inl ⟨rfl, rfl, rfl, rfl⟩))) (fun c1 => ?_)
  refine res_if (fun _ => (Or.inr (Or.inr ⟨rfl, rfl, rfl, rfl⟩))) (fun c2 => ?_)
  refine res_if (fun _ => (Or.inr (Or.inr ⟨rfl, rfl, rfl, rfl⟩))) (fun c3 => ?_)
  obtain ⟨Pp, hp, rfl⟩ := jj_persM hn c1
  have E := e_pass (r43 := h 43) (r44 := h 44) (r45 := h 45) (r46 := h 46) (r47 := h 47) (r498 := h 498) (iv_n I) (iv_k I) hn (q : Int32).toNatClampNeg
  refine res_ok (ok_e ?_) rfl
  rw [cl_ (show Pp < 8 by omega), c0_ (show Pp < 8 by omega)]
  exact (E.1.2 Pp (by omega)).1.symm
theorem q_helpers {c : Nat → Nat} {T n m u t : Nat} {L : bL_} {h : hp_} (I : IV c T n m u t L h) (p : Int32) : res 1 (vX9_helpers (h 0) (h 1) (h 2) (h 3) (h 6) (h 8) (h 38) (h 39) (h 40) (h 41) n m p) (h 0) (rX9_helpers_0 (h 0) (h 1) (h 2) (h 3) (h 6) (h 8) (h 38) (h 39) (h 40) (h 41) n m p) ((rX10_helpers_49 (h 8) (h 49) (h 51) (h 73) (h 497) (jj_gd h 64 8) n m p) 0) (.int (vX10_helpers (h 8) (h 49) (h 51) (h 73) (h 497) (jj_gd h 64 8) n m p)) (h 51) (rX10_helpers_51 (h 8) (h 49) (h 51) (h 73) (h 497) (jj_gd h 64 8) n m p) := by
  have hn := iv_8 I
  unfold vX9_helpers rX9_helpers_0 vX10_helpers rX10_helpers_49 rX10_helpers_51
  simp only [in_if, two_if, iv_p I, e_bit, e_week, e_bits hn]
  refine res_if (fun _ => (Or.inr (Or.inl ⟨rfl, rfl, rfl, rfl⟩))) (fun c1 => ?_)
  obtain ⟨Pp, hp, rfl⟩ := jj_persM hn c1
  exact res_ok (ok_e (t_helper (iv_n I) (iv_k I) (iv_s I) hn hp)) rfl
theorem q_tied {c : Nat → Nat} {T n m u t : Nat} {L : bL_} {h : hp_} (I : IV c T n m u t L h) (p : Int32) : res 1 (vX9_tied (h 0) (h 1) (h 42) n p) (h 0) (rX9_tied_0 (h 0) (h 1) (h 42) n p) ((rX10_tied_49 (h 49) (h 51) (h 497) n p) 0) (.int (vX10_tied (h 49) (h 51) (h 497) n p)) (h 51) (rX10_tied_51 (h 49) (h 51) (h 497) n p) := by
  have hn := iv_8 I
  unfold vX9_tied rX9_tied_0 vX10_tied rX10_tied_49 rX10_tied_51
  simp only [in_if, two_if, iv_p I, e_bit, e_week, e_bits hn]
  refine res_if (fun _ => (Or.inr (Or.inl ⟨rfl, rfl, rfl, rfl⟩))) (fun c1 => ?_)
  obtain ⟨Pp, hp, rfl⟩ := jj_persM hn c1
  refine res_ok (ok_e (fo_eq n 0 (fun k a hk => ?_))) rfl
  unfold fX10_tied_1
  rw [c24_ (by omega), ((iv_n I).2 k (by omega)).2.2.2]
theorem q_days {c : Nat → Nat} {T n m u t : Nat} {L : bL_} {h : hp_} (I : IV c T n m u t L h) : (vX9_days (h 39) n) = (vX10_days (h 49) (h 497) n) := by
  have hn := iv_8 I
  exact t_days (iv_n I) hn
theorem q_steady {c : Nat → Nat} {T n m u t : Nat} {L : bL_} {h : hp_} (I : IV c T n m u t L h) : (vX9_steady (h 2) (h 3) (h 6) (h 8) (h 38) (h 39) (h 40) (h 41) n m) = (vX10_steady (h 8) (h 49) (h 73) (h 497) (jj_gd h 64 8) n m) := by
  have hn := iv_8 I
  exact t_steady (iv_n I) (iv_k I) (iv_s I) hn
theorem q_loose {c : Nat → Nat} {T n m u t : Nat} {L : bL_} {h : hp_} (I : IV c T n m u t L h) : (vX9_loose (h 38) (h 40) n) = (vX10_loose (h 49) (h 497) n) := by
  have hn := iv_8 I
  exact t_loose (iv_n I) hn
theorem q_fault {c : Nat → Nat} {T n m u t : Nat} {L : bL_} {h : hp_} (I : IV c T n m u t L h) : (vX9_fault (h 13)) = (vX10_fault (h 49)) := by
  have hn := iv_8 I
  exact I.2.1.1.symm
theorem q_status {c : Nat → Nat} {T n m u t : Nat} {L : bL_} {h : hp_} (I : IV c T n m u t L h) (w : Int32) : (vX9_status (h 0) w) = (vX10_status (h 49) (h 51) w) := by
  have hn := iv_8 I
  unfold vX9_status vX10_status
  rw [← e_bit]
  unfold vX9_isBit
  by_cases c0 : w = 0
  · rw [if_pos c0, if_pos c0, if_neg (by decide), c0]; exact I.2.1.2.2.1.symm
  · rw [if_neg c0, if_neg c0]
    by_cases c1 : w = 1
    · rw [if_pos c1, if_pos c1, if_neg (by decide), c1]; exact I.2.1.2.2.2.symm
    · rw [if_neg c1, if_neg c1, if_pos rfl]
theorem q_count {c : Nat → Nat} {T n m u t : Nat} {L : bL_} {h : hp_} (I : IV c T n m u t L h) (w : Int32) : (vX9_count (h 13) (h 34) w) = (vX10_count (h 49) w) := by
  have hn := iv_8 I
  obtain ⟨i1, i2, i3, i4, i5, i6, i7⟩ := I
  unfold vX9_count vX10_count
  rw [i7.2.1.1, i7.2.1.2.1, i1.2.2.1, i1.2.2.2.1, i7.1.1, i7.1.2.1]
theorem q_catches {c : Nat → Nat} {T n m u t : Nat} {L : bL_} {h : hp_} (I : IV c T n m u t L h) (p : Int32) : res 1 (vX9_catches (h 0) (h 1) (h 2) (h 3) (h 6) (h 8) (h 38) (h 39) (h 40) (h 41) (h 42) (h 43) (h 44) (h 45) (h 46) (h 47) n m p) (h 0) (rX9_catches_0 (h 0) (h 1) (h 2) (h 3) (h 6) (h 8) (h 38) (h 39) (h 40) (h 41) (h 42) (h 43) (h 44) (h 45) (h 46) (h 47) n m p) ((rX10_catches_49 (h 8) (h 49) (h 51) (h 73) (h 497) (h 498) (jj_gd h 64 8) n m p) 0) (.int (vX10_catches (h 8) (h 49) (h 51) (h 73) (h 497) (h 498) (jj_gd h 64 8) n m p)) (h 51) (rX10_catches_51 (h 8) (h 49) (h 51) (h 73) (h 497) (h 498) (jj_gd h 64 8) n m p) := by
  have hn := iv_8 I
  unfold vX9_catches rX9_catches_0 vX10_catches rX10_catches_49 rX10_catches_51
  simp only [in_if, two_if, iv_p I, e_bit, e_week, e_bits hn]
  refine res_if (fun _ => (Or.inr (Or.inl ⟨rfl, rfl, rfl, rfl⟩))) (fun c1 => ?_)
  obtain ⟨Pp, hp, rfl⟩ := jj_persM hn c1
  simp only [sum_c]
  refine res_ok ?_ rfl
  refine sum_ok (fx_rel (R := fun k (a : (Nat → Int32) × (Nat → Int32) × (Nat → Int32) × (Nat → Int32) × (Nat → Int32)) x => nr a.1 a.2.1 a.2.2.1 a.2.2.2.1 a.2.2.2.2 x ∧ nok (900 + k) a.1 a.2.1 a.2.2.1 a.2.2.2.2) (E := fun (a : Int32 × (Nat → Int32) × (Nat → Int32) × (Nat → Int32) × (Nat → Int32) × (Nat → Int32)) (b : Int32 × (Nat → Int32)) => a.1 = b.1) 100 _ _ ⟨e_copy (iv_n I), nok_copy (iv_k I)⟩ (fun k a x hk ih => ?_)) (fun a b _ => rfl) (fun a b e => ok_e e)
  unfold fX10_catches_1
  have eb : vX10_behind_t x (nI Pp) = vX6_behindOf_t a.1 a.2.1 (nI Pp) := e_behind ih.1 (by omega)
  try dsimp only
  rw [eb]
  by_cases z : vX6_behindOf_t a.1 a.2.1 (nI Pp) = 0
  · rw [if_pos z, if_pos z]; exact rfl
  · rw [if_neg z, if_neg z]
    have e2 := e_ties (m := m) (r8 := h 8) ih.1 ih.2 (iv_s I) hn hp hp (tw := 1) (Or.inr rfl)
    exact e_day e2.2.1 e2.2.2 hn
theorem q_best {c : Nat → Nat} {T n m u t : Nat} {L : bL_} {h : hp_} (I : IV c T n m u t L h) (p : Int32) : res 1 (vX9_best (h 0) (h 1) (h 2) (h 3) (h 6) (h 8) (h 38) (h 39) (h 40) (h 41) n m p) (h 0) (rX9_best_0 (h 0) (h 1) (h 2) (h 3) (h 6) (h 8) (h 38) (h 39) (h 40) (h 41) n m p) ((rX10_best_49 (h 8) (h 49) (h 51) (h 73) (h 497) (jj_gd h 64 8) n m p) 0) (.int (vX10_best (h 8) (h 49) (h 51) (h 73) (h 497) (jj_gd h 64 8) n m p)) (h 51) (rX10_best_51 (h 8) (h 49) (h 51) (h 73) (h 497) (jj_gd h 64 8) n m p) := by
  have hn := iv_8 I
  unfold vX9_best rX9_best_0 vX10_best rX10_best_49 rX10_best_51
  simp only [in_if, two_if, iv_p I, e_bit, e_week, e_bits hn]
  refine res_if (fun _ => (Or.inr (Or.inl ⟨rfl, rfl, rfl, rfl⟩))) (fun c1 => ?_)
  obtain ⟨Pp, hp, rfl⟩ := jj_persM hn c1
  refine res_ok (ok_e (congrArg Prod.fst (fo_rel (R := fun _ (a b : Int32 × Int32) => a = b ∧ -1 ≤ a.2) n _ _ ⟨rfl, by decide⟩ (fun k a b hk ih => ?_)).1)) rfl
  obtain ⟨rfl, i2⟩ := ih
  unfold fX10_best_1
  rw [e_may (iv_n I) (iv_k I) (by omega) (by omega), ← e_hold (m := m) (r8 := h 8) (iv_n I) (iv_s I) hn hk hp 0, le_if (x := vX10_holdOf_n _ _ _ _ _ _ _ _)
    , if_pos i2]
  by_cases z1 : vX10_isLoose_n (h 497) (nI Pp) = 0
  · rw [if_pos z1, if_pos z1, if_pos rfl]; exact ⟨rfl, i2⟩
  · rw [if_neg z1, if_neg z1]
    by_cases z2 : vX10_isHand_n (h 497) (nI k) (nI Pp) = 0
    · rw [if_pos z2]; exact ⟨rfl, i2⟩
    · rw [if_neg z2]
      by_cases z3 : a.2 < vX10_holdOf_n (h 8) (h 73) (h 497) (jj_gd h 64 8) m (nI k) (nI Pp) 0
      · rw [if_pos z3]; exact ⟨rfl, Int32.le_of_lt (Int32.lt_of_le_of_lt i2 z3)⟩
      · rw [if_neg z3]; exact ⟨rfl, i2⟩
theorem q_nearest {c : Nat → Nat} {T n m u t : Nat} {L : bL_} {h : hp_} (I : IV c T n m u t L h) (p : Int32) : res 1 (vX9_nearest (h 0) (h 1) (h 4) (h 5) n p) (h 0) (rX9_nearest_0 (h 0) (h 1) (h 4) (h 5) n p) ((rX10_nearest_49 (h 49) (h 51) (jj_gd h 64 8) n p) 0) (.int (vX10_nearest (h 49) (h 51) (jj_gd h 64 8) n p)) (h 51) (rX10_nearest_51 (h 49) (h 51) (jj_gd h 64 8) n p) := by
  have hn := iv_8 I
  unfold vX9_nearest rX9_nearest_0 vX10_nearest rX10_nearest_49 rX10_nearest_51
  simp only [in_if, two_if, iv_p I, e_bit, e_week, e_bits hn]
  refine res_if (fun _ => (Or.inr (Or.inl ⟨rfl, rfl, rfl, rfl⟩))) (fun c1 => ?_)
  obtain ⟨Pp, hp, rfl⟩ := jj_persM hn c1
  refine res_ok (ok_e (fo_rel (R := fun _ (a b : Int32) => a = b ∧ (a = -1 ∨ ∃ j, j < n ∧ a = nI j)) n _ _ ⟨rfl, Or.inl rfl⟩ (fun k a b hk ih => ?_)).1) rfl
  obtain ⟨rfl, i2⟩ := ih
  unfold fX10_nearest_1
  by_cases z1 : nI k = nI Pp
  · rw [if_pos z1, if_pos z1]; exact ⟨rfl, i2⟩
  · rw [if_neg z1, if_neg z1]
    by_cases z2 : a = -1
    · rw [if_pos z2, if_pos z2]; exact ⟨rfl, Or.inr ⟨k, hk, rfl⟩⟩
    · rw [if_neg z2, if_neg z2]
      obtain ⟨j, hj, rfl⟩ := i2.resolve_left z2
      rw [t_way (iv_s I) (iv_xy I) hn hp hj, t_way (iv_s I) (iv_xy I) hn hp hk]
      refine ⟨rfl, Or.inr ?_⟩
      split
      · exact ⟨j, hj, rfl⟩
      · exact ⟨k, hk, rfl⟩
theorem q_slowest {c : Nat → Nat} {T n m u t : Nat} {L : bL_} {h : hp_} (I : IV c T n m u t L h) (w : Int32) : res 1 (vX9_slowest (h 0) (h 38) (h 39) n w) (h 0) (rX9_slowest_0 (h 0) (h 38) (h 39) n w) ((rX10_slowest_49 (h 49) (h 51) (h 497) n w) 0) (.int (vX10_slowest (h 49) (h 51) (h 497) n w)) (h 51) (rX10_slowest_51 (h 49) (h 51) (h 497) n w) := by
  have hn := iv_8 I
  unfold vX9_slowest rX9_slowest_0 vX10_slowest rX10_slowest_49 rX10_slowest_51
  simp only [in_if, two_if, iv_p I, e_bit, e_week, e_bits hn]
  refine res_if (fun _ => (Or.inr (Or.inr ⟨rfl, rfl, rfl, rfl⟩))) (fun c1 => ?_)
  refine res_if (fun _ => (Or.inr (Or.inr ⟨rfl, rfl, rfl, rfl⟩))) (fun c2 => ?_)
  have E : jj_fo (fun k1 (a1 : Int32 × Int32) => (if (vX6_behindOf_n (h 38) (h 39) (nI k1)) ≤ a1.2 then (a1.1, a1.2) else ((nI k1), (vX6_behindOf_n (h 38) (h 39) (nI k1))))) n ((-1), 0) = jj_fo (fX10_slowest_1 (h 497)) n ((-1), 0) := by
    refine fo_eq n _ (fun k a hk => ?_)
    unfold fX10_slowest_1
    rw [e_behind (iv_n I) (by omega)]
    by_cases z : vX6_behindOf_n (h 38) (h 39) (nI k) ≤ a.2
    · rw [if_pos z, if_pos z]
      unfold vX10_more
      by_cases y : a.2 ≤ vX6_behindOf_n (h 38) (h 39) (nI k)
      · rw [if_pos y, Int32.le_antisymm z y]
      · rw [if_neg y]
    · rw [if_neg z, if_neg z]
      unfold vX10_more
      rw [if_pos (Int32.le_of_lt (Int32.not_le.mp z))]
  rw [E]
  refine res_ok ?_ rfl
  refine ok_if (fun _ => rfl) (fun _ => ?_)
  refine ok_if (fun _ => rfl) (fun _ => rfl)
theorem q_farthest {c : Nat → Nat} {T n m u t : Nat} {L : bL_} {h : hp_} (I : IV c T n m u t L h) (w : Int32) : res 1 (vX9_farthest (h 0) (h 4) (h 5) n w) (h 0) (rX9_farthest_0 (h 0) (h 4) (h 5) n w) ((rX10_farthest_49 (h 49) (h 51) (jj_gd h 64 8) n w) 0) (.int (vX10_farthest (h 49) (h 51) (jj_gd h 64 8) n w)) (h 51) (rX10_farthest_51 (h 49) (h 51) (jj_gd h 64 8) n w) := by
  have hn := iv_8 I
  unfold vX9_farthest rX9_farthest_0 vX10_farthest rX10_farthest_49 rX10_farthest_51
  simp only [in_if, two_if, iv_p I, e_bit, e_week, e_bits hn]
  refine res_if (fun _ => (Or.inr (Or.inr ⟨rfl, rfl, rfl, rfl⟩))) (fun c1 => ?_)
  refine res_if (fun _ => (Or.inr (Or.inr ⟨rfl, rfl, rfl, rfl⟩))) (fun c2 => ?_)
  refine res_ok ?_ rfl
  have E : ∀ k, k < n → ∀ a : Int32 × Int32, jj_fo (fun k2 (a2 : Int32 × Int32) => (if (vX7_wayBetween (h 4) (h 5) (nI k) (nI (k + 1 + k2))) ≤ a2.2 then (a2.1, a2.2) else (((10 * (nI k)) + (nI (k + 1 + k2))), (vX7_wayBetween (h 4) (h 5) (nI k) (nI (k + 1 + k2)))))) (n - (k + 1)) a = jj_fo (fX10_farthest_2 (jj_gd h 64 8) k) (n - (k + 1)) a := fun k hk a => fo_eq _ _ (fun k2 a2 hk2 => by
    unfold fX10_farthest_2
    rw [t_way (iv_s I) (iv_xy I) hn hk (by omega), le_if])
  refine ok_if (fun _ => congrArg Prod.fst (fo_eq n _ (fun k a hk => ?_))) (fun _ => ok_e (congrArg Prod.snd (fo_eq n _ (fun k a hk => ?_))))
  · unfold fX10_farthest_1
    rw [E k hk]
  · unfold fX10_farthest_1
    rw [E k hk]
theorem q_middle {c : Nat → Nat} {T n m u t : Nat} {L : bL_} {h : hp_} (I : IV c T n m u t L h) (w : Int32) : res 1 (vX9_middle (h 0) (h 4) (h 5) n w) (h 0) (rX9_middle_0 (h 0) (h 4) (h 5) n w) ((rX10_middle_49 (h 49) (h 51) (jj_gd h 64 8) n w) 0) (.int (vX10_middle (h 49) (h 51) (jj_gd h 64 8) n w)) (h 51) (rX10_middle_51 (h 49) (h 51) (jj_gd h 64 8) n w) := by
  have hn := iv_8 I
  unfold vX9_middle rX9_middle_0 vX10_middle rX10_middle_49 rX10_middle_51
  simp only [in_if, two_if, iv_p I, e_bit, e_week, e_bits hn]
  refine res_if (fun _ => (Or.inr (Or.inr ⟨rfl, rfl, rfl, rfl⟩))) (fun c1 => ?_)
  refine res_if (fun _ => (Or.inr (Or.inr ⟨rfl, rfl, rfl, rfl⟩))) (fun c2 => ?_)
  have E : ∀ k (a : Int32 × Int32), k < n → (a.1 = -1 ∨ ∃ j, j < k ∧ a.1 = nI j) → (if a.1 = (-1) then ((nI k), (vX7_waysTogether (h 4) (h 5) n (nI k))) else (if a.2 ≤ (vX7_waysTogether (h 4) (h 5) n (nI k)) then (a.1, a.2) else ((nI k), (vX7_waysTogether (h 4) (h 5) n (nI k))))) = fX10_middle_1 (jj_gd h 64 8) n k a := by
    intro k a hk hi
    unfold fX10_middle_1
    rw [t_ways (iv_s I) (iv_xy I) hn hk, if_pos rfl]
    by_cases z : a.1 = -1
    · rw [if_pos z, if_pos z]
    · rw [if_neg z, if_neg z]
      obtain ⟨j, hj, ej⟩ := hi.resolve_left z
      rw [if_neg (show ¬ a.1 = nI k from fun y => by
        rw [ej, nI_eq (by omega) (by omega)] at y
        omega)]
  have F := fo_rel (R := fun k (a b : Int32 × Int32) => a = b ∧ (a.1 = -1 ∨ ∃ j, j < k ∧ a.1 = nI j)) (f := fun k1 (a1 : Int32 × Int32) => (if a1.1 = (-1) then ((nI k1), (vX7_waysTogether (h 4) (h 5) n (nI k1))) else (if a1.2 ≤ (vX7_waysTogether (h 4) (h 5) n (nI k1)) then (a1.1, a1.2) else ((nI k1), (vX7_waysTogether (h 4) (h 5) n (nI k1)))))) (g := fX10_middle_1 (jj_gd h 64 8) n) n ((-1), (-1)) ((-1), (-1)) ⟨rfl, Or.inl rfl⟩ (fun k a b hk ih => by
    obtain ⟨rfl, i2⟩ := ih
    refine ⟨E k a hk i2, ?_⟩
    try dsimp only
    split
    · exact Or.inr ⟨k, Nat.lt_succ_self k, rfl⟩
    · split
      · rcases i2 with i2 | ⟨j, hj, ej⟩
        · exact Or.inl i2
        · exact Or.inr ⟨j, by omega, ej⟩
      · exact Or.inr ⟨k, Nat.lt_succ_self k, rfl⟩)
  rw [F.1]
  refine res_ok ?_ rfl
  refine ok_if (fun _ => rfl) (fun _ => rfl)
theorem q_soldier {c : Nat → Nat} {T n m u t : Nat} {L : bL_} {h : hp_} (I : IV c T n m u t L h) (v w q : Int32) : res 1 (vX9_soldier (h 0) v w q) (h 0) (rX9_soldier_0 (h 0) v w q) ((rX10_soldier_49 (h 49) (h 51) v w q) 0) (.int (vX10_soldier (h 49) (h 51) v w q)) (h 51) (rX10_soldier_51 (h 49) (h 51) v w q) := by
  have hn := iv_8 I
  unfold vX9_soldier rX9_soldier_0 vX10_soldier rX10_soldier_49 rX10_soldier_51
  simp only [in_if, two_if, iv_p I, e_bit, e_week, e_bits hn]
  refine res_if (fun _ => (Or.inr (Or.inr ⟨rfl, rfl, rfl, rfl⟩))) (fun c1 => ?_)
  refine res_if (fun _ => (Or.inr (Or.inr ⟨rfl, rfl, rfl, rfl⟩))) (fun c2 => ?_)
  refine res_if (fun _ => (Or.inr (Or.inr ⟨rfl, rfl, rfl, rfl⟩))) (fun c3 => ?_)
  refine res_if (fun _ => (Or.inr (Or.inr ⟨rfl, rfl, rfl, rfl⟩))) (fun c4 => ?_)
  refine res_if (fun _ => (Or.inr (Or.inr ⟨rfl, rfl, rfl, rfl⟩))) (fun c5 => ?_)
  refine res_if (fun _ => (Or.inr (Or.inr ⟨rfl, rfl, rfl, rfl⟩))) (fun c6 => ?_)
  have E := sol_4 v w
  unfold solF at E
  rw [E]
  refine res_ok ?_ rfl
  refine ok_if (fun _ => rfl) (fun _ => ?_)
  refine ok_if (fun _ => rfl) (fun _ => rfl)
theorem q_would {c : Nat → Nat} {T n m u t : Nat} {L : bL_} {h : hp_} (I : IV c T n m u t L h) (fi ha be tw fr se sl dy : Int32) : res 1 (vX9_would (h 0) (h 8) m fi ha be tw fr se sl dy) (h 0) (rX9_would_0 (h 0) (h 8) m fi ha be tw fr se sl dy) ((rX10_would_49 (h 8) (h 49) (h 51) m fi ha be tw fr se sl dy) 0) (.int (vX10_would (h 8) (h 49) (h 51) m fi ha be tw fr se sl dy)) (h 51) (rX10_would_51 (h 8) (h 49) (h 51) m fi ha be tw fr se sl dy) := by
  unfold vX9_would rX9_would_0 vX10_would rX10_would_49 rX10_would_51
  simp only [in_if, e_bit]
  simp only [or_if]
  refine res_iff ?_ (Or.inr (Or.inr ⟨rfl, rfl, rfl, rfl⟩)) (fun _ => res_ok rfl rfl)
  simp only [or_assoc, or_comm, or_left_comm]
