/-! ===== both sides of a question, paired ===== -/
def IVx (h : hp_) : Prop := ∃ c T n m u t L, IV c T n m u t L h
/-- MC: the class's method, MR: the reference's, A: the arguments; bn, bi: which exceptions may come; e: the number of IllegalArgumentException -/
def dual (MC MR : jj_Mt) (A : List (Nat × Value)) (bn bi : Bool) (e : Int32) (h : hp_) : Prop := ∃ (r : jj_Rs) (v th : Int32) (mid : hp_ → Prop), (∀ d kc ks (g : Nat → Nat → Int64) (Q : jj_Rs → jj_St → Prop), (∀ h1, mid h1 → Q r (jj_S, 782, h1, g)) → jj_R MC (d + 40) (kc + 4) (ks + 24) (jj_S, 782, h, g) 0 ((0, .ref 0) :: A) [] Q) ∧ (∀ d kc ks (h1 : hp_) (g : Nat → Nat → Int64) (Q : jj_Rs → jj_St → Prop), mid h1 → (∀ h2, IVx h2 → h2 49 0 = th → Q (.inl (some (.int v))) (jj_S, 782, h2, g)) → jj_R MR (d + 64) kc ks (jj_S, 782, h1, g) 0 ((0, .ref 49) :: A) [] Q) ∧ ((r = .inl (some (.int v)) ∧ th = 0) ∨ (bn = true ∧ r = .inr "java/util/NoSuchElementException" ∧ th = 1) ∨ (bi = true ∧ r = .inr "java/lang/IllegalArgumentException" ∧ th = e))
theorem x1_ne {x y : Int32} (h : y = x) (h2 : y = x + 1) : False := by
  rw [h] at h2
  have h3 : x + 0 = x + 1 := by rw [Int32.add_zero]; exact h2
  exact absurd ((Int32.add_right_inj x).mp h3) (by decide)
theorem kpF_0 {i : Nat} (h : kpF i = true) : ¬ i = 0 := fun q => by rw [q] at h; exact absurd h (by decide)
theorem kpR_lt {x : Nat} (h : kpR x = true) : x < 520 := by
  rcases Nat.lt_or_ge x 520 with q | q
  · exact q
  · have : kpR x = false := by
      simp only [kpR, Bool.or_eq_false_iff, Bool.and_eq_false_iff, beq_eq_false_iff_ne, decide_eq_false_iff_not, ne_eq]; omega
    rw [this] at h; cases h
theorem kp_gs {h : hp_} {b len : Nat} {G : Nat → Nat → Int32} (hb : 520 ≤ b) : kp h (jj_gs h b len G) := by
  have K : ∀ x, x < 520 → jj_gs h b len G x = h x := fun x hx => if_neg (by omega)
  exact ⟨fun x hx => K x (kpR_lt hx), by rw [K 25 (by omega)], fun i _ => by rw [K 49 (by omega)], by rw [K 0 (by omega)]⟩
theorem eq_hi {X : List Nat} {h k : hp_} (e : jj_eq X h k) (hX : X.all (fun x => decide (x < 49)) = true) {x : Nat} (hx : 49 ≤ x) : k x = h x := e x (fun q => by
  have := List.all_eq_true.mp hX x q
  simp only [decide_eq_true_eq] at this; omega)
theorem rs_hi {h : hp_} {L : List (Nat × (Nat → Int32))} (hL : L.all (fun q => decide (q.1 < 49)) = true) {x : Nat} (hx : 49 ≤ x) : jj_rs h L x = h x := rs_no (P := fun y => decide (y < 49)) hL (decide_eq_false (by omega))
set_option maxRecDepth 4000 in
theorem du_told {c : Nat → Nat} {T n m u t : Nat} {L : bL_} {h : hp_} (I : IV c T n m u t L h) (w : Int32) : dual mX9_told mX10_told [(1, .int w)] false true 1 h := by
  have q := q_told I w
  have f49 : ∀ i, kpF i = true → (rX10_told_49 (h 49) (h 51) (h 53) (h 497) n w) i = h 49 i := fun i hi => by
    have i0 := kpF_0 hi
    unfold rX10_told_49
    repeat' split
    all_goals first | rw [jj_une i0, jj_une i0] | rw [jj_une i0]
  have f51 : (rX10_told_51 (h 49) (h 51) (h 53) (h 497) n w) 0 = h 51 0 := by
    unfold rX10_told_51
    repeat' split
    all_goals rfl
  refine ⟨(vX9_told (h 0) (h 1) (h 25) (h 38) (h 39) (h 40) (h 41) n w), (vX10_told (h 49) (h 51) (h 53) (h 497) n w), (rX10_told_49 (h 49) (h 51) (h 53) (h 497) n w) 0, fun h1 => h1 0 = (rX9_told_0 (h 0) (h 1) (h 25) (h 38) (h 39) (h 40) (h 41) n w) ∧ kp h h1 ∧ ∀ x, 49 ≤ x → h1 x = h x, ?_, ?_, ?_⟩
  · intro d kc ks g Q k
    exact sp_X9_told I.2.2.1.1 I.2.2.1.2.2.1 (k _ ⟨rfl, kp_0 (res_12 q) rfl, fun x hx => rs_hi rfl hx⟩)
  · intro d kc ks h1 g Q hm k
    obtain ⟨m0, mk, mx⟩ := hm
    have e49 : h1 49 = h 49 := mx 49 (by omega)
    have e51 : h1 51 = h 51 := mx 51 (by omega)
    have e53 : h1 53 = h 53 := mx 53 (by omega)
    have e497 : h1 497 = h 497 := mx 497 (by omega)
    refine sp_X10_told (by rw [mx 53 (by omega)]; exact I.2.2.1.2.1) I.2.2.1.2.2.1 ?_
    rw [e49, e51, e53, e497]
    refine k _ ⟨c, T, n, m, u, t, L, IV_kp I (kp_tr mk ?_) ?_⟩ rfl
    · exact kp_49 (fun i hi => by rw [mx 49 (by omega)]; exact f49 i hi) rfl
    · have y := res_c q I.2.1.2.2.1 I.2.1.2.2.2
      have x0 := m0
      rw [← x0] at y
      exact y
  · rcases q with ⟨q1, _, q3, _⟩ | ⟨q1, _, q3, q4⟩ | ⟨q1, _, q3, q4⟩
    · exact Or.inl ⟨q1, q3⟩
    · exact (x1_ne f51 (congrFun q4 0)).elim
    · exact Or.inr (Or.inr ⟨rfl, q1, q3⟩)
set_option maxRecDepth 4000 in
theorem du_person {c : Nat → Nat} {T n m u t : Nat} {L : bL_} {h : hp_} (I : IV c T n m u t L h) (p w : Int32) : dual mX9_person mX10_person [(1, .int p), (2, .int w)] true true 2 h := by
  have q := q_person I p w
  have f49 : ∀ i, kpF i = true → (rX10_person_49 (h 49) (h 51) (h 73) (h 497) (jj_gd h 64 8) n p w) i = h 49 i := fun i hi => by
    have i0 := kpF_0 hi
    unfold rX10_person_49
    repeat' split
    all_goals first | rw [jj_une i0, jj_une i0] | rw [jj_une i0]
  refine ⟨(vX9_person (h 0) (h 1) (h 2) (h 3) (h 4) (h 5) (h 6) (h 38) (h 39) (h 40) (h 41) (h 42) p w), (vX10_person (h 49) (h 51) (h 73) (h 497) (jj_gd h 64 8) n p w), (rX10_person_49 (h 49) (h 51) (h 73) (h 497) (jj_gd h 64 8) n p w) 0, fun h1 => h1 0 = (rX9_person_0 (h 0) (h 1) (h 2) (h 3) (h 4) (h 5) (h 6) (h 38) (h 39) (h 40) (h 41) (h 42) p w) ∧ kp h h1 ∧ ∀ x, 49 ≤ x → h1 x = h x, ?_, ?_, ?_⟩
  · intro d kc ks g Q k
    exact sp_X9_person I.2.2.1.1 I.2.2.1.2.2.1 (k _ ⟨rfl, kp_0 (res_12 q) rfl, fun x hx => rs_hi rfl hx⟩)
  · intro d kc ks h1 g Q hm k
    obtain ⟨m0, mk, mx⟩ := hm
    have e49 : h1 49 = h 49 := mx 49 (by omega)
    have e51 : h1 51 = h 51 := mx 51 (by omega)
    have e73 : h1 73 = h 73 := mx 73 (by omega)
    have e497 : h1 497 = h 497 := mx 497 (by omega)
    have g64 : jj_gd h1 64 8 = jj_gd h 64 8 := gd_eq (fun j hj => mx _ (by omega))
    refine sp_X10_person (by rw [mx 53 (by omega)]; exact I.2.2.1.2.1) I.2.2.1.2.2.1 ?_
    rw [e49, e51, e73, e497, g64]
    refine k _ ⟨c, T, n, m, u, t, L, IV_kp I (kp_tr mk ?_) ?_⟩ rfl
    · exact kp_49 (fun i hi => by rw [mx 49 (by omega)]; exact f49 i hi) rfl
    · have y := res_c q I.2.1.2.2.1 I.2.1.2.2.2
      have x0 := m0
      rw [← x0] at y
      exact y
  · rcases q with ⟨q1, _, q3, _⟩ | ⟨q1, _, q3, q4⟩ | ⟨q1, _, q3, q4⟩
    · exact Or.inl ⟨q1, q3⟩
    · exact Or.inr (Or.inl ⟨rfl, q1, q3⟩)
    · exact Or.inr (Or.inr ⟨rfl, q1, q3⟩)
set_option maxRecDepth 4000 in
theorem du_hold {c : Nat → Nat} {T n m u t : Nat} {L : bL_} {h : hp_} (I : IV c T n m u t L h) (a b w : Int32) : dual mX9_hold mX10_hold [(1, .int a), (2, .int b), (3, .int w)] true true 2 h := by
  have q := q_hold I a b w
  have f49 : ∀ i, kpF i = true → (rX10_hold_49 (h 8) (h 49) (h 51) (h 73) (h 497) (jj_gd h 64 8) n m a b w) i = h 49 i := fun i hi => by
    have i0 := kpF_0 hi
    unfold rX10_hold_49
    repeat' split
    all_goals first | rw [jj_une i0, jj_une i0] | rw [jj_une i0]
  refine ⟨(vX9_hold (h 0) (h 1) (h 2) (h 3) (h 6) (h 8) (h 38) (h 39) (h 41) m a b w), (vX10_hold (h 8) (h 49) (h 51) (h 73) (h 497) (jj_gd h 64 8) n m a b w), (rX10_hold_49 (h 8) (h 49) (h 51) (h 73) (h 497) (jj_gd h 64 8) n m a b w) 0, fun h1 => h1 0 = (rX9_hold_0 (h 0) (h 1) (h 2) (h 3) (h 6) (h 8) (h 38) (h 39) (h 41) m a b w) ∧ kp h h1 ∧ ∀ x, 49 ≤ x → h1 x = h x, ?_, ?_, ?_⟩
  · intro d kc ks g Q k
    refine sp_X9_hold I.2.2.1.1 I.2.2.1.2.2.1 I.2.2.2.1.1 I.2.2.2.1.2.2.1 (fun h9 e9 => k _ ⟨rfl, ?_, fun x hx => (rs_hi rfl hx).trans (eq_hi e9 rfl hx)⟩)
    have e0 : h9 0 = h 0 := e9 0 (by decide)
    exact kp_tr (kp_X e9 rfl) (kp_0 (by rw [e0]; exact res_12 q) rfl)
  · intro d kc ks h1 g Q hm k
    obtain ⟨m0, mk, mx⟩ := hm
    have e8 : h1 8 = h 8 := mk.1 8 rfl
    have e49 : h1 49 = h 49 := mx 49 (by omega)
    have e51 : h1 51 = h 51 := mx 51 (by omega)
    have e73 : h1 73 = h 73 := mx 73 (by omega)
    have e497 : h1 497 = h 497 := mx 497 (by omega)
    have g64 : jj_gd h1 64 8 = jj_gd h 64 8 := gd_eq (fun j hj => mx _ (by omega))
    refine sp_X10_hold (by rw [mx 53 (by omega)]; exact I.2.2.1.2.1) I.2.2.1.2.2.1 (by rw [mx 49 (by omega)]; exact I.2.2.2.1.2.1) I.2.2.2.1.2.2.1 (by rw [mk.1 8 rfl, gd_eq (k := h) (fun j hj => mx _ (by omega))]; exact I.2.2.2.1.2.2.2) (fun h9 e9 => ?_)
    rw [e8, e49, e51, e73, e497, g64]
    refine k _ ⟨c, T, n, m, u, t, L, IV_kp I (kp_tr mk ?_) ?_⟩ rfl
    · have x49 : h9 49 = h 49 := (e9 49 (by decide)).trans (mx 49 (by omega))
      exact kp_tr (kp_X e9 rfl) (kp_49 (fun i hi => by rw [x49]; exact f49 i hi) rfl)
    · have y := res_c q I.2.1.2.2.1 I.2.1.2.2.2
      have x0 : h9 0 = (rX9_hold_0 (h 0) (h 1) (h 2) (h 3) (h 6) (h 8) (h 38) (h 39) (h 41) m a b w) := (e9 0 (by decide)).trans m0
      rw [← x0] at y
      exact y
  · rcases q with ⟨q1, _, q3, _⟩ | ⟨q1, _, q3, q4⟩ | ⟨q1, _, q3, q4⟩
    · exact Or.inl ⟨q1, q3⟩
    · exact Or.inr (Or.inl ⟨rfl, q1, q3⟩)
    · exact Or.inr (Or.inr ⟨rfl, q1, q3⟩)
