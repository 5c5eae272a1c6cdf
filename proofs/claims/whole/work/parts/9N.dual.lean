/-! ===== both sides of a question, paired ===== -/
def IVx (h : hp_) : Prop := ∃ c T n m u t L, IV c T n m u t L h
/-- MC: the class's method, MR: the reference's, A: the arguments; bn, bi: which exceptions may come; e: the number of IllegalArgumentException -/
def dual (MC MR : jj_Mt) (A : List (Nat × Value)) (bn bi : Bool) (e : Int32) (h : hp_) : Prop := ∃ (r : jj_Rs) (v th : Int32) (mid : hp_ → Prop), (∀ d kc ks (g : Nat → Nat → Int64) (Q : jj_Rs → jj_St → Prop), (∀ h1, mid h1 → Q r (jj_S, 782, h1, g)) → jj_R MC (d + 40) (kc + 4) (ks + 24) (jj_S, 782, h, g) 0 ((0, .ref 0) :: A) [] Q) ∧ (∀ d kc ks (h1 : hp_) (g : Nat → Nat → Int64) (Q : jj_Rs → jj_St → Prop), mid h1 → (∀ h2, IVx h2 → h2 49 0 = th → Q (.inl (some (.int v))) (jj_S, 782, h2, g)) → jj_R MR (d + 64) kc ks (jj_S, 782, h1, g) 0 ((0, .ref 49) :: A) [] Q) ∧ ((r = .inl (some (.int v)) ∧ th = 0) ∨ (bn = true ∧ r = .inr "java/util/NoSuchElementException" ∧ th = 1) ∨ (bi = true ∧ r = .inr "java/lang/IllegalArgumentException" ∧ th = e))
theorem x1_ne {x y : Int32} (h : y = x) (h2 : y = x + 1) : False := by
  rw [h] at h2
  have h3 : x + 0 = x + 1 := by rw [Int32.add_zero]; exact h2
  exact absurd ((Int32.add_right_inj x).mp h3) (by decide)
theorem kpF_0 {i : Nat} (h : kpF i = true) : ¬ i = 0 := fun q => by rw [q] at h; exact absurd h (by decide)
theorem kpR_lt {x : Nat} (h : kpR x = true) : x < 520 := by
  rcases Nat.lt_or_ge x 520 with q | q
  · exact q
  · have : kpR x = false := by
      simp only [kpR, Bool.or_eq_false_iff, Bool.and_eq_false_iff, beq_eq_false_iff_ne, decide_eq_false_iff_not, ne_eq]; omega
    rw [this] at h; cases h
theorem kp_gs {h : hp_} {b len : Nat} {G : Nat → Nat → Int32} (hb : 520 ≤ b) : kp h (jj_gs h b len G) := by
  have K : ∀ x, x < 520 → jj_gs h b len G x = h x := fun x hx => if_neg (by omega)
  exact ⟨fun x hx => K x (kpR_lt hx), by rw [K 25 (by omega)], fun i _ => by rw [K 49 (by omega)], by rw [K 0 (by omega)]⟩
theorem eq_hi {X : List Nat} {h k : hp_} (e : jj_eq X h k) (hX : X.all (fun x => decide (x < 49)) = true) {x : Nat} (hx : 49 ≤ x) : k x = h x := e x (fun q => by
  have := List.all_eq_true.mp hX x q
  simp only [decide_eq_true_eq] at this; omega)
theorem rs_hi {h : hp_} {L : List (Nat × (Nat → Int32))} (hL : L.all (fun q => decide (q.1 < 49)) = true) {x : Nat} (hx : 49 ≤ x) : jj_rs h L x = h x := rs_no (P := fun y => decide (y < 49)) hL (decide_eq_false (by omega))
set_option maxRecDepth 4000 in
theorem du_told {c : Nat → Nat} {T n m u t : Nat} {L : bL_} {h : hp_} (I : IV c T n m u t L h) (w : Int32) : dual mX9_told mX10_told [(1, .int w)] false true 1 h := by
  have qq := q_told I w
  have f49 : ∀ i, kpF i = true → (rX10_told_49 (h 49) (h 51) (h 53) (h 497) n w) i = h 49 i := fun i hi => by
    have i0 := kpF_0 hi
    unfold rX10_told_49
    repeat' split
    all_goals first | rw [jj_une i0, jj_une i0] | rw [jj_une i0]
  have f51 : (rX10_told_51 (h 49) (h 51) (h 53) (h 497) n w) 0 = h 51 0 := by
    unfold rX10_told_51
    repeat' split
    all_goals rfl
  refine ⟨(vX9_told (h 0) (h 1) (h 25) (h 38) (h 39) (h 40) (h 41) n w), (vX10_told (h 49) (h 51) (h 53) (h 497) n w), (rX10_told_49 (h 49) (h 51) (h 53) (h 497) n w) 0, fun h1 => h1 0 = (rX9_told_0 (h 0) (h 1) (h 25) (h 38) (h 39) (h 40) (h 41) n w) ∧ kp h h1 ∧ ∀ x, 49 ≤ x → h1 x = h x, ?_, ?_, ?_⟩
  · intro d kc ks g Q k
    exact sp_X9_told I.2.2.1.1 I.2.2.1.2.2.1 (k _ ⟨rfl, kp_0 (res_12 qq) rfl, fun x hx => rs_hi rfl hx⟩)
  · intro d kc ks h1 g Q hm k
    obtain ⟨m0, mk, mx⟩ := hm
    have e49 : h1 49 = h 49 := mx 49 (by omega)
    have e51 : h1 51 = h 51 := mx 51 (by omega)
    have e53 : h1 53 = h 53 := mx 53 (by omega)
    have e497 : h1 497 = h 497 := mx 497 (by omega)
    refine sp_X10_told (by rw [mx 53 (by omega)]; exact I.2.2.1.2.1) I.2.2.1.2.2.1 ?_
    rw [e49, e51, e53, e497]
    refine k _ ⟨c, T, n, m, u, t, L, IV_kp I (kp_tr mk ?_) ?_⟩ rfl
    · exact kp_49 (fun i hi => by rw [mx 49 (by omega)]; exact f49 i hi) rfl
    · have y := res_c qq I.2.1.2.2.1 I.2.1.2.2.2
      have x0 := m0
      rw [← x0] at y
      exact y
  · rcases qq with ⟨q1, _, q3, _⟩ | ⟨q1, _, q3, q4⟩ | ⟨q1, _, q3, q4⟩
    · exact Or.inl ⟨q1, q3⟩
    · exact (x1_ne f51 (congrFun q4 0)).elim
    · exact Or.inr (Or.inr ⟨rfl, q1, q3⟩)
set_option maxRecDepth 4000 in
theorem du_person {c : Nat → Nat} {T n m u t : Nat} {L : bL_} {h : hp_} (I : IV c T n m u t L h) (p w : Int32) : dual mX9_person mX10_person [(1, .int p), (2, .int w)] true true 2 h := by
  have qq := q_person I p w
  have f49 : ∀ i, kpF i = true → (rX10_person_49 (h 49) (h 51) (h 73) (h 497) (jj_gd h 64 8) n p w) i = h 49 i := fun i hi => by
    have i0 := kpF_0 hi
    unfold rX10_person_49
    repeat' split
    all_goals first | rw [jj_une i0, jj_une i0] | rw [jj_une i0]
  refine ⟨(vX9_person (h 0) (h 1) (h 2) (h 3) (h 4) (h 5) (h 6) (h 38) (h 39) (h 40) (h 41) (h 42) p w), (vX10_person (h 49) (h 51) (h 73) (h 497) (jj_gd h 64 8) n p w), (rX10_person_49 (h 49) (h 51) (h 73) (h 497) (jj_gd h 64 8) n p w) 0, fun h1 => h1 0 = (rX9_person_0 (h 0) (h 1) (h 2) (h 3) (h 4) (h 5) (h 6) (h 38) (h 39) (h 40) (h 41) (h 42) p w) ∧ kp h h1 ∧ ∀ x, 49 ≤ x → h1 x = h x, ?_, ?_, ?_⟩
  · intro d kc ks g Q k
    exact sp_X9_person I.2.2.1.1 I.2.2.1.2.2.1 (k _ ⟨rfl, kp_0 (res_12 qq) rfl, fun x hx => rs_hi rfl hx⟩)
  · intro d kc ks h1 g Q hm k
    obtain ⟨m0, mk, mx⟩ := hm
    have e49 : h1 49 = h 49 := mx 49 (by omega)
    have e51 : h1 51 = h 51 := mx 51 (by omega)
    have e73 : h1 73 = h 73 := mx 73 (by omega)
    have e497 : h1 497 = h 497 := mx 497 (by omega)
    have g64 : jj_gd h1 64 8 = jj_gd h 64 8 := gd_eq (fun j hj => mx _ (by omega))
    refine sp_X10_person (by rw [mx 53 (by omega)]; exact I.2.2.1.2.1) I.2.2.1.2.2.1 ?_
    rw [e49, e51, e73, e497, g64]
    refine k _ ⟨c, T, n, m, u, t, L, IV_kp I (kp_tr mk ?_) ?_⟩ rfl
    · exact kp_49 (fun i hi => by rw [mx 49 (by omega)]; exact f49 i hi) rfl
    · have y := res_c qq I.2.1.2.2.1 I.2.1.2.2.2
      have x0 := m0
      rw [← x0] at y
      exact y
  · rcases qq with ⟨q1, _, q3, _⟩ | ⟨q1, _, q3, q4⟩ | ⟨q1, _, q3, q4⟩
    · exact Or.inl ⟨q1, q3⟩
    · exact Or.inr (Or.inl ⟨rfl, q1, q3⟩)
    · exact Or.inr (Or.inr ⟨rfl, q1, q3⟩)
set_option maxRecDepth 4000 in
theorem du_can {c : Nat → Nat} {T n m u t : Nat} {L : bL_} {h : hp_} (I : IV c T n m u t L h) (a b : Int32) : dual mX9_can mX10_can [(1, .int a), (2, .int b)] true false 1 h := by
  have qq := q_can I a b
  have f49 : ∀ i, kpF i = true → (rX10_can_49 (h 49) (h 51) (h 497) n a b) i = h 49 i := fun i hi => by
    have i0 := kpF_0 hi
    unfold rX10_can_49
    repeat' split
    all_goals first | rw [jj_une i0, jj_une i0] | rw [jj_une i0]
  have f51 : (rX10_can_51 (h 49) (h 51) (h 497) n a b) 1 = h 51 1 := by
    unfold rX10_can_51
    repeat' split
    all_goals rfl
  refine ⟨(vX9_can (h 0) (h 1) (h 38) (h 40) a b), (vX10_can (h 49) (h 51) (h 497) n a b), (rX10_can_49 (h 49) (h 51) (h 497) n a b) 0, fun h1 => h1 0 = (rX9_can_0 (h 0) (h 1) (h 38) (h 40) a b) ∧ kp h h1 ∧ ∀ x, 49 ≤ x → h1 x = h x, ?_, ?_, ?_⟩
  · intro d kc ks g Q k
    exact sp_X9_can I.2.2.1.1 I.2.2.1.2.2.1 (k _ ⟨rfl, kp_0 (res_12 qq) rfl, fun x hx => rs_hi rfl hx⟩)
  · intro d kc ks h1 g Q hm k
    obtain ⟨m0, mk, mx⟩ := hm
    have e49 : h1 49 = h 49 := mx 49 (by omega)
    have e51 : h1 51 = h 51 := mx 51 (by omega)
    have e497 : h1 497 = h 497 := mx 497 (by omega)
    refine sp_X10_can (by rw [mx 53 (by omega)]; exact I.2.2.1.2.1) I.2.2.1.2.2.1 ?_
    rw [e49, e51, e497]
    refine k _ ⟨c, T, n, m, u, t, L, IV_kp I (kp_tr mk ?_) ?_⟩ rfl
    · exact kp_49 (fun i hi => by rw [mx 49 (by omega)]; exact f49 i hi) rfl
    · have y := res_c qq I.2.1.2.2.1 I.2.1.2.2.2
      have x0 := m0
      rw [← x0] at y
      exact y
  · rcases qq with ⟨q1, _, q3, _⟩ | ⟨q1, _, q3, q4⟩ | ⟨q1, _, q3, q4⟩
    · exact Or.inl ⟨q1, q3⟩
    · exact Or.inr (Or.inl ⟨rfl, q1, q3⟩)
    · exact (x1_ne f51 (congrFun q4 1)).elim
set_option maxRecDepth 4000 in
theorem du_far {c : Nat → Nat} {T n m u t : Nat} {L : bL_} {h : hp_} (I : IV c T n m u t L h) (a b : Int32) : dual mX9_far mX10_far [(1, .int a), (2, .int b)] true false 1 h := by
  have qq := q_far I a b
  have f49 : ∀ i, kpF i = true → (rX10_far_49 (h 49) (h 51) (jj_gd h 64 8) n a b) i = h 49 i := fun i hi => by
    have i0 := kpF_0 hi
    unfold rX10_far_49
    repeat' split
    all_goals first | rw [jj_une i0, jj_une i0] | rw [jj_une i0]
  have f51 : (rX10_far_51 (h 49) (h 51) (jj_gd h 64 8) n a b) 1 = h 51 1 := by
    unfold rX10_far_51
    repeat' split
    all_goals rfl
  refine ⟨(vX9_far (h 0) (h 1) (h 4) (h 5) a b), (vX10_far (h 49) (h 51) (jj_gd h 64 8) n a b), (rX10_far_49 (h 49) (h 51) (jj_gd h 64 8) n a b) 0, fun h1 => h1 0 = (rX9_far_0 (h 0) (h 1) (h 4) (h 5) a b) ∧ kp h h1 ∧ ∀ x, 49 ≤ x → h1 x = h x, ?_, ?_, ?_⟩
  · intro d kc ks g Q k
    exact sp_X9_far I.2.2.1.1 I.2.2.1.2.2.1 (k _ ⟨rfl, kp_0 (res_12 qq) rfl, fun x hx => rs_hi rfl hx⟩)
  · intro d kc ks h1 g Q hm k
    obtain ⟨m0, mk, mx⟩ := hm
    have e49 : h1 49 = h 49 := mx 49 (by omega)
    have e51 : h1 51 = h 51 := mx 51 (by omega)
    have g64 : jj_gd h1 64 8 = jj_gd h 64 8 := gd_eq (fun j hj => mx _ (by omega))
    refine sp_X10_far (by rw [mx 53 (by omega)]; exact I.2.2.1.2.1) I.2.2.1.2.2.1 ?_
    rw [e49, e51, g64]
    refine k _ ⟨c, T, n, m, u, t, L, IV_kp I (kp_tr mk ?_) ?_⟩ rfl
    · exact kp_49 (fun i hi => by rw [mx 49 (by omega)]; exact f49 i hi) rfl
    · have y := res_c qq I.2.1.2.2.1 I.2.1.2.2.2
      have x0 := m0
      rw [← x0] at y
      exact y
  · rcases qq with ⟨q1, _, q3, _⟩ | ⟨q1, _, q3, q4⟩ | ⟨q1, _, q3, q4⟩
    · exact Or.inl ⟨q1, q3⟩
    · exact Or.inr (Or.inl ⟨rfl, q1, q3⟩)
    · exact (x1_ne f51 (congrFun q4 1)).elim
set_option maxRecDepth 4000 in
theorem du_gap {c : Nat → Nat} {T n m u t : Nat} {L : bL_} {h : hp_} (I : IV c T n m u t L h) (a b : Int32) : dual mX9_gap mX10_gap [(1, .int a), (2, .int b)] true false 1 h := by
  have qq := q_gap I a b
  have f49 : ∀ i, kpF i = true → (rX10_gap_49 (h 49) (h 51) (h 497) n a b) i = h 49 i := fun i hi => by
    have i0 := kpF_0 hi
    unfold rX10_gap_49
    repeat' split
    all_goals first | rw [jj_une i0, jj_une i0] | rw [jj_une i0]
  have f51 : (rX10_gap_51 (h 49) (h 51) (h 497) n a b) 1 = h 51 1 := by
    unfold rX10_gap_51
    repeat' split
    all_goals rfl
  refine ⟨(vX9_gap (h 0) (h 1) (h 39) a b), (vX10_gap (h 49) (h 51) (h 497) n a b), (rX10_gap_49 (h 49) (h 51) (h 497) n a b) 0, fun h1 => h1 0 = (rX9_gap_0 (h 0) (h 1) (h 39) a b) ∧ kp h h1 ∧ ∀ x, 49 ≤ x → h1 x = h x, ?_, ?_, ?_⟩
  · intro d kc ks g Q k
    exact sp_X9_gap I.2.2.1.1 I.2.2.1.2.2.1 (k _ ⟨rfl, kp_0 (res_12 qq) rfl, fun x hx => rs_hi rfl hx⟩)
  · intro d kc ks h1 g Q hm k
    obtain ⟨m0, mk, mx⟩ := hm
    have e49 : h1 49 = h 49 := mx 49 (by omega)
    have e51 : h1 51 = h 51 := mx 51 (by omega)
    have e497 : h1 497 = h 497 := mx 497 (by omega)
    refine sp_X10_gap (by rw [mx 53 (by omega)]; exact I.2.2.1.2.1) I.2.2.1.2.2.1 ?_
    rw [e49, e51, e497]
    refine k _ ⟨c, T, n, m, u, t, L, IV_kp I (kp_tr mk ?_) ?_⟩ rfl
    · exact kp_49 (fun i hi => by rw [mx 49 (by omega)]; exact f49 i hi) rfl
    · have y := res_c qq I.2.1.2.2.1 I.2.1.2.2.2
      have x0 := m0
      rw [← x0] at y
      exact y
  · rcases qq with ⟨q1, _, q3, _⟩ | ⟨q1, _, q3, q4⟩ | ⟨q1, _, q3, q4⟩
    · exact Or.inl ⟨q1, q3⟩
    · exact Or.inr (Or.inl ⟨rfl, q1, q3⟩)
    · exact (x1_ne f51 (congrFun q4 1)).elim
set_option maxRecDepth 4000 in
theorem du_within {c : Nat → Nat} {T n m u t : Nat} {L : bL_} {h : hp_} (I : IV c T n m u t L h) (w : Int32) : dual mX9_within mX10_within [(1, .int w)] false true 1 h := by
  have qq := q_within I w
  have f49 : ∀ i, kpF i = true → (rX10_within_49 (h 49) (h 51) (h 497) n w) i = h 49 i := fun i hi => by
    have i0 := kpF_0 hi
    unfold rX10_within_49
    repeat' split
    all_goals first | rw [jj_une i0, jj_une i0] | rw [jj_une i0]
  have f51 : (rX10_within_51 (h 49) (h 51) (h 497) n w) 0 = h 51 0 := by
    unfold rX10_within_51
    repeat' split
    all_goals rfl
  refine ⟨(vX9_within (h 0) (h 39) n w), (vX10_within (h 49) (h 51) (h 497) n w), (rX10_within_49 (h 49) (h 51) (h 497) n w) 0, fun h1 => h1 0 = (rX9_within_0 (h 0) (h 39) n w) ∧ kp h h1 ∧ ∀ x, 49 ≤ x → h1 x = h x, ?_, ?_, ?_⟩
  · intro d kc ks g Q k
    exact sp_X9_within I.2.2.1.1 I.2.2.1.2.2.1 (k _ ⟨rfl, kp_0 (res_12 qq) rfl, fun x hx => rs_hi rfl hx⟩)
  · intro d kc ks h1 g Q hm k
    obtain ⟨m0, mk, mx⟩ := hm
    have e49 : h1 49 = h 49 := mx 49 (by omega)
    have e51 : h1 51 = h 51 := mx 51 (by omega)
    have e497 : h1 497 = h 497 := mx 497 (by omega)
    refine sp_X10_within (by rw [mx 53 (by omega)]; exact I.2.2.1.2.1) I.2.2.1.2.2.1 ?_
    rw [e49, e51, e497]
    refine k _ ⟨c, T, n, m, u, t, L, IV_kp I (kp_tr mk ?_) ?_⟩ rfl
    · exact kp_49 (fun i hi => by rw [mx 49 (by omega)]; exact f49 i hi) rfl
    · have y := res_c qq I.2.1.2.2.1 I.2.1.2.2.2
      have x0 := m0
      rw [← x0] at y
      exact y
  · rcases qq with ⟨q1, _, q3, _⟩ | ⟨q1, _, q3, q4⟩ | ⟨q1, _, q3, q4⟩
    · exact Or.inl ⟨q1, q3⟩
    · exact (x1_ne f51 (congrFun q4 0)).elim
    · exact Or.inr (Or.inr ⟨rfl, q1, q3⟩)
set_option maxRecDepth 4000 in
theorem du_mates {c : Nat → Nat} {T n m u t : Nat} {L : bL_} {h : hp_} (I : IV c T n m u t L h) (p : Int32) : dual mX9_mates mX10_mates [(1, .int p)] true false 1 h := by
  have qq := q_mates I p
  have f49 : ∀ i, kpF i = true → (rX10_mates_49 (h 49) (h 51) (h 497) n p) i = h 49 i := fun i hi => by
    have i0 := kpF_0 hi
    unfold rX10_mates_49
    repeat' split
    all_goals first | rw [jj_une i0, jj_une i0] | rw [jj_une i0]
  have f51 : (rX10_mates_51 (h 49) (h 51) (h 497) n p) 1 = h 51 1 := by
    unfold rX10_mates_51
    repeat' split
    all_goals rfl
  refine ⟨(vX9_mates (h 0) (h 1) (h 39) n p), (vX10_mates (h 49) (h 51) (h 497) n p), (rX10_mates_49 (h 49) (h 51) (h 497) n p) 0, fun h1 => h1 0 = (rX9_mates_0 (h 0) (h 1) (h 39) n p) ∧ kp h h1 ∧ ∀ x, 49 ≤ x → h1 x = h x, ?_, ?_, ?_⟩
  · intro d kc ks g Q k
    exact sp_X9_mates I.2.2.1.1 I.2.2.1.2.2.1 (k _ ⟨rfl, kp_0 (res_12 qq) rfl, fun x hx => rs_hi rfl hx⟩)
  · intro d kc ks h1 g Q hm k
    obtain ⟨m0, mk, mx⟩ := hm
    have e49 : h1 49 = h 49 := mx 49 (by omega)
    have e51 : h1 51 = h 51 := mx 51 (by omega)
    have e497 : h1 497 = h 497 := mx 497 (by omega)
    refine sp_X10_mates (by rw [mx 53 (by omega)]; exact I.2.2.1.2.1) I.2.2.1.2.2.1 ?_
    rw [e49, e51, e497]
    refine k _ ⟨c, T, n, m, u, t, L, IV_kp I (kp_tr mk ?_) ?_⟩ rfl
    · exact kp_49 (fun i hi => by rw [mx 49 (by omega)]; exact f49 i hi) rfl
    · have y := res_c qq I.2.1.2.2.1 I.2.1.2.2.2
      have x0 := m0
      rw [← x0] at y
      exact y
  · rcases qq with ⟨q1, _, q3, _⟩ | ⟨q1, _, q3, q4⟩ | ⟨q1, _, q3, q4⟩
    · exact Or.inl ⟨q1, q3⟩
    · exact Or.inr (Or.inl ⟨rfl, q1, q3⟩)
    · exact (x1_ne f51 (congrFun q4 1)).elim
set_option maxRecDepth 4000 in
theorem du_hold {c : Nat → Nat} {T n m u t : Nat} {L : bL_} {h : hp_} (I : IV c T n m u t L h) (a b w : Int32) : dual mX9_hold mX10_hold [(1, .int a), (2, .int b), (3, .int w)] true true 2 h := by
  have qq := q_hold I a b w
  have f49 : ∀ i, kpF i = true → (rX10_hold_49 (h 8) (h 49) (h 51) (h 73) (h 497) (jj_gd h 64 8) n m a b w) i = h 49 i := fun i hi => by
    have i0 := kpF_0 hi
    unfold rX10_hold_49
    repeat' split
    all_goals first | rw [jj_une i0, jj_une i0] | rw [jj_une i0]
  refine ⟨(vX9_hold (h 0) (h 1) (h 2) (h 3) (h 6) (h 8) (h 38) (h 39) (h 41) m a b w), (vX10_hold (h 8) (h 49) (h 51) (h 73) (h 497) (jj_gd h 64 8) n m a b w), (rX10_hold_49 (h 8) (h 49) (h 51) (h 73) (h 497) (jj_gd h 64 8) n m a b w) 0, fun h1 => h1 0 = (rX9_hold_0 (h 0) (h 1) (h 2) (h 3) (h 6) (h 8) (h 38) (h 39) (h 41) m a b w) ∧ kp h h1 ∧ ∀ x, 49 ≤ x → h1 x = h x, ?_, ?_, ?_⟩
  · intro d kc ks g Q k
    refine sp_X9_hold I.2.2.1.1 I.2.2.1.2.2.1 I.2.2.2.1.1 I.2.2.2.1.2.2.1 (fun h9 e9 => k _ ⟨rfl, ?_, fun x hx => (rs_hi rfl hx).trans (eq_hi e9 rfl hx)⟩)
    have e0 : h9 0 = h 0 := e9 0 (by decide)
    exact kp_tr (kp_X e9 rfl) (kp_0 (by rw [e0]; exact res_12 qq) rfl)
  · intro d kc ks h1 g Q hm k
    obtain ⟨m0, mk, mx⟩ := hm
    have e8 : h1 8 = h 8 := mk.1 8 rfl
    have e49 : h1 49 = h 49 := mx 49 (by omega)
    have e51 : h1 51 = h 51 := mx 51 (by omega)
    have e73 : h1 73 = h 73 := mx 73 (by omega)
    have e497 : h1 497 = h 497 := mx 497 (by omega)
    have g64 : jj_gd h1 64 8 = jj_gd h 64 8 := gd_eq (fun j hj => mx _ (by omega))
    refine sp_X10_hold (by rw [mx 53 (by omega)]; exact I.2.2.1.2.1) I.2.2.1.2.2.1 (by rw [mx 49 (by omega)]; exact I.2.2.2.1.2.1) I.2.2.2.1.2.2.1 (by rw [mk.1 8 rfl, gd_eq (k := h) (fun j hj => mx _ (by omega))]; exact I.2.2.2.1.2.2.2) (fun h9 e9 => ?_)
    rw [e8, e49, e51, e73, e497, g64]
    refine k _ ⟨c, T, n, m, u, t, L, IV_kp I (kp_tr mk ?_) ?_⟩ rfl
    · have x49 : h9 49 = h 49 := (e9 49 (by decide)).trans (mx 49 (by omega))
      exact kp_tr (kp_X e9 rfl) (kp_49 (fun i hi => by rw [x49]; exact f49 i hi) rfl)
    · have y := res_c qq I.2.1.2.2.1 I.2.1.2.2.2
      have x0 : h9 0 = (rX9_hold_0 (h 0) (h 1) (h 2) (h 3) (h 6) (h 8) (h 38) (h 39) (h 41) m a b w) := (e9 0 (by decide)).trans m0
      rw [← x0] at y
      exact y
  · rcases qq with ⟨q1, _, q3, _⟩ | ⟨q1, _, q3, q4⟩ | ⟨q1, _, q3, q4⟩
    · exact Or.inl ⟨q1, q3⟩
    · exact Or.inr (Or.inl ⟨rfl, q1, q3⟩)
    · exact Or.inr (Or.inr ⟨rfl, q1, q3⟩)
set_option maxRecDepth 4000 in
theorem du_ahead {c : Nat → Nat} {T n m u t : Nat} {L : bL_} {h : hp_} (I : IV c T n m u t L h) (q w : Int32) : dual mX9_ahead mX10_ahead [(1, .int q), (2, .int w)] false true 1 h := by
  have qq := q_ahead I q w
  have f49 : ∀ i, kpF i = true → (rX10_ahead_49 (h 49) (h 51) (h 497) (h 498) n q w) i = h 49 i := fun i hi => by
    have i0 := kpF_0 hi
    unfold rX10_ahead_49
    repeat' split
    all_goals first | rw [jj_une i0, jj_une i0] | rw [jj_une i0]
  have f51 : (rX10_ahead_51 (h 49) (h 51) (h 497) (h 498) n q w) 0 = h 51 0 := by
    unfold rX10_ahead_51
    repeat' split
    all_goals rfl
  refine ⟨(vX9_ahead (h 0) (h 38) (h 39) (h 40) (h 41) (h 42) (h 43) (h 44) (h 45) (h 46) (h 47) n q w), (vX10_ahead (h 49) (h 51) (h 497) (h 498) n q w), (rX10_ahead_49 (h 49) (h 51) (h 497) (h 498) n q w) 0, fun h1 => h1 0 = (rX9_ahead_0 (h 0) (h 38) (h 39) (h 40) (h 41) (h 42) (h 43) (h 44) (h 45) (h 46) (h 47) n q w) ∧ kp h h1 ∧ ∀ x, 49 ≤ x → h1 x = h x, ?_, ?_, ?_⟩
  · intro d kc ks g Q k
    exact sp_X9_ahead I.2.2.1.1 I.2.2.1.2.2.1 (k _ ⟨rfl, kp_0 (res_12 qq) rfl, fun x hx => rs_hi rfl hx⟩)
  · intro d kc ks h1 g Q hm k
    obtain ⟨m0, mk, mx⟩ := hm
    have e49 : h1 49 = h 49 := mx 49 (by omega)
    have e51 : h1 51 = h 51 := mx 51 (by omega)
    have e497 : h1 497 = h 497 := mx 497 (by omega)
    have e498 : h1 498 = h 498 := mx 498 (by omega)
    refine sp_X10_ahead (by rw [mx 53 (by omega)]; exact I.2.2.1.2.1) I.2.2.1.2.2.1 ?_
    rw [e49, e51, e497, e498]
    refine k _ ⟨c, T, n, m, u, t, L, IV_kp I (kp_tr mk ?_) ?_⟩ rfl
    · exact kp_49 (fun i hi => by rw [mx 49 (by omega)]; exact f49 i hi) rfl
    · have y := res_c qq I.2.1.2.2.1 I.2.1.2.2.2
      have x0 := m0
      rw [← x0] at y
      exact y
  · rcases qq with ⟨q1, _, q3, _⟩ | ⟨q1, _, q3, q4⟩ | ⟨q1, _, q3, q4⟩
    · exact Or.inl ⟨q1, q3⟩
    · exact (x1_ne f51 (congrFun q4 0)).elim
    · exact Or.inr (Or.inr ⟨rfl, q1, q3⟩)
set_option maxRecDepth 4000 in
theorem du_later {c : Nat → Nat} {T n m u t : Nat} {L : bL_} {h : hp_} (I : IV c T n m u t L h) (p q : Int32) : dual mX9_later mX10_later [(1, .int p), (2, .int q)] true true 2 h := by
  have qq := q_later I p q
  have f49 : ∀ i, kpF i = true → (rX10_later_49 (h 49) (h 51) (h 497) (h 498) n p q) i = h 49 i := fun i hi => by
    have i0 := kpF_0 hi
    unfold rX10_later_49
    repeat' split
    all_goals first | rw [jj_une i0, jj_une i0] | rw [jj_une i0]
  refine ⟨(vX9_later (h 0) (h 1) (h 38) (h 39) (h 40) (h 41) (h 42) (h 43) (h 44) (h 45) (h 46) (h 47) n p q), (vX10_later (h 49) (h 51) (h 497) (h 498) n p q), (rX10_later_49 (h 49) (h 51) (h 497) (h 498) n p q) 0, fun h1 => h1 0 = (rX9_later_0 (h 0) (h 1) (h 38) (h 39) (h 40) (h 41) (h 42) (h 43) (h 44) (h 45) (h 46) (h 47) n p q) ∧ kp h h1 ∧ ∀ x, 49 ≤ x → h1 x = h x, ?_, ?_, ?_⟩
  · intro d kc ks g Q k
    exact sp_X9_later I.2.2.1.1 I.2.2.1.2.2.1 (k _ ⟨rfl, kp_0 (res_12 qq) rfl, fun x hx => rs_hi rfl hx⟩)
  · intro d kc ks h1 g Q hm k
    obtain ⟨m0, mk, mx⟩ := hm
    have e49 : h1 49 = h 49 := mx 49 (by omega)
    have e51 : h1 51 = h 51 := mx 51 (by omega)
    have e497 : h1 497 = h 497 := mx 497 (by omega)
    have e498 : h1 498 = h 498 := mx 498 (by omega)
    refine sp_X10_later (by rw [mx 53 (by omega)]; exact I.2.2.1.2.1) I.2.2.1.2.2.1 ?_
    rw [e49, e51, e497, e498]
    refine k _ ⟨c, T, n, m, u, t, L, IV_kp I (kp_tr mk ?_) ?_⟩ rfl
    · exact kp_49 (fun i hi => by rw [mx 49 (by omega)]; exact f49 i hi) rfl
    · have y := res_c qq I.2.1.2.2.1 I.2.1.2.2.2
      have x0 := m0
      rw [← x0] at y
      exact y
  · rcases qq with ⟨q1, _, q3, _⟩ | ⟨q1, _, q3, q4⟩ | ⟨q1, _, q3, q4⟩
    · exact Or.inl ⟨q1, q3⟩
    · exact Or.inr (Or.inl ⟨rfl, q1, q3⟩)
    · exact Or.inr (Or.inr ⟨rfl, q1, q3⟩)
set_option maxRecDepth 4000 in
theorem du_helpers {c : Nat → Nat} {T n m u t : Nat} {L : bL_} {h : hp_} (I : IV c T n m u t L h) (p : Int32) : dual mX9_helpers mX10_helpers [(1, .int p)] true false 1 h := by
  have qq := q_helpers I p
  have f49 : ∀ i, kpF i = true → (rX10_helpers_49 (h 8) (h 49) (h 51) (h 73) (h 497) (jj_gd h 64 8) n m p) i = h 49 i := fun i hi => by
    have i0 := kpF_0 hi
    unfold rX10_helpers_49
    repeat' split
    all_goals first | rw [jj_une i0, jj_une i0] | rw [jj_une i0]
  have f51 : (rX10_helpers_51 (h 8) (h 49) (h 51) (h 73) (h 497) (jj_gd h 64 8) n m p) 1 = h 51 1 := by
    unfold rX10_helpers_51
    repeat' split
    all_goals rfl
  refine ⟨(vX9_helpers (h 0) (h 1) (h 2) (h 3) (h 6) (h 8) (h 38) (h 39) (h 40) (h 41) n m p), (vX10_helpers (h 8) (h 49) (h 51) (h 73) (h 497) (jj_gd h 64 8) n m p), (rX10_helpers_49 (h 8) (h 49) (h 51) (h 73) (h 497) (jj_gd h 64 8) n m p) 0, fun h1 => h1 0 = (rX9_helpers_0 (h 0) (h 1) (h 2) (h 3) (h 6) (h 8) (h 38) (h 39) (h 40) (h 41) n m p) ∧ kp h h1 ∧ ∀ x, 49 ≤ x → h1 x = h x, ?_, ?_, ?_⟩
  · intro d kc ks g Q k
    refine sp_X9_helpers I.2.2.1.1 I.2.2.1.2.2.1 I.2.2.2.1.1 I.2.2.2.1.2.2.1 (fun h9 e9 => k _ ⟨rfl, ?_, fun x hx => (rs_hi rfl hx).trans (eq_hi e9 rfl hx)⟩)
    have e0 : h9 0 = h 0 := e9 0 (by decide)
    exact kp_tr (kp_X e9 rfl) (kp_0 (by rw [e0]; exact res_12 qq) rfl)
  · intro d kc ks h1 g Q hm k
    obtain ⟨m0, mk, mx⟩ := hm
    have e8 : h1 8 = h 8 := mk.1 8 rfl
    have e49 : h1 49 = h 49 := mx 49 (by omega)
    have e51 : h1 51 = h 51 := mx 51 (by omega)
    have e73 : h1 73 = h 73 := mx 73 (by omega)
    have e497 : h1 497 = h 497 := mx 497 (by omega)
    have g64 : jj_gd h1 64 8 = jj_gd h 64 8 := gd_eq (fun j hj => mx _ (by omega))
    refine sp_X10_helpers (by rw [mx 53 (by omega)]; exact I.2.2.1.2.1) I.2.2.1.2.2.1 (by rw [mx 49 (by omega)]; exact I.2.2.2.1.2.1) I.2.2.2.1.2.2.1 (by rw [mk.1 8 rfl, gd_eq (k := h) (fun j hj => mx _ (by omega))]; exact I.2.2.2.1.2.2.2) (fun h9 e9 => ?_)
    rw [e8, e49, e51, e73, e497, g64]
    refine k _ ⟨c, T, n, m, u, t, L, IV_kp I (kp_tr mk ?_) ?_⟩ rfl
    · have x49 : h9 49 = h 49 := (e9 49 (by decide)).trans (mx 49 (by omega))
      exact kp_tr (kp_X e9 rfl) (kp_49 (fun i hi => by rw [x49]; exact f49 i hi) rfl)
    · have y := res_c qq I.2.1.2.2.1 I.2.1.2.2.2
      have x0 : h9 0 = (rX9_helpers_0 (h 0) (h 1) (h 2) (h 3) (h 6) (h 8) (h 38) (h 39) (h 40) (h 41) n m p) := (e9 0 (by decide)).trans m0
      rw [← x0] at y
      exact y
  · rcases qq with ⟨q1, _, q3, _⟩ | ⟨q1, _, q3, q4⟩ | ⟨q1, _, q3, q4⟩
    · exact Or.inl ⟨q1, q3⟩
    · exact Or.inr (Or.inl ⟨rfl, q1, q3⟩)
    · exact (x1_ne f51 (congrFun q4 1)).elim
set_option maxRecDepth 4000 in
theorem du_tied {c : Nat → Nat} {T n m u t : Nat} {L : bL_} {h : hp_} (I : IV c T n m u t L h) (p : Int32) : dual mX9_tied mX10_tied [(1, .int p)] true false 1 h := by
  have qq := q_tied I p
  have f49 : ∀ i, kpF i = true → (rX10_tied_49 (h 49) (h 51) (h 497) n p) i = h 49 i := fun i hi => by
    have i0 := kpF_0 hi
    unfold rX10_tied_49
    repeat' split
    all_goals first | rw [jj_une i0, jj_une i0] | rw [jj_une i0]
  have f51 : (rX10_tied_51 (h 49) (h 51) (h 497) n p) 1 = h 51 1 := by
    unfold rX10_tied_51
    repeat' split
    all_goals rfl
  refine ⟨(vX9_tied (h 0) (h 1) (h 42) n p), (vX10_tied (h 49) (h 51) (h 497) n p), (rX10_tied_49 (h 49) (h 51) (h 497) n p) 0, fun h1 => h1 0 = (rX9_tied_0 (h 0) (h 1) (h 42) n p) ∧ kp h h1 ∧ ∀ x, 49 ≤ x → h1 x = h x, ?_, ?_, ?_⟩
  · intro d kc ks g Q k
    exact sp_X9_tied I.2.2.1.1 I.2.2.1.2.2.1 (k _ ⟨rfl, kp_0 (res_12 qq) rfl, fun x hx => rs_hi rfl hx⟩)
  · intro d kc ks h1 g Q hm k
    obtain ⟨m0, mk, mx⟩ := hm
    have e49 : h1 49 = h 49 := mx 49 (by omega)
    have e51 : h1 51 = h 51 := mx 51 (by omega)
    have e497 : h1 497 = h 497 := mx 497 (by omega)
    refine sp_X10_tied (by rw [mx 53 (by omega)]; exact I.2.2.1.2.1) I.2.2.1.2.2.1 ?_
    rw [e49, e51, e497]
    refine k _ ⟨c, T, n, m, u, t, L, IV_kp I (kp_tr mk ?_) ?_⟩ rfl
    · exact kp_49 (fun i hi => by rw [mx 49 (by omega)]; exact f49 i hi) rfl
    · have y := res_c qq I.2.1.2.2.1 I.2.1.2.2.2
      have x0 := m0
      rw [← x0] at y
      exact y
  · rcases qq with ⟨q1, _, q3, _⟩ | ⟨q1, _, q3, q4⟩ | ⟨q1, _, q3, q4⟩
    · exact Or.inl ⟨q1, q3⟩
    · exact Or.inr (Or.inl ⟨rfl, q1, q3⟩)
    · exact (x1_ne f51 (congrFun q4 1)).elim
set_option maxRecDepth 4000 in
theorem du_catches {c : Nat → Nat} {T n m u t : Nat} {L : bL_} {h : hp_} (I : IV c T n m u t L h) (p : Int32) : dual mX9_catches mX10_catches [(1, .int p)] true false 1 h := by
  have qq := q_catches I p
  have f49 : ∀ i, kpF i = true → (rX10_catches_49 (h 8) (h 49) (h 51) (h 73) (h 497) (h 498) (jj_gd h 64 8) n m p) i = h 49 i := fun i hi => by
    have i0 := kpF_0 hi
    unfold rX10_catches_49
    repeat' split
    all_goals first | rw [jj_une i0, jj_une i0] | rw [jj_une i0]
  have f51 : (rX10_catches_51 (h 8) (h 49) (h 51) (h 73) (h 497) (h 498) (jj_gd h 64 8) n m p) 1 = h 51 1 := by
    unfold rX10_catches_51
    repeat' split
    all_goals rfl
  refine ⟨(vX9_catches (h 0) (h 1) (h 2) (h 3) (h 6) (h 8) (h 38) (h 39) (h 40) (h 41) (h 42) (h 43) (h 44) (h 45) (h 46) (h 47) n m p), (vX10_catches (h 8) (h 49) (h 51) (h 73) (h 497) (h 498) (jj_gd h 64 8) n m p), (rX10_catches_49 (h 8) (h 49) (h 51) (h 73) (h 497) (h 498) (jj_gd h 64 8) n m p) 0, fun h1 => h1 0 = (rX9_catches_0 (h 0) (h 1) (h 2) (h 3) (h 6) (h 8) (h 38) (h 39) (h 40) (h 41) (h 42) (h 43) (h 44) (h 45) (h 46) (h 47) n m p) ∧ kp h h1 ∧ ∀ x, 49 ≤ x → h1 x = h x, ?_, ?_, ?_⟩
  · intro d kc ks g Q k
    refine sp_X9_catches I.2.2.1.1 I.2.2.1.2.2.1 I.2.2.2.1.1 I.2.2.2.1.2.2.1 (fun h9 e9 => k _ ⟨rfl, ?_, fun x hx => (rs_hi rfl hx).trans (eq_hi e9 rfl hx)⟩)
    have e0 : h9 0 = h 0 := e9 0 (by decide)
    exact kp_tr (kp_X e9 rfl) (kp_0 (by rw [e0]; exact res_12 qq) rfl)
  · intro d kc ks h1 g Q hm k
    obtain ⟨m0, mk, mx⟩ := hm
    have e8 : h1 8 = h 8 := mk.1 8 rfl
    have e49 : h1 49 = h 49 := mx 49 (by omega)
    have e51 : h1 51 = h 51 := mx 51 (by omega)
    have e73 : h1 73 = h 73 := mx 73 (by omega)
    have e497 : h1 497 = h 497 := mx 497 (by omega)
    have e498 : h1 498 = h 498 := mx 498 (by omega)
    have g64 : jj_gd h1 64 8 = jj_gd h 64 8 := gd_eq (fun j hj => mx _ (by omega))
    refine sp_X10_catches (by rw [mx 53 (by omega)]; exact I.2.2.1.2.1) I.2.2.1.2.2.1 (by rw [mx 49 (by omega)]; exact I.2.2.2.1.2.1) I.2.2.2.1.2.2.1 (by rw [mk.1 8 rfl, gd_eq (k := h) (fun j hj => mx _ (by omega))]; exact I.2.2.2.1.2.2.2) (fun h9 e9 => ?_)
    rw [e8, e49, e51, e73, e497, e498, g64]
    refine k _ ⟨c, T, n, m, u, t, L, IV_kp I (kp_tr mk ?_) ?_⟩ rfl
    · have x49 : h9 49 = h 49 := (e9 49 (by decide)).trans (mx 49 (by omega))
      exact kp_tr (kp_X e9 rfl) (kp_49 (fun i hi => by rw [x49]; exact f49 i hi) rfl)
    · have y := res_c qq I.2.1.2.2.1 I.2.1.2.2.2
      have x0 : h9 0 = (rX9_catches_0 (h 0) (h 1) (h 2) (h 3) (h 6) (h 8) (h 38) (h 39) (h 40) (h 41) (h 42) (h 43) (h 44) (h 45) (h 46) (h 47) n m p) := (e9 0 (by decide)).trans m0
      rw [← x0] at y
      exact y
  · rcases qq with ⟨q1, _, q3, _⟩ | ⟨q1, _, q3, q4⟩ | ⟨q1, _, q3, q4⟩
    · exact Or.inl ⟨q1, q3⟩
    · exact Or.inr (Or.inl ⟨rfl, q1, q3⟩)
    · exact (x1_ne f51 (congrFun q4 1)).elim
set_option maxRecDepth 4000 in
theorem du_best {c : Nat → Nat} {T n m u t : Nat} {L : bL_} {h : hp_} (I : IV c T n m u t L h) (p : Int32) : dual mX9_best mX10_best [(1, .int p)] true false 1 h := by
  have qq := q_best I p
  have f49 : ∀ i, kpF i = true → (rX10_best_49 (h 8) (h 49) (h 51) (h 73) (h 497) (jj_gd h 64 8) n m p) i = h 49 i := fun i hi => by
    have i0 := kpF_0 hi
    unfold rX10_best_49
    repeat' split
    all_goals first | rw [jj_une i0, jj_une i0] | rw [jj_une i0]
  have f51 : (rX10_best_51 (h 8) (h 49) (h 51) (h 73) (h 497) (jj_gd h 64 8) n m p) 1 = h 51 1 := by
    unfold rX10_best_51
    repeat' split
    all_goals rfl
  refine ⟨(vX9_best (h 0) (h 1) (h 2) (h 3) (h 6) (h 8) (h 38) (h 39) (h 40) (h 41) n m p), (vX10_best (h 8) (h 49) (h 51) (h 73) (h 497) (jj_gd h 64 8) n m p), (rX10_best_49 (h 8) (h 49) (h 51) (h 73) (h 497) (jj_gd h 64 8) n m p) 0, fun h1 => h1 0 = (rX9_best_0 (h 0) (h 1) (h 2) (h 3) (h 6) (h 8) (h 38) (h 39) (h 40) (h 41) n m p) ∧ kp h h1 ∧ ∀ x, 49 ≤ x → h1 x = h x, ?_, ?_, ?_⟩
  · intro d kc ks g Q k
    refine sp_X9_best I.2.2.1.1 I.2.2.1.2.2.1 I.2.2.2.1.1 I.2.2.2.1.2.2.1 (fun h9 e9 => k _ ⟨rfl, ?_, fun x hx => (rs_hi rfl hx).trans (eq_hi e9 rfl hx)⟩)
    have e0 : h9 0 = h 0 := e9 0 (by decide)
    exact kp_tr (kp_X e9 rfl) (kp_0 (by rw [e0]; exact res_12 qq) rfl)
  · intro d kc ks h1 g Q hm k
    obtain ⟨m0, mk, mx⟩ := hm
    have e8 : h1 8 = h 8 := mk.1 8 rfl
    have e49 : h1 49 = h 49 := mx 49 (by omega)
    have e51 : h1 51 = h 51 := mx 51 (by omega)
    have e73 : h1 73 = h 73 := mx 73 (by omega)
    have e497 : h1 497 = h 497 := mx 497 (by omega)
    have g64 : jj_gd h1 64 8 = jj_gd h 64 8 := gd_eq (fun j hj => mx _ (by omega))
    refine sp_X10_best (by rw [mx 53 (by omega)]; exact I.2.2.1.2.1) I.2.2.1.2.2.1 (by rw [mx 49 (by omega)]; exact I.2.2.2.1.2.1) I.2.2.2.1.2.2.1 (by rw [mk.1 8 rfl, gd_eq (k := h) (fun j hj => mx _ (by omega))]; exact I.2.2.2.1.2.2.2) (fun h9 e9 => ?_)
    rw [e8, e49, e51, e73, e497, g64]
    refine k _ ⟨c, T, n, m, u, t, L, IV_kp I (kp_tr mk ?_) ?_⟩ rfl
    · have x49 : h9 49 = h 49 := (e9 49 (by decide)).trans (mx 49 (by omega))
      exact kp_tr (kp_X e9 rfl) (kp_49 (fun i hi => by rw [x49]; exact f49 i hi) rfl)
    · have y := res_c qq I.2.1.2.2.1 I.2.1.2.2.2
      have x0 : h9 0 = (rX9_best_0 (h 0) (h 1) (h 2) (h 3) (h 6) (h 8) (h 38) (h 39) (h 40) (h 41) n m p) := (e9 0 (by decide)).trans m0
      rw [← x0] at y
      exact y
  · rcases qq with ⟨q1, _, q3, _⟩ | ⟨q1, _, q3, q4⟩ | ⟨q1, _, q3, q4⟩
    · exact Or.inl ⟨q1, q3⟩
    · exact Or.inr (Or.inl ⟨rfl, q1, q3⟩)
    · exact (x1_ne f51 (congrFun q4 1)).elim
set_option maxRecDepth 4000 in
theorem du_nearest {c : Nat → Nat} {T n m u t : Nat} {L : bL_} {h : hp_} (I : IV c T n m u t L h) (p : Int32) : dual mX9_nearest mX10_nearest [(1, .int p)] true false 1 h := by
  have qq := q_nearest I p
  have f49 : ∀ i, kpF i = true → (rX10_nearest_49 (h 49) (h 51) (jj_gd h 64 8) n p) i = h 49 i := fun i hi => by
    have i0 := kpF_0 hi
    unfold rX10_nearest_49
    repeat' split
    all_goals first | rw [jj_une i0, jj_une i0] | rw [jj_une i0]
  have f51 : (rX10_nearest_51 (h 49) (h 51) (jj_gd h 64 8) n p) 1 = h 51 1 := by
    unfold rX10_nearest_51
    repeat' split
    all_goals rfl
  refine ⟨(vX9_nearest (h 0) (h 1) (h 4) (h 5) n p), (vX10_nearest (h 49) (h 51) (jj_gd h 64 8) n p), (rX10_nearest_49 (h 49) (h 51) (jj_gd h 64 8) n p) 0, fun h1 => h1 0 = (rX9_nearest_0 (h 0) (h 1) (h 4) (h 5) n p) ∧ kp h h1 ∧ ∀ x, 49 ≤ x → h1 x = h x, ?_, ?_, ?_⟩
  · intro d kc ks g Q k
    exact sp_X9_nearest I.2.2.1.1 I.2.2.1.2.2.1 (k _ ⟨rfl, kp_0 (res_12 qq) rfl, fun x hx => rs_hi rfl hx⟩)
  · intro d kc ks h1 g Q hm k
    obtain ⟨m0, mk, mx⟩ := hm
    have e49 : h1 49 = h 49 := mx 49 (by omega)
    have e51 : h1 51 = h 51 := mx 51 (by omega)
    have g64 : jj_gd h1 64 8 = jj_gd h 64 8 := gd_eq (fun j hj => mx _ (by omega))
    refine sp_X10_nearest (by rw [mx 53 (by omega)]; exact I.2.2.1.2.1) I.2.2.1.2.2.1 ?_
    rw [e49, e51, g64]
    refine k _ ⟨c, T, n, m, u, t, L, IV_kp I (kp_tr mk ?_) ?_⟩ rfl
    · exact kp_49 (fun i hi => by rw [mx 49 (by omega)]; exact f49 i hi) rfl
    · have y := res_c qq I.2.1.2.2.1 I.2.1.2.2.2
      have x0 := m0
      rw [← x0] at y
      exact y
  · rcases qq with ⟨q1, _, q3, _⟩ | ⟨q1, _, q3, q4⟩ | ⟨q1, _, q3, q4⟩
    · exact Or.inl ⟨q1, q3⟩
    · exact Or.inr (Or.inl ⟨rfl, q1, q3⟩)
    · exact (x1_ne f51 (congrFun q4 1)).elim
set_option maxRecDepth 4000 in
theorem du_slowest {c : Nat → Nat} {T n m u t : Nat} {L : bL_} {h : hp_} (I : IV c T n m u t L h) (w : Int32) : dual mX9_slowest mX10_slowest [(1, .int w)] false true 1 h := by
  have qq := q_slowest I w
  have f49 : ∀ i, kpF i = true → (rX10_slowest_49 (h 49) (h 51) (h 497) n w) i = h 49 i := fun i hi => by
    have i0 := kpF_0 hi
    unfold rX10_slowest_49
    repeat' split
    all_goals first | rw [jj_une i0, jj_une i0] | rw [jj_une i0]
  have f51 : (rX10_slowest_51 (h 49) (h 51) (h 497) n w) 0 = h 51 0 := by
    unfold rX10_slowest_51
    repeat' split
    all_goals rfl
  refine ⟨(vX9_slowest (h 0) (h 38) (h 39) n w), (vX10_slowest (h 49) (h 51) (h 497) n w), (rX10_slowest_49 (h 49) (h 51) (h 497) n w) 0, fun h1 => h1 0 = (rX9_slowest_0 (h 0) (h 38) (h 39) n w) ∧ kp h h1 ∧ ∀ x, 49 ≤ x → h1 x = h x, ?_, ?_, ?_⟩
  · intro d kc ks g Q k
    exact sp_X9_slowest I.2.2.1.1 I.2.2.1.2.2.1 (k _ ⟨rfl, kp_0 (res_12 qq) rfl, fun x hx => rs_hi rfl hx⟩)
  · intro d kc ks h1 g Q hm k
    obtain ⟨m0, mk, mx⟩ := hm
    have e49 : h1 49 = h 49 := mx 49 (by omega)
    have e51 : h1 51 = h 51 := mx 51 (by omega)
    have e497 : h1 497 = h 497 := mx 497 (by omega)
    refine sp_X10_slowest (by rw [mx 53 (by omega)]; exact I.2.2.1.2.1) I.2.2.1.2.2.1 ?_
    rw [e49, e51, e497]
    refine k _ ⟨c, T, n, m, u, t, L, IV_kp I (kp_tr mk ?_) ?_⟩ rfl
    · exact kp_49 (fun i hi => by rw [mx 49 (by omega)]; exact f49 i hi) rfl
    · have y := res_c qq I.2.1.2.2.1 I.2.1.2.2.2
      have x0 := m0
      rw [← x0] at y
      exact y
  · rcases qq with ⟨q1, _, q3, _⟩ | ⟨q1, _, q3, q4⟩ | ⟨q1, _, q3, q4⟩
    · exact Or.inl ⟨q1, q3⟩
    · exact (x1_ne f51 (congrFun q4 0)).elim
    · exact Or.inr (Or.inr ⟨rfl, q1, q3⟩)
set_option maxRecDepth 4000 in
theorem du_farthest {c : Nat → Nat} {T n m u t : Nat} {L : bL_} {h : hp_} (I : IV c T n m u t L h) (w : Int32) : dual mX9_farthest mX10_farthest [(1, .int w)] false true 1 h := by
  have qq := q_farthest I w
  have f49 : ∀ i, kpF i = true → (rX10_farthest_49 (h 49) (h 51) (jj_gd h 64 8) n w) i = h 49 i := fun i hi => by
    have i0 := kpF_0 hi
    unfold rX10_farthest_49
    repeat' split
    all_goals first | rw [jj_une i0, jj_une i0] | rw [jj_une i0]
  have f51 : (rX10_farthest_51 (h 49) (h 51) (jj_gd h 64 8) n w) 0 = h 51 0 := by
    unfold rX10_farthest_51
    repeat' split
    all_goals rfl
  refine ⟨(vX9_farthest (h 0) (h 4) (h 5) n w), (vX10_farthest (h 49) (h 51) (jj_gd h 64 8) n w), (rX10_farthest_49 (h 49) (h 51) (jj_gd h 64 8) n w) 0, fun h1 => h1 0 = (rX9_farthest_0 (h 0) (h 4) (h 5) n w) ∧ kp h h1 ∧ ∀ x, 49 ≤ x → h1 x = h x, ?_, ?_, ?_⟩
  · intro d kc ks g Q k
    exact sp_X9_farthest I.2.2.1.1 I.2.2.1.2.2.1 (k _ ⟨rfl, kp_0 (res_12 qq) rfl, fun x hx => rs_hi rfl hx⟩)
  · intro d kc ks h1 g Q hm k
    obtain ⟨m0, mk, mx⟩ := hm
    have e49 : h1 49 = h 49 := mx 49 (by omega)
    have e51 : h1 51 = h 51 := mx 51 (by omega)
    have g64 : jj_gd h1 64 8 = jj_gd h 64 8 := gd_eq (fun j hj => mx _ (by omega))
    refine sp_X10_farthest (by rw [mx 53 (by omega)]; exact I.2.2.1.2.1) I.2.2.1.2.2.1 ?_
    rw [e49, e51, g64]
    refine k _ ⟨c, T, n, m, u, t, L, IV_kp I (kp_tr mk ?_) ?_⟩ rfl
    · exact kp_49 (fun i hi => by rw [mx 49 (by omega)]; exact f49 i hi) rfl
    · have y := res_c qq I.2.1.2.2.1 I.2.1.2.2.2
      have x0 := m0
      rw [← x0] at y
      exact y
  · rcases qq with ⟨q1, _, q3, _⟩ | ⟨q1, _, q3, q4⟩ | ⟨q1, _, q3, q4⟩
    · exact Or.inl ⟨q1, q3⟩
    · exact (x1_ne f51 (congrFun q4 0)).elim
    · exact Or.inr (Or.inr ⟨rfl, q1, q3⟩)
set_option maxRecDepth 4000 in
theorem du_middle {c : Nat → Nat} {T n m u t : Nat} {L : bL_} {h : hp_} (I : IV c T n m u t L h) (w : Int32) : dual mX9_middle mX10_middle [(1, .int w)] false true 1 h := by
  have qq := q_middle I w
  have f49 : ∀ i, kpF i = true → (rX10_middle_49 (h 49) (h 51) (jj_gd h 64 8) n w) i = h 49 i := fun i hi => by
    have i0 := kpF_0 hi
    unfold rX10_middle_49
    repeat' split
    all_goals first | rw [jj_une i0, jj_une i0] | rw [jj_une i0]
  have f51 : (rX10_middle_51 (h 49) (h 51) (jj_gd h 64 8) n w) 0 = h 51 0 := by
    unfold rX10_middle_51
    repeat' split
    all_goals rfl
  refine ⟨(vX9_middle (h 0) (h 4) (h 5) n w), (vX10_middle (h 49) (h 51) (jj_gd h 64 8) n w), (rX10_middle_49 (h 49) (h 51) (jj_gd h 64 8) n w) 0, fun h1 => h1 0 = (rX9_middle_0 (h 0) (h 4) (h 5) n w) ∧ kp h h1 ∧ ∀ x, 49 ≤ x → h1 x = h x, ?_, ?_, ?_⟩
  · intro d kc ks g Q k
    exact sp_X9_middle I.2.2.1.1 I.2.2.1.2.2.1 (k _ ⟨rfl, kp_0 (res_12 qq) rfl, fun x hx => rs_hi rfl hx⟩)
  · intro d kc ks h1 g Q hm k
    obtain ⟨m0, mk, mx⟩ := hm
    have e49 : h1 49 = h 49 := mx 49 (by omega)
    have e51 : h1 51 = h 51 := mx 51 (by omega)
    have g64 : jj_gd h1 64 8 = jj_gd h 64 8 := gd_eq (fun j hj => mx _ (by omega))
    refine sp_X10_middle (by rw [mx 53 (by omega)]; exact I.2.2.1.2.1) I.2.2.1.2.2.1 ?_
    rw [e49, e51, g64]
    refine k _ ⟨c, T, n, m, u, t, L, IV_kp I (kp_tr mk ?_) ?_⟩ rfl
    · exact kp_49 (fun i hi => by rw [mx 49 (by omega)]; exact f49 i hi) rfl
    · have y := res_c qq I.2.1.2.2.1 I.2.1.2.2.2
      have x0 := m0
      rw [← x0] at y
      exact y
  · rcases qq with ⟨q1, _, q3, _⟩ | ⟨q1, _, q3, q4⟩ | ⟨q1, _, q3, q4⟩
    · exact Or.inl ⟨q1, q3⟩
    · exact (x1_ne f51 (congrFun q4 0)).elim
    · exact Or.inr (Or.inr ⟨rfl, q1, q3⟩)
set_option maxRecDepth 4000 in
theorem du_soldier {c : Nat → Nat} {T n m u t : Nat} {L : bL_} {h : hp_} (I : IV c T n m u t L h) (v w q : Int32) : dual mX9_soldier mX10_soldier [(1, .int v), (2, .int w), (3, .int q)] false true 1 h := by
  have qq := q_soldier I v w q
  have f49 : ∀ i, kpF i = true → (rX10_soldier_49 (h 49) (h 51) v w q) i = h 49 i := fun i hi => by
    have i0 := kpF_0 hi
    unfold rX10_soldier_49
    repeat' split
    all_goals first | rw [jj_une i0, jj_une i0] | rw [jj_une i0]
  have f51 : (rX10_soldier_51 (h 49) (h 51) v w q) 0 = h 51 0 := by
    unfold rX10_soldier_51
    repeat' split
    all_goals rfl
  refine ⟨(vX9_soldier (h 0) v w q), (vX10_soldier (h 49) (h 51) v w q), (rX10_soldier_49 (h 49) (h 51) v w q) 0, fun h1 => h1 0 = (rX9_soldier_0 (h 0) v w q) ∧ kp h h1 ∧ ∀ x, 49 ≤ x → h1 x = h x, ?_, ?_, ?_⟩
  · intro d kc ks g Q k
    exact sp_X9_soldier  (k _ ⟨rfl, kp_0 (res_12 qq) rfl, fun x hx => rs_hi rfl hx⟩)
  · intro d kc ks h1 g Q hm k
    obtain ⟨m0, mk, mx⟩ := hm
    have e49 : h1 49 = h 49 := mx 49 (by omega)
    have e51 : h1 51 = h 51 := mx 51 (by omega)
    refine sp_X10_soldier  ?_
    rw [e49, e51]
    refine k _ ⟨c, T, n, m, u, t, L, IV_kp I (kp_tr mk ?_) ?_⟩ rfl
    · exact kp_49 (fun i hi => by rw [mx 49 (by omega)]; exact f49 i hi) rfl
    · have y := res_c qq I.2.1.2.2.1 I.2.1.2.2.2
      have x0 := m0
      rw [← x0] at y
      exact y
  · rcases qq with ⟨q1, _, q3, _⟩ | ⟨q1, _, q3, q4⟩ | ⟨q1, _, q3, q4⟩
    · exact Or.inl ⟨q1, q3⟩
    · exact (x1_ne f51 (congrFun q4 0)).elim
    · exact Or.inr (Or.inr ⟨rfl, q1, q3⟩)
set_option maxRecDepth 4000 in
theorem du_would {c : Nat → Nat} {T n m u t : Nat} {L : bL_} {h : hp_} (I : IV c T n m u t L h) (fi ha be tw fr se sl dy : Int32) : dual mX9_would mX10_would [(1, .int fi), (2, .int ha), (3, .int be), (4, .int tw), (5, .int fr), (6, .int se), (7, .int sl), (8, .int dy)] false true 1 h := by
  have qq := q_would I fi ha be tw fr se sl dy
  have f49 : ∀ i, kpF i = true → (rX10_would_49 (h 8) (h 49) (h 51) m fi ha be tw fr se sl dy) i = h 49 i := fun i hi => by
    have i0 := kpF_0 hi
    unfold rX10_would_49
    repeat' split
    all_goals first | rw [jj_une i0, jj_une i0] | rw [jj_une i0]
  have f51 : (rX10_would_51 (h 8) (h 49) (h 51) m fi ha be tw fr se sl dy) 0 = h 51 0 := by
    unfold rX10_would_51
    repeat' split
    all_goals rfl
  refine ⟨(vX9_would (h 0) (h 8) m fi ha be tw fr se sl dy), (vX10_would (h 8) (h 49) (h 51) m fi ha be tw fr se sl dy), (rX10_would_49 (h 8) (h 49) (h 51) m fi ha be tw fr se sl dy) 0, fun h1 => h1 0 = (rX9_would_0 (h 0) (h 8) m fi ha be tw fr se sl dy) ∧ kp h h1 ∧ ∀ x, 49 ≤ x → h1 x = h x, ?_, ?_, ?_⟩
  · intro d kc ks g Q k
    refine sp_X9_would I.2.2.2.1.1 I.2.2.2.1.2.2.1 (fun h9 e9 => k _ ⟨rfl, ?_, fun x hx => (rs_hi rfl hx).trans (eq_hi e9 rfl hx)⟩)
    have e0 : h9 0 = h 0 := e9 0 (by decide)
    exact kp_tr (kp_X e9 rfl) (kp_0 (by rw [e0]; exact res_12 qq) rfl)
  · intro d kc ks h1 g Q hm k
    obtain ⟨m0, mk, mx⟩ := hm
    have e8 : h1 8 = h 8 := mk.1 8 rfl
    have e49 : h1 49 = h 49 := mx 49 (by omega)
    have e51 : h1 51 = h 51 := mx 51 (by omega)
    refine sp_X10_would (by rw [mx 49 (by omega)]; exact I.2.2.2.1.2.1) I.2.2.2.1.2.2.1 (by rw [mk.1 8 rfl, gd_eq (k := h) (fun j hj => mx _ (by omega))]; exact I.2.2.2.1.2.2.2) (fun h9 e9 => ?_)
    rw [e8, e49, e51]
    refine k _ ⟨c, T, n, m, u, t, L, IV_kp I (kp_tr mk ?_) ?_⟩ rfl
    · have x49 : h9 49 = h 49 := (e9 49 (by decide)).trans (mx 49 (by omega))
      exact kp_tr (kp_X e9 rfl) (kp_49 (fun i hi => by rw [x49]; exact f49 i hi) rfl)
    · have y := res_c qq I.2.1.2.2.1 I.2.1.2.2.2
      have x0 : h9 0 = (rX9_would_0 (h 0) (h 8) m fi ha be tw fr se sl dy) := (e9 0 (by decide)).trans m0
      rw [← x0] at y
      exact y
  · rcases qq with ⟨q1, _, q3, _⟩ | ⟨q1, _, q3, q4⟩ | ⟨q1, _, q3, q4⟩
    · exact Or.inl ⟨q1, q3⟩
    · exact (x1_ne f51 (congrFun q4 0)).elim
    · exact Or.inr (Or.inr ⟨rfl, q1, q3⟩)
set_option maxRecDepth 4000 in
theorem du_kin {c : Nat → Nat} {T n m u t : Nat} {L : bL_} {h : hp_} (I : IV c T n m u t L h) (p : Int32) : dual mX9_kin mX10_kin [(1, .int p)] true false 1 h := by
  have qq := q_kin I p
  have f49 : ∀ i, kpF i = true → (rX10_kin_49 (h 49) (h 51) (h 73) n p) i = h 49 i := fun i hi => by
    have i0 := kpF_0 hi
    unfold rX10_kin_49
    repeat' split
    all_goals first | rw [jj_une i0, jj_une i0] | rw [jj_une i0]
  have f51 : (rX10_kin_51 (h 49) (h 51) (h 73) n p) 1 = h 51 1 := by
    unfold rX10_kin_51
    repeat' split
    all_goals rfl
  refine ⟨(vX9_kin (h 0) (h 1) (h 6) n p), (vX10_kin (h 49) (h 51) (h 73) n p), (rX10_kin_49 (h 49) (h 51) (h 73) n p) 0, fun h1 => h1 0 = (rX9_kin_0 (h 0) (h 1) (h 6) n p) ∧ kp h h1 ∧ ∀ x, 49 ≤ x → h1 x = h x, ?_, ?_, ?_⟩
  · intro d kc ks g Q k
    exact sp_X9_kin I.2.2.1.1 I.2.2.1.2.2.1 (k _ ⟨rfl, kp_0 (res_12 qq) rfl, fun x hx => rs_hi rfl hx⟩)
  · intro d kc ks h1 g Q hm k
    obtain ⟨m0, mk, mx⟩ := hm
    have e49 : h1 49 = h 49 := mx 49 (by omega)
    have e51 : h1 51 = h 51 := mx 51 (by omega)
    have e73 : h1 73 = h 73 := mx 73 (by omega)
    refine sp_X10_kin (by rw [mx 53 (by omega)]; exact I.2.2.1.2.1) I.2.2.1.2.2.1 (fun j hj => by rw [mx 73 (by omega)]; exact Nat.lt_of_lt_of_le (I.2.2.1.2.2.2.2.2.1 j hj) (Nat.pow_le_pow_right (n := 2) (by decide) I.2.2.1.2.2.1)) ?_
    rw [e49, e51, e73]
    refine k _ ⟨c, T, n, m, u, t, L, IV_kp I (kp_tr mk ?_) ?_⟩ rfl
    · exact kp_49 (fun i hi => by rw [mx 49 (by omega)]; exact f49 i hi) rfl
    · have y := res_c qq I.2.1.2.2.1 I.2.1.2.2.2
      have x0 := m0
      rw [← x0] at y
      exact y
  · rcases qq with ⟨q1, _, q3, _⟩ | ⟨q1, _, q3, q4⟩ | ⟨q1, _, q3, q4⟩
    · exact Or.inl ⟨q1, q3⟩
    · exact Or.inr (Or.inl ⟨rfl, q1, q3⟩)
    · exact (x1_ne f51 (congrFun q4 1)).elim
set_option maxRecDepth 4000 in
theorem du_ring {c : Nat → Nat} {T n m u t : Nat} {L : bL_} {h : hp_} (I : IV c T n m u t L h) (p w : Int32) : dual mX9_ring mX10_ring [(1, .int p), (2, .int w)] true true 2 h := by
  have qq := q_ring I p w
  have f49 : ∀ i, kpF i = true → (rX10_ring_49 (h 49) (h 51) (h 497) n p w) i = h 49 i := fun i hi => by
    have i0 := kpF_0 hi
    unfold rX10_ring_49
    repeat' split
    all_goals first | rw [jj_une i0, jj_une i0] | rw [jj_une i0]
  refine ⟨(vX9_ring (h 0) (h 1) (h 42) p w), (vX10_ring (h 49) (h 51) (h 497) n p w), (rX10_ring_49 (h 49) (h 51) (h 497) n p w) 0, fun h1 => h1 0 = (rX9_ring_0 (h 0) (h 1) (h 42) p w) ∧ kp h h1 ∧ ∀ x, 49 ≤ x → h1 x = h x, ?_, ?_, ?_⟩
  · intro d kc ks g Q k
    exact sp_X9_ring I.2.2.1.1 I.2.2.1.2.2.1 (k _ ⟨rfl, kp_0 (res_12 qq) rfl, fun x hx => rs_hi rfl hx⟩)
  · intro d kc ks h1 g Q hm k
    obtain ⟨m0, mk, mx⟩ := hm
    have e49 : h1 49 = h 49 := mx 49 (by omega)
    have e51 : h1 51 = h 51 := mx 51 (by omega)
    have e497 : h1 497 = h 497 := mx 497 (by omega)
    refine sp_X10_ring (by rw [mx 53 (by omega)]; exact I.2.2.1.2.1) I.2.2.1.2.2.1 (fun j hj => by rw [mx 497 (by omega), (I.2.2.2.2.1.1.2 j hj).2.2.2]; exact (I.2.2.2.2.1.2.2 j hj).2) ?_
    rw [e49, e51, e497]
    refine k _ ⟨c, T, n, m, u, t, L, IV_kp I (kp_tr mk ?_) ?_⟩ rfl
    · exact kp_49 (fun i hi => by rw [mx 49 (by omega)]; exact f49 i hi) rfl
    · have y := res_c qq I.2.1.2.2.1 I.2.1.2.2.2
      have x0 := m0
      rw [← x0] at y
      exact y
  · rcases qq with ⟨q1, _, q3, _⟩ | ⟨q1, _, q3, q4⟩ | ⟨q1, _, q3, q4⟩
    · exact Or.inl ⟨q1, q3⟩
    · exact Or.inr (Or.inl ⟨rfl, q1, q3⟩)
    · exact Or.inr (Or.inr ⟨rfl, q1, q3⟩)
set_option maxRecDepth 4000 in
theorem du_share {c : Nat → Nat} {T n m u t : Nat} {L : bL_} {h : hp_} (I : IV c T n m u t L h) (p v q : Int32) : dual mX9_share mX10_share [(1, .int p), (2, .int v), (3, .int q)] true true 2 h := by
  have qq := q_share I p v q
  have f49 : ∀ i, kpF i = true → (rX10_share_49 (h 49) (h 51) (h 497) n p v q) i = h 49 i := fun i hi => by
    have i0 := kpF_0 hi
    unfold rX10_share_49
    repeat' split
    all_goals first | rw [jj_une i0, jj_une i0] | rw [jj_une i0]
  refine ⟨(vX9_share (h 0) (h 1) (h 38) (h 39) n p v q), (vX10_share (h 49) (h 51) (h 497) n p v q), (rX10_share_49 (h 49) (h 51) (h 497) n p v q) 0, fun h1 => h1 0 = (rX9_share_0 (h 0) (h 1) (h 38) (h 39) n p v q) ∧ kp h h1 ∧ ∀ x, 49 ≤ x → h1 x = h x, ?_, ?_, ?_⟩
  · intro d kc ks g Q k
    exact sp_X9_share I.2.2.1.1 I.2.2.1.2.2.1 (k _ ⟨rfl, kp_0 (res_12 qq) rfl, fun x hx => rs_hi rfl hx⟩)
  · intro d kc ks h1 g Q hm k
    obtain ⟨m0, mk, mx⟩ := hm
    have e49 : h1 49 = h 49 := mx 49 (by omega)
    have e51 : h1 51 = h 51 := mx 51 (by omega)
    have e497 : h1 497 = h 497 := mx 497 (by omega)
    refine sp_X10_share (by rw [mx 53 (by omega)]; exact I.2.2.1.2.1) I.2.2.1.2.2.1 ?_
    rw [e49, e51, e497]
    refine k _ ⟨c, T, n, m, u, t, L, IV_kp I (kp_tr mk ?_) ?_⟩ rfl
    · exact kp_49 (fun i hi => by rw [mx 49 (by omega)]; exact f49 i hi) rfl
    · have y := res_c qq I.2.1.2.2.1 I.2.1.2.2.2
      have x0 := m0
      rw [← x0] at y
      exact y
  · rcases qq with ⟨q1, _, q3, _⟩ | ⟨q1, _, q3, q4⟩ | ⟨q1, _, q3, q4⟩
    · exact Or.inl ⟨q1, q3⟩
    · exact Or.inr (Or.inl ⟨rfl, q1, q3⟩)
    · exact Or.inr (Or.inr ⟨rfl, q1, q3⟩)
set_option maxRecDepth 4000 in
theorem du_round {c : Nat → Nat} {T n m u t : Nat} {L : bL_} {h : hp_} (I : IV c T n m u t L h) (p v : Int32) : dual mX9_round mX10_round [(1, .int p), (2, .int v)] true true 2 h := by
  have qq := q_round I p v
  have f49 : ∀ i, kpF i = true → (rX10_round_49 (h 49) (h 51) (jj_gd h 64 8) (jj_gd h 521 256) n p v) i = h 49 i := fun i hi => by
    have i0 := kpF_0 hi
    unfold rX10_round_49
    repeat' split
    all_goals first | rw [jj_une i0, jj_une i0] | rw [jj_une i0]
  refine ⟨(vX9_round (h 0) (h 1) (h 4) (h 5) (h 48) n p v), (vX10_round (h 49) (h 51) (jj_gd h 64 8) (jj_gd h 521 256) n p v), (rX10_round_49 (h 49) (h 51) (jj_gd h 64 8) (jj_gd h 521 256) n p v) 0, fun h1 => h1 0 = (rX9_round_0 (h 0) (h 1) (h 4) (h 5) (h 48) n p v) ∧ kp h h1 ∧ ∀ x, 49 ≤ x → h1 x = h x, ?_, ?_, ?_⟩
  · intro d kc ks g Q k
    exact sp_X9_round I.2.2.1.1 I.2.2.1.2.2.1 (k _ ⟨rfl, kp_0 (res_12 qq) rfl, fun x hx => rs_hi rfl hx⟩)
  · intro d kc ks h1 g Q hm k
    obtain ⟨m0, mk, mx⟩ := hm
    have e49 : h1 49 = h 49 := mx 49 (by omega)
    have e51 : h1 51 = h 51 := mx 51 (by omega)
    have g521 : jj_gd h1 521 256 = jj_gd h 521 256 := gd_eq (fun j hj => mx _ (by omega))
    have g64 : jj_gd h1 64 8 = jj_gd h 64 8 := gd_eq (fun j hj => mx _ (by omega))
    refine sp_X10_round (by rw [mx 53 (by omega)]; exact I.2.2.1.2.1) I.2.2.1.2.2.1 ?_
    rw [e49, e51, g521, g64]
    refine k _ ⟨c, T, n, m, u, t, L, IV_kp I (kp_tr mk ?_) ?_⟩ rfl
    · exact kp_tr (kp_gs (by omega)) (kp_49 (fun i hi => by rw [show jj_gs h1 _ _ _ 49 = h1 49 from rfl, mx 49 (by omega)]; exact f49 i hi) rfl)
    · have y := res_c qq I.2.1.2.2.1 I.2.1.2.2.2
      have x0 := m0
      rw [← x0] at y
      exact y
  · rcases qq with ⟨q1, _, q3, _⟩ | ⟨q1, _, q3, q4⟩ | ⟨q1, _, q3, q4⟩
    · exact Or.inl ⟨q1, q3⟩
    · exact Or.inr (Or.inl ⟨rfl, q1, q3⟩)
    · exact Or.inr (Or.inr ⟨rfl, q1, q3⟩)
