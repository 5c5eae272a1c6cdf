/-! ===== work of both, paired ===== -/
theorem wrkF_at {h h9 : hp_} {n m u : Nat} {W : List wE_} {v : Int32} (a : wrkF h h9 n m u W v) {x : Nat} (hx : x = 8 ∨ 49 ≤ x) : h9 x = h x := by
  obtain ⟨r21, r22, r23, r24, _, _, _, R, _, _, _, _, _, _, _, _, a18⟩ := a
  exact a18 x (by simp only [wX_, pV, Bool.or_eq_false_iff, beq_eq_false_iff_ne, Bool.and_eq_false_iff, decide_eq_false_iff_not, ne_eq]; omega)
theorem wrkE_at {h h9 : hp_} {k p : Nat} (a : wrkE h h9 k p) {x : Nat} (hx : x = 8 ∨ 49 ≤ x) : jj_rs h9 [(13, upd (h9 13) 1 0)] x = h x := by
  rw [j13_ne (by omega), a.2.2 x (by simp only [pV, Bool.or_eq_false_iff, beq_eq_false_iff_ne, ne_eq]; omega) (by omega)]
theorem du_work {c : Nat → Nat} {T n m u t : Nat} {L : bL_} {h : hp_} (I : IV c T n m u t L h) (w : Int32) : dual2 mX9_work mX10_work [(1, .int w)] false true 1 h := by
  obtain ⟨hB, hF, hT, hT9, hT6⟩ := id I.1
  obtain ⟨hP, hP5, hn, _⟩ := id I.2.2.1
  obtain ⟨hm, hm9, hm2, hlw⟩ := id I.2.2.2.1
  obtain ⟨⟨hu, hu9, hu2⟩, _⟩ := id I.2.2.2.2.2.2
  rcases n_spl (v := w) (T := T) (B := 150) (by omega) (by decide) with hb | ⟨N, rfl, hNT, hN5⟩
  · refine ⟨fun r h1 => r = .inr "java/lang/IllegalArgumentException" ∧ h1 = jj_rs h [(0, upd (h 0) 14 (h 0 14 + 1))], fun d kc ks g Q k => cf_work_bad hT hb (k _ _ ⟨rfl, rfl⟩), fun r h1 m => ?_⟩
    obtain ⟨rfl, rfl⟩ := m
    exact ⟨0, 1, Or.inr (Or.inr ⟨rfl, rfl, rfl⟩), fun d kc ks g Q k => rf_work_bad (by omega) hT9 hb (k _ (iv_bad I) rfl)⟩
  · by_cases u16 : u = 16
    · subst u16
      refine ⟨fun r h1 => r = .inl (some (.int (-20))) ∧ ∃ h9, (h9 13 8 = -1 ∧ ∀ x, ¬ x = 13 → h9 x = h x) ∧ h1 = jj_rs h9 [(13, upd (h9 13) 1 0)], fun d kc ks g Q k => cf_work_full hB hT hT6 hNT hN5 hu (by omega) (fun h9 e1 e2 => k _ _ ⟨rfl, h9, ⟨e1, e2⟩, rfl⟩), fun r h1 mm => ?_⟩
      obtain ⟨rfl, h9, ⟨a1, a2⟩, rfl⟩ := mm
      have hi : ∀ x, 49 ≤ x → jj_rs h9 [(13, upd (h9 13) 1 0)] x = h x := fun x hx => by rw [j13_ne (by omega), a2 x (by omega)]
      refine ⟨-20, 0, Or.inl ⟨rfl, rfl⟩, fun d kc ks g Q k => rf_work_full (c := c) (by rw [hi 50 (by omega)]; exact hF) (by rw [hi 49 (by omega)]; exact hT9) hT6 hNT hN5 (by rw [hi 49 (by omega)]; exact hu9) (by omega) (fun h2 b1 b2 b3 => ?_)⟩
      obtain ⟨i, z⟩ := iv_work_fu I a1 a2 b1 b2 b3
      exact k _ ⟨_, _, _, _, _, _, _, i⟩ z
    · have hu3 : u < 16 := by omega
      cases hp : pwork c N n with
      | ok W =>
        refine ⟨fun r h1 => ∃ v, r = .inl (some (.int v)) ∧ wrkF h h1 n m u W v, fun d kc ks g Q k => cf_work hB hT hT6 hNT hN5 hP hn hm hm2 hu hu3 (by omega) (fun W2 h9 v e a => by rw [hp] at e; cases e; exact k _ _ ⟨v, rfl, a⟩) (fun e1 p h9 e => by rw [hp] at e; cases e), fun r h1 mm => ?_⟩
        obtain ⟨v, rfl, a⟩ := mm
        have g75 : jj_gd h1 75 160 = jj_gd h 75 160 := gd_eq (fun j hj => wrkF_at a (Or.inr (by omega)))
        refine ⟨v, 0, Or.inl ⟨rfl, rfl⟩, fun d kc ks g Q k => rf_work (c := c) (n := n) (m_ := m) (u := u) (by rw [wrkF_at a (by omega)]; exact hF) (by rw [wrkF_at a (by omega)]; exact hT9) hT6 hNT hN5 (by rw [wrkF_at a (by omega)]; exact hP5) hn (by rw [wrkF_at a (by omega)]; exact hm9) hm2 (by rw [wrkF_at a (by omega), g75]; exact hlw) (by rw [wrkF_at a (by omega)]; exact hu9) hu3 (by omega) (fun W2 h2 v2 e b => ?_) (fun e1 p h2 e => by rw [hp] at e; cases e)⟩
        rw [hp] at e; cases e
        obtain ⟨e, i, z⟩ := iv_work_ok I hu3 hp a b
        rw [← e]
        exact k _ ⟨_, _, _, _, _, _, _, i⟩ z
      | error z =>
        obtain ⟨e1, p⟩ := z
        refine ⟨fun r h1 => r = .inl (some (.int (nI e1 - 10))) ∧ ∃ h9, wrkE h h9 e1 p ∧ h1 = jj_rs h9 [(13, upd (h9 13) 1 0)], fun d kc ks g Q k => cf_work hB hT hT6 hNT hN5 hP hn hm hm2 hu hu3 (by omega) (fun W2 h9 v e a => by rw [hp] at e; cases e) (fun e2 p2 h9 e a => by rw [hp] at e; cases e; exact k _ _ ⟨rfl, h9, a, rfl⟩), fun r h1 mm => ?_⟩
        obtain ⟨rfl, h9, a, rfl⟩ := mm
        have g75 : jj_gd (jj_rs h9 [(13, upd (h9 13) 1 0)]) 75 160 = jj_gd h 75 160 := gd_eq (fun j hj => wrkE_at a (Or.inr (by omega)))
        refine ⟨nI e1 - 10, 0, Or.inl ⟨rfl, rfl⟩, fun d kc ks g Q k => rf_work (c := c) (n := n) (m_ := m) (u := u) (by rw [wrkE_at a (by omega)]; exact hF) (by rw [wrkE_at a (by omega)]; exact hT9) hT6 hNT hN5 (by rw [wrkE_at a (by omega)]; exact hP5) hn (by rw [wrkE_at a (by omega)]; exact hm9) hm2 (by rw [wrkE_at a (by omega), g75]; exact hlw) (by rw [wrkE_at a (by omega)]; exact hu9) hu3 (by omega) (fun W2 h2 v2 e b => by rw [hp] at e; cases e) (fun e2 p2 h2 e b => ?_)⟩
        rw [hp] at e; cases e
        obtain ⟨i, z⟩ := iv_work_er I a b
        exact k _ ⟨_, _, _, _, _, _, _, i⟩ z
