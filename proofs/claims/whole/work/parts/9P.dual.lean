/-! ===== the texts of both, paired ===== -/
def lnk (bn bi : Bool) (e : Int32) (r : jj_Rs) (v th : Int32) : Prop := (r = .inl (some (.int v)) ∧ th = 0) ∨ (bn = true ∧ r = .inr "java/util/NoSuchElementException" ∧ th = 1) ∨ (bi = true ∧ r = .inr "java/lang/IllegalArgumentException" ∧ th = e)
/-- as dual, where the answer is known only when the class has run -/
def dual2 (MC MR : jj_Mt) (A : List (Nat × Value)) (bn bi : Bool) (e : Int32) (h : hp_) : Prop := ∃ (mid : jj_Rs → hp_ → Prop), (∀ d kc ks (g : Nat → Nat → Int64) (Q : jj_Rs → jj_St → Prop), (∀ r h1, mid r h1 → Q r (jj_S, 782, h1, g)) → jj_R MC (d + 40) (kc + 4) (ks + 24) (jj_S, 782, h, g) 0 ((0, .ref 0) :: A) [] Q) ∧ (∀ r h1, mid r h1 → ∃ v th, lnk bn bi e r v th ∧ ∀ d kc ks (g : Nat → Nat → Int64) (Q : jj_Rs → jj_St → Prop), (∀ h2, IVx h2 → h2 49 0 = th → Q (.inl (some (.int v))) (jj_S, 782, h2, g)) → jj_R MR (d + 64) kc ks (jj_S, 782, h1, g) 0 ((0, .ref 49) :: A) [] Q)
theorem dual_2 {MC MR : jj_Mt} {A : List (Nat × Value)} {bn bi : Bool} {e : Int32} {h : hp_} (D : dual MC MR A bn bi e h) : dual2 MC MR A bn bi e h := by
  obtain ⟨r, v, th, mid, k1, k2, k3⟩ := D
  exact ⟨fun r2 h1 => r2 = r ∧ mid h1, fun d kc ks g Q k => k1 d kc ks g Q (fun h1 m => k r h1 ⟨rfl, m⟩), fun r2 h1 m => ⟨v, th, by rw [m.1]; exact k3, fun d kc ks g Q k => k2 d kc ks h1 g Q m.2 k⟩⟩
theorem iv_bad {c : Nat → Nat} {T n m u t : Nat} {L : bL_} {h : hp_} (I : IV c T n m u t L h) : IVx (jj_rs (jj_rs h [(0, upd (h 0) 14 (h 0 14 + 1))]) [(49, upd (upd (h 49) 0 0) 0 1), (51, upd (h 51) 1 (h 51 1 + 1))]) := by
  refine ⟨c, T, n, m, u, t, L, IV_kp I (kp_tr (kp_0 (r := upd (h 0) 14 (h 0 14 + 1)) (L := []) rfl rfl) (kp_49 (fun i hi => ?_) rfl)) ⟨I.2.1.2.2.1, ?_⟩⟩
  · rw [jj_une (kpF_0 hi), jj_une (kpF_0 hi)]; rfl
  · show upd (h 51) 1 (h 51 1 + 1) 1 = upd (h 0) 14 (h 0 14 + 1) 14
    rw [jj_ueq rfl, jj_ueq rfl, I.2.1.2.2.2]
theorem n_spl {v : Int32} {T B : Nat} (hT : T < 2 ^ 31) (hB : B < 2 ^ 31) : (v < 0 ∨ nI T < v ∨ nI B < v) ∨ ∃ N, v = nI N ∧ N ≤ T ∧ N ≤ B := by
  by_cases c : v < 0
  · exact Or.inl (Or.inl c)
  · obtain ⟨N, hN, rfl⟩ := nI_of c
    rcases Nat.lt_or_ge T N with q | q
    · exact Or.inl (Or.inr (Or.inl (nI_lt q hN)))
    · rcases Nat.lt_or_ge B N with q2 | q2
      · exact Or.inl (Or.inr (Or.inr (nI_lt q2 hN)))
      · exact Or.inr ⟨N, rfl, q, q2⟩
theorem lawT_hi {h h9 : hp_} {W : List (Nat × Nat)} (a : lawT h h9 W) {x : Nat} (hx : 49 ≤ x) : jj_rs h9 [(13, upd (h9 13) 1 0)] x = h x := by
  rw [j13_ne (by omega), a.2.2.2.2.2 x (by omega) (by omega) (by omega) (by omega)]
theorem lawE_hi {h h9 : hp_} {k p : Nat} (a : lawE h h9 k p) {x : Nat} (hx : 49 ≤ x) : jj_rs h9 [(13, upd (h9 13) 1 0)] x = h x := by
  rw [j13_ne (by omega), a.2.2.2 x (by omega) (by omega) (by omega)]
theorem du_law {c : Nat → Nat} {T n m u t : Nat} {L : bL_} {h : hp_} (I : IV c T n m u t L h) (w : Int32) : dual2 mX9_law mX10_law [(1, .int w)] false true 1 h := by
  obtain ⟨hB, hF, hT, hT9, hT6⟩ := id I.1
  rcases n_spl (v := w) (T := T) (B := 150) (by omega) (by decide) with hb | ⟨N, rfl, hNT, hN5⟩
  · refine ⟨fun r h1 => r = .inr "java/lang/IllegalArgumentException" ∧ h1 = jj_rs h [(0, upd (h 0) 14 (h 0 14 + 1))], fun d kc ks g Q k => cf_law_bad hT hb (k _ _ ⟨rfl, rfl⟩), fun r h1 m => ?_⟩
    obtain ⟨rfl, rfl⟩ := m
    exact ⟨0, 1, Or.inr (Or.inr ⟨rfl, rfl, rfl⟩), fun d kc ks g Q k => rf_law_bad (by omega) hT9 hb (k _ (iv_bad I) rfl)⟩
  · cases hp : plaw c N with
    | ok W =>
      refine ⟨fun r h1 => r = .inl (some (.int 1)) ∧ ∃ h9, lawT h h9 W ∧ h1 = jj_rs h9 [(13, upd (h9 13) 1 0)], fun d kc ks g Q k => cf_law hB hT hT6 hNT hN5 (by omega) (fun W2 h9 e a => by rw [hp] at e; cases e; exact k _ _ ⟨rfl, h9, a, rfl⟩) (fun e1 p h9 e => by rw [hp] at e; cases e), fun r h1 mm => ?_⟩
      obtain ⟨rfl, h9, a, rfl⟩ := mm
      refine ⟨1, 0, Or.inl ⟨rfl, rfl⟩, fun d kc ks g Q k => rf_law (c := c) (by rw [lawT_hi a (by omega)]; exact hF) (by rw [lawT_hi a (by omega)]; exact hT9) hT6 hNT hN5 (by omega) (fun W2 h2 e b => ?_) (fun e1 p h2 e => by rw [hp] at e; cases e)⟩
      rw [hp] at e; cases e
      obtain ⟨i, z⟩ := iv_law_ok I hp a b
      exact k _ ⟨_, _, _, _, _, _, _, i⟩ z
    | error z =>
      obtain ⟨e1, p⟩ := z
      refine ⟨fun r h1 => r = .inl (some (.int (nI e1 - 10))) ∧ ∃ h9, lawE h h9 e1 p ∧ h1 = jj_rs h9 [(13, upd (h9 13) 1 0)], fun d kc ks g Q k => cf_law hB hT hT6 hNT hN5 (by omega) (fun W2 h9 e a => by rw [hp] at e; cases e) (fun e2 p2 h9 e a => by rw [hp] at e; cases e; exact k _ _ ⟨rfl, h9, a, rfl⟩), fun r h1 mm => ?_⟩
      obtain ⟨rfl, h9, a, rfl⟩ := mm
      refine ⟨nI e1 - 10, 0, Or.inl ⟨rfl, rfl⟩, fun d kc ks g Q k => rf_law (c := c) (by rw [lawE_hi a (by omega)]; exact hF) (by rw [lawE_hi a (by omega)]; exact hT9) hT6 hNT hN5 (by omega) (fun W2 h2 e b => by rw [hp] at e; cases e) (fun e2 p2 h2 e b => ?_)⟩
      rw [hp] at e; cases e
      obtain ⟨i, z⟩ := iv_law_er I a b
      exact k _ ⟨_, _, _, _, _, _, _, i⟩ z
theorem bokT_hi {h h9 : hp_} {W : bL_} {n : Nat} (a : bokT h h9 W n) {x : Nat} (hx : 49 ≤ x) : jj_rs h9 [(13, upd (h9 13) 1 0)] x = h x := by
  rw [j13_ne (by omega), a.2.2.2.2.2 x (by simp only [pB, Bool.or_eq_false_iff, beq_eq_false_iff_ne, ne_eq]; omega) (by omega) (by omega)]
theorem bokE_hi {h h9 : hp_} {k p : Nat} (a : bokE h h9 k p) {x : Nat} (hx : 49 ≤ x) : jj_rs h9 [(13, upd (h9 13) 1 0)] x = h x := by
  rw [j13_ne (by omega), a.2.2.2 x (by simp only [pB, Bool.or_eq_false_iff, beq_eq_false_iff_ne, ne_eq]; omega) (by omega)]
theorem du_book {c : Nat → Nat} {T n m u t : Nat} {L : bL_} {h : hp_} (I : IV c T n m u t L h) (w : Int32) : dual2 mX9_book mX10_book [(1, .int w)] false true 1 h := by
  obtain ⟨hB, hF, hT, hT9, hT6⟩ := id I.1
  obtain ⟨hP, hP5, hn, _⟩ := id I.2.2.1
  rcases n_spl (v := w) (T := T) (B := 60) (by omega) (by decide) with hb | ⟨N, rfl, hNT, hN5⟩
  · refine ⟨fun r h1 => r = .inr "java/lang/IllegalArgumentException" ∧ h1 = jj_rs h [(0, upd (h 0) 14 (h 0 14 + 1))], fun d kc ks g Q k => cf_book_bad hT hb (k _ _ ⟨rfl, rfl⟩), fun r h1 m => ?_⟩
    obtain ⟨rfl, rfl⟩ := m
    exact ⟨0, 1, Or.inr (Or.inr ⟨rfl, rfl, rfl⟩), fun d kc ks g Q k => rf_book_bad (by omega) hT9 hb (k _ (iv_bad I) rfl)⟩
  · cases hp : pbook c N n with
    | ok W =>
      refine ⟨fun r h1 => r = .inl (some (.int (nI W.length))) ∧ ∃ h9, bokT h h9 W n ∧ h1 = jj_rs h9 [(13, upd (h9 13) 1 0)], fun d kc ks g Q k => cf_book hB hT hT6 hNT hN5 hP hn (by omega) (fun W2 h9 e a => by rw [hp] at e; cases e; exact k _ _ ⟨rfl, h9, a, rfl⟩) (fun e1 p h9 e => by rw [hp] at e; cases e), fun r h1 mm => ?_⟩
      obtain ⟨rfl, h9, a, rfl⟩ := mm
      refine ⟨nI W.length, 0, Or.inl ⟨rfl, rfl⟩, fun d kc ks g Q k => rf_book (c := c) (n := n) (by rw [bokT_hi a (by omega)]; exact hF) (by rw [bokT_hi a (by omega)]; exact hT9) hT6 hNT hN5 (by rw [bokT_hi a (by omega)]; exact hP5) hn (by omega) (fun W2 h2 e b => ?_) (fun e1 p h2 e => by rw [hp] at e; cases e)⟩
      rw [hp] at e; cases e
      obtain ⟨i, z⟩ := iv_book_ok I a b
      exact k _ ⟨_, _, _, _, _, _, _, i⟩ z
    | error z =>
      obtain ⟨e1, p⟩ := z
      refine ⟨fun r h1 => r = .inl (some (.int (nI e1 - 10))) ∧ ∃ h9, bokE h h9 e1 p ∧ h1 = jj_rs h9 [(13, upd (h9 13) 1 0)], fun d kc ks g Q k => cf_book hB hT hT6 hNT hN5 hP hn (by omega) (fun W2 h9 e a => by rw [hp] at e; cases e) (fun e2 p2 h9 e a => by rw [hp] at e; cases e; exact k _ _ ⟨rfl, h9, a, rfl⟩), fun r h1 mm => ?_⟩
      obtain ⟨rfl, h9, a, rfl⟩ := mm
      refine ⟨nI e1 - 10, 0, Or.inl ⟨rfl, rfl⟩, fun d kc ks g Q k => rf_book (c := c) (n := n) (by rw [bokE_hi a (by omega)]; exact hF) (by rw [bokE_hi a (by omega)]; exact hT9) hT6 hNT hN5 (by rw [bokE_hi a (by omega)]; exact hP5) hn (by omega) (fun W2 h2 e b => by rw [hp] at e; cases e) (fun e2 p2 h2 e b => ?_)⟩
      rw [hp] at e; cases e
      obtain ⟨i, z⟩ := iv_book_er I a b
      exact k _ ⟨_, _, _, _, _, _, _, i⟩ z
theorem strF_hi {h h9 : hp_} {S : sT_} (a : strF h h9 S) {x : Nat} (hx : 49 ≤ x) : h9 x = h x := by
  obtain ⟨_, _, _, _, _, _, _, _, _, _, _, _, _, _, a20⟩ := a
  exact a20 x (by simp only [sX_, pX, Bool.or_eq_false_iff, beq_eq_false_iff_ne, Bool.and_eq_false_iff, decide_eq_false_iff_not, ne_eq]; omega)
theorem strE_hi {h h9 : hp_} {k p : Nat} (a : strE h h9 k p) {x : Nat} (hx : 49 ≤ x) : jj_rs h9 [(13, upd (h9 13) 1 0)] x = h x := by
  rw [j13_ne (by omega), a.2.2 x (by simp only [pX, Bool.and_eq_false_iff, decide_eq_false_iff_not]; omega) (by omega)]
theorem du_street {c : Nat → Nat} {T n m u t : Nat} {L : bL_} {h : hp_} (I : IV c T n m u t L h) (w : Int32) : dual2 mX9_street mX10_street [(1, .int w)] false true 1 h := by
  obtain ⟨hB, hF, hT, hT9, hT6⟩ := id I.1
  have spl : (w < 0 ∨ nI T < w) ∨ ∃ N, w = nI N ∧ N ≤ T := by
    rcases n_spl (v := w) (T := T) (B := T) (by omega) (by omega) with (q | q | q) | ⟨N, q1, q2, _⟩
    · exact Or.inl (Or.inl q)
    · exact Or.inl (Or.inr q)
    · exact Or.inl (Or.inr q)
    · exact Or.inr ⟨N, q1, q2⟩
  rcases spl with hb | ⟨N, rfl, hNT⟩
  · refine ⟨fun r h1 => r = .inr "java/lang/IllegalArgumentException" ∧ h1 = jj_rs h [(0, upd (h 0) 14 (h 0 14 + 1))], fun d kc ks g Q k => cf_street_bad hT hb (k _ _ ⟨rfl, rfl⟩), fun r h1 m => ?_⟩
    obtain ⟨rfl, rfl⟩ := m
    exact ⟨0, 1, Or.inr (Or.inr ⟨rfl, rfl, rfl⟩), fun d kc ks g Q k => rf_street_bad (by omega) hT9 hb (k _ (iv_bad I) rfl)⟩
  · cases hp : pstreet c N with
    | ok W =>
      refine ⟨fun r h1 => r = .inl (some (.int (nI W.1.length))) ∧ strF h h1 W, fun d kc ks g Q k => cf_street hB hT hT6 hNT (by omega) (fun W2 h9 e a => by rw [hp] at e; cases e; exact k _ _ ⟨rfl, a⟩) (fun e1 p h9 e => by rw [hp] at e; cases e), fun r h1 mm => ?_⟩
      obtain ⟨rfl, a⟩ := mm
      refine ⟨nI W.1.length, 0, Or.inl ⟨rfl, rfl⟩, fun d kc ks g Q k => rf_street (c := c) (by rw [strF_hi a (by omega)]; exact hF) (by rw [strF_hi a (by omega)]; exact hT9) hT6 hNT (by omega) (fun W2 h2 e b => ?_) (fun e1 p h2 e => by rw [hp] at e; cases e)⟩
      rw [hp] at e; cases e
      obtain ⟨i, z⟩ := iv_street_ok I hp a b
      exact k _ ⟨_, _, _, _, _, _, _, i⟩ z
    | error z =>
      obtain ⟨e1, p⟩ := z
      refine ⟨fun r h1 => r = .inl (some (.int (nI e1 - 10))) ∧ ∃ h9, strE h h9 e1 p ∧ h1 = jj_rs h9 [(13, upd (h9 13) 1 0)], fun d kc ks g Q k => cf_street hB hT hT6 hNT (by omega) (fun W2 h9 e a => by rw [hp] at e; cases e) (fun e2 p2 h9 e a => by rw [hp] at e; cases e; exact k _ _ ⟨rfl, h9, a, rfl⟩), fun r h1 mm => ?_⟩
      obtain ⟨rfl, h9, a, rfl⟩ := mm
      refine ⟨nI e1 - 10, 0, Or.inl ⟨rfl, rfl⟩, fun d kc ks g Q k => rf_street (c := c) (by rw [strE_hi a (by omega)]; exact hF) (by rw [strE_hi a (by omega)]; exact hT9) hT6 hNT (by omega) (fun W2 h2 e b => by rw [hp] at e; cases e) (fun e2 p2 h2 e b => ?_)⟩
      rw [hp] at e; cases e
      obtain ⟨i, z⟩ := iv_street_er I a b
      exact k _ ⟨_, _, _, _, _, _, _, i⟩ z
