/-! ===== fits look week span kneel kneels, paired ===== -/
theorem kpF_n {i j : Nat} (h : kpF i = true) (hj : kpF j = false) : ¬ i = j := fun q => by rw [q, hj] at h; cases h
theorem drw_f {r : Nat → Int32} {k i : Nat} (hi : ¬ i = 45) : rX10_draw_49 r k i = r i := by
  unfold rX10_draw_49
  rw [jj_une hi]
theorem wk2_f {r8 r73 : Nat → Int32} {g64 : Nat → Nat → Int32} {n m k : Nat} {v : Int32} {b : (Nat → Int32) × (Nat → Int32)} : (fX10_weekBy_2 r8 r73 g64 n m v k b).1 = rX10_draw_49 (rX10_draw_49 (rX10_draw_49 b.1 n) n) 16 := by
  unfold fX10_weekBy_2
  by_cases c0 : v ≤ vX10_draw (rX10_draw_49 (rX10_draw_49 b.1 n) n) 16
  · rw [if_pos c0]
  · rw [if_neg c0]
theorem wk1_f {r8 r73 : Nat → Int32} {g64 : Nat → Nat → Int32} {n m k : Nat} {v : Int32} {a : (Nat → Int32) × (Nat → Int32)} : (fX10_weekBy_1 r8 r73 g64 n m v k a).1 = (jj_fo (fX10_weekBy_2 r8 r73 g64 n m v) n (a.1, a.2)).1 := by
  unfold fX10_weekBy_1
  generalize jj_fo (fX10_weekBy_2 r8 r73 g64 n m v) n (a.1, a.2) = z
  exact rfl
theorem wkb_f {r8 r49 r73 r497 r498 : Nat → Int32} {g64 : Nat → Nat → Int32} {n m q : Nat} {s v : Int32} {i : Nat} (hi : ¬ i = 45) : rX10_weekBy_49 r8 r49 r73 r497 r498 g64 n m s q v i = r49 i := by
  unfold rX10_weekBy_49
  have h2 : ∀ a : (Nat → Int32) × (Nat → Int32), a.1 i = r49 i → (jj_fo (fX10_weekBy_2 r8 r73 g64 n m v) n a).1 i = r49 i := fun a ih => by
    have := fo_inv (P := fun _ (b : (Nat → Int32) × (Nat → Int32)) => b.1 i = r49 i) (f := fX10_weekBy_2 r8 r73 g64 n m v) n a ih (fun k2 b _ ih2 => by
      show (fX10_weekBy_2 r8 r73 g64 n m v k2 b).1 i = r49 i
      rw [wk2_f, drw_f hi, drw_f hi, drw_f hi]; exact ih2)
    exact this
  have h1 := fo_inv (P := fun _ (a : (Nat → Int32) × (Nat → Int32)) => a.1 i = r49 i) (f := fX10_weekBy_1 r8 r73 g64 n m v) q ((upd r49 45 s), (rX10_copies_nt_498 r497 r498)) (jj_une hi) (fun k a _ ih => by
    show (fX10_weekBy_1 r8 r73 g64 n m v k a).1 i = r49 i
    rw [wk1_f]
    exact h2 (a.1, a.2) ih)
  exact h1
theorem spn_f {r8 r49 r73 r497 r498 : Nat → Int32} {g64 : Nat → Nat → Int32} {n m Y : Nat} {s q v p : Int32} {i : Nat} (hi : ¬ i = 45) : (jj_fo (fX10_span_1 r8 r73 r497 g64 n m s q v p) Y ((-1), 0, 0, r49, r498)).2.2.2.1 i = r49 i := by
  refine fo_inv (P := fun _ (a : Int32 × Int32 × Int32 × (Nat → Int32) × (Nat → Int32)) => a.2.2.2.1 i = r49 i) (f := fX10_span_1 r8 r73 r497 g64 n m s q v p) Y _ rfl (fun k a _ ih => ?_)
  unfold fX10_span_1
  repeat' split
  all_goals exact (wkb_f hi).trans ih
theorem iv_hlw {c : Nat → Nat} {T n m u t : Nat} {L : bL_} {h : hp_} (I : IV c T n m u t L h) : ∀ k, k < L.length → vp_in (jj_gd h 397 8 k 0) 8 := fun k hk => by
  have hb := I.2.2.2.2.2.1
  have h8 := bok_8 hb.2.2.1
  obtain ⟨z, hz⟩ : ∃ z, L[k]? = some z := ⟨_, List.getElem?_eq_getElem hk⟩
  have hz1 := (hb.2.2.1.1 z.1 z.2 (hb.2.2.1.2.2 k z hz)).1
  rw [← jj_gd_at (by omega), (hb.2.2.2.2 k z hz).1]
  have := I.2.2.1.2.2.1
  exact vp_in_nI (by omega) (by decide)
theorem iv_day {c : Nat → Nat} {T n m u t : Nat} {L : bL_} {h : hp_} (I : IV c T n m u t L h) : dayok (h 497) := by
  obtain ⟨⟨⟨h1, _, _⟩, h4⟩, ⟨D, h5, h6, h7⟩, _⟩ := I.2.2.2.2.1
  refine ⟨fun j hj => ?_, ?_⟩
  · obtain ⟨E, e1, e2⟩ := h7 j hj
    rw [(h4 j hj).1, e1]
    exact vp_in_nI (by omega) (by decide)
  · rw [h1, h5]
    exact vp_in_nI (by omega) (by decide)
set_option maxRecDepth 4000 in
theorem du_fits {c : Nat → Nat} {T n m u t : Nat} {L : bL_} {h : hp_} (I : IV c T n m u t L h) (w : Int32) : dual mX9_fits mX10_fits [(1, .int w)] false true 1 h := by
  obtain ⟨qq, q25⟩ := q_fits I w
  have f49 : ∀ i, kpF i = true → (rX10_fits_49 (h 8) (h 49) (h 51) (h 73) (h 497) (h 498) (jj_gd h 64 8) (jj_gd h 397 8) n m L.length w) i = h 49 i := fun i hi => by
    have i0 := kpF_0 hi
    unfold rX10_fits_49
    repeat' split
    all_goals first | rw [jj_une i0, jj_une i0] | rw [jj_une i0]
  have f51 : (rX10_fits_51 (h 8) (h 49) (h 51) (h 73) (h 497) (h 498) (jj_gd h 64 8) (jj_gd h 397 8) n m L.length w) 0 = h 51 0 := by
    unfold rX10_fits_51
    repeat' split
    all_goals rfl
  refine ⟨(vX9_fits (h 0) (h 2) (h 3) (h 6) (h 8) (h 25) (h 26) (h 28) (h 29) (h 38) (h 39) (h 40) (h 41) n m w), (vX10_fits (h 8) (h 49) (h 51) (h 73) (h 497) (h 498) (jj_gd h 64 8) (jj_gd h 397 8) n m L.length w), (rX10_fits_49 (h 8) (h 49) (h 51) (h 73) (h 497) (h 498) (jj_gd h 64 8) (jj_gd h 397 8) n m L.length w) 0, fun h1 => h1 0 = (rX9_fits_0 (h 0) (h 2) (h 3) (h 6) (h 8) (h 25) (h 26) (h 28) (h 29) (h 38) (h 39) (h 40) (h 41) n m w) ∧ kp h h1 ∧ ∀ x, 49 ≤ x → h1 x = h x, ?_, ?_, ?_⟩
  · intro d kc ks g Q k
    refine sp_X9_fits I.2.2.1.1 I.2.2.1.2.2.1 I.2.2.2.1.1 I.2.2.2.1.2.2.1 (fun h9 e9 => k _ ⟨rfl, ?_, fun x hx => (rs_hi rfl hx).trans (eq_hi e9 rfl hx)⟩)
    have e0 : h9 0 = h 0 := e9 0 (by decide)
    have e25 : h9 25 = h 25 := e9 25 (by decide)
    exact kp_tr (kp_X e9 rfl) (kp_0b (by rw [e0]; exact res_12 qq) (by rw [e25]; exact q25) rfl)
  · intro d kc ks h1 g Q hm k
    obtain ⟨m0, mk, mx⟩ := hm
    have e8 : h1 8 = h 8 := mk.1 8 rfl
    have e49 : h1 49 = h 49 := mx 49 (by omega)
    have e51 : h1 51 = h 51 := mx 51 (by omega)
    have e73 : h1 73 = h 73 := mx 73 (by omega)
    have e497 : h1 497 = h 497 := mx 497 (by omega)
    have e498 : h1 498 = h 498 := mx 498 (by omega)
    have g397 : jj_gd h1 397 8 = jj_gd h 397 8 := gd_eq (fun j hj => mx _ (by omega))
    have g64 : jj_gd h1 64 8 = jj_gd h 64 8 := gd_eq (fun j hj => mx _ (by omega))
    refine sp_X10_fits (by rw [mx 53 (by omega)]; exact I.2.2.1.2.1) I.2.2.1.2.2.1 (by rw [mx 49 (by omega)]; exact I.2.2.2.1.2.1) I.2.2.2.1.2.2.1 (by rw [mk.1 8 rfl, gd_eq (k := h) (fun j hj => mx _ (by omega))]; exact I.2.2.2.1.2.2.2) (by rw [mx 49 (by omega)]; exact I.2.2.2.2.2.1.2.1) (bok_8 I.2.2.2.2.2.1.2.2.1) (fun k hk => by rw [gd_eq (k := h) (fun j hj => mx _ (by omega))]; exact iv_hlw I k hk) (fun h9 e9 => ?_)
    rw [e8, e49, e51, e73, e497, e498, g397, g64]
    refine k _ ⟨c, T, n, m, u, t, L, IV_kp I (kp_tr mk ?_) ?_⟩ rfl
    · have x49 : h9 49 = h 49 := (e9 49 (by decide)).trans (mx 49 (by omega))
      exact kp_tr (kp_X e9 rfl) (kp_49 (fun i hi => by rw [x49]; exact f49 i hi) rfl)
    · have yy := res_c qq I.2.1.2.2.1 I.2.1.2.2.2
      have x0 : h9 0 = (rX9_fits_0 (h 0) (h 2) (h 3) (h 6) (h 8) (h 25) (h 26) (h 28) (h 29) (h 38) (h 39) (h 40) (h 41) n m w) := (e9 0 (by decide)).trans m0
      rw [← x0] at yy
      exact yy
  · rcases qq with ⟨q1, _, q3, _⟩ | ⟨q1, _, q3, q4⟩ | ⟨q1, _, q3, q4⟩
    · exact Or.inl ⟨q1, q3⟩
    · exact (x1_ne f51 (congrFun q4 0)).elim
    · exact Or.inr (Or.inr ⟨rfl, q1, q3⟩)
set_option maxRecDepth 4000 in
theorem du_look {c : Nat → Nat} {T n m u t : Nat} {L : bL_} {h : hp_} (I : IV c T n m u t L h) (w : Int32) : dual mX9_look mX10_look [(1, .int w)] false true 1 h := by
  obtain ⟨qq, q25⟩ := q_look I w
  have f49 : ∀ i, kpF i = true → (rX10_look_49 (h 8) (h 49) (h 51) (h 73) (h 497) (h 498) (h 779) (jj_gd h 64 8) (jj_gd h 397 8) n m L.length w) i = h 49 i := fun i hi => by
    have i0 := kpF_0 hi
    unfold rX10_look_49
    repeat' split
    all_goals first | rw [jj_une i0, jj_une i0] | rw [jj_une i0]
  have f51 : (rX10_look_51 (h 8) (h 49) (h 51) (h 73) (h 497) (h 498) (h 779) (jj_gd h 64 8) (jj_gd h 397 8) n m L.length w) 0 = h 51 0 := by
    unfold rX10_look_51
    repeat' split
    all_goals rfl
  refine ⟨(vX9_look (h 0) (h 2) (h 3) (h 6) (h 8) (h 25) (h 26) (h 28) (h 29) (h 38) (h 39) (h 40) (h 41) n m w), (vX10_look (h 8) (h 49) (h 51) (h 73) (h 497) (h 498) (h 779) (jj_gd h 64 8) (jj_gd h 397 8) n m L.length w), (rX10_look_49 (h 8) (h 49) (h 51) (h 73) (h 497) (h 498) (h 779) (jj_gd h 64 8) (jj_gd h 397 8) n m L.length w) 0, fun h1 => h1 0 = (rX9_look_0 (h 0) (h 2) (h 3) (h 6) (h 8) (h 25) (h 26) (h 28) (h 29) (h 38) (h 39) (h 40) (h 41) n m w) ∧ kp h h1 ∧ ∀ x, 49 ≤ x → h1 x = h x, ?_, ?_, ?_⟩
  · intro d kc ks g Q k
    refine sp_X9_look I.2.2.1.1 I.2.2.1.2.2.1 I.2.2.2.1.1 I.2.2.2.1.2.2.1 (fun h9 e9 => k _ ⟨rfl, ?_, fun x hx => (rs_hi rfl hx).trans (eq_hi e9 rfl hx)⟩)
    have e0 : h9 0 = h 0 := e9 0 (by decide)
    have e25 : h9 25 = h 25 := e9 25 (by decide)
    exact kp_tr (kp_X e9 rfl) (kp_0b (by rw [e0]; exact res_12 qq) (by rw [e25]; exact q25) rfl)
  · intro d kc ks h1 g Q hm k
    obtain ⟨m0, mk, mx⟩ := hm
    have e8 : h1 8 = h 8 := mk.1 8 rfl
    have e49 : h1 49 = h 49 := mx 49 (by omega)
    have e51 : h1 51 = h 51 := mx 51 (by omega)
    have e73 : h1 73 = h 73 := mx 73 (by omega)
    have e497 : h1 497 = h 497 := mx 497 (by omega)
    have e498 : h1 498 = h 498 := mx 498 (by omega)
    have e779 : h1 779 = h 779 := mx 779 (by omega)
    have g397 : jj_gd h1 397 8 = jj_gd h 397 8 := gd_eq (fun j hj => mx _ (by omega))
    have g64 : jj_gd h1 64 8 = jj_gd h 64 8 := gd_eq (fun j hj => mx _ (by omega))
    refine sp_X10_look (by rw [mx 53 (by omega)]; exact I.2.2.1.2.1) I.2.2.1.2.2.1 (by rw [mx 49 (by omega)]; exact I.2.2.2.1.2.1) I.2.2.2.1.2.2.1 (by rw [mk.1 8 rfl, gd_eq (k := h) (fun j hj => mx _ (by omega))]; exact I.2.2.2.1.2.2.2) (by rw [mx 49 (by omega)]; exact I.2.2.2.2.2.1.2.1) (bok_8 I.2.2.2.2.2.1.2.2.1) (fun k hk => by rw [gd_eq (k := h) (fun j hj => mx _ (by omega))]; exact iv_hlw I k hk) (by rw [mx 497 (by omega)]; exact iv_day I) (fun h9 e9 => ?_)
    rw [e8, e49, e51, e73, e497, e498, e779, g397, g64]
    refine k _ ⟨c, T, n, m, u, t, L, IV_kp I (kp_tr mk ?_) ?_⟩ rfl
    · have x49 : h9 49 = h 49 := (e9 49 (by decide)).trans (mx 49 (by omega))
      exact kp_tr (kp_X e9 rfl) (kp_49 (fun i hi => by rw [x49]; exact f49 i hi) rfl)
    · have yy := res_c qq I.2.1.2.2.1 I.2.1.2.2.2
      have x0 : h9 0 = (rX9_look_0 (h 0) (h 2) (h 3) (h 6) (h 8) (h 25) (h 26) (h 28) (h 29) (h 38) (h 39) (h 40) (h 41) n m w) := (e9 0 (by decide)).trans m0
      rw [← x0] at yy
      exact yy
  · rcases qq with ⟨q1, _, q3, _⟩ | ⟨q1, _, q3, q4⟩ | ⟨q1, _, q3, q4⟩
    · exact Or.inl ⟨q1, q3⟩
    · exact (x1_ne f51 (congrFun q4 0)).elim
    · exact Or.inr (Or.inr ⟨rfl, q1, q3⟩)
set_option maxRecDepth 4000 in
theorem du_week {c : Nat → Nat} {T n m u t : Nat} {L : bL_} {h : hp_} (I : IV c T n m u t L h) (s q v w : Int32) : dual mX9_week mX10_week [(1, .int s), (2, .int q), (3, .int v), (4, .int w)] false true 1 h := by
  have qq := q_week I s q v w
  have f49 : ∀ i, kpF i = true → (rX10_week_49 (h 8) (h 49) (h 51) (h 73) (h 497) (h 498) (jj_gd h 64 8) n m s q v w) i = h 49 i := fun i hi => by
    have i0 := kpF_0 hi
    unfold rX10_week_49
    repeat' split
    all_goals first | rw [jj_une i0, jj_une i0] | rw [jj_une i0] | (rw [wkb_f (kpF_n hi rfl), jj_une i0])
  have f51 : (rX10_week_51 (h 8) (h 49) (h 51) (h 73) (h 497) (h 498) (jj_gd h 64 8) n m s q v w) 0 = h 51 0 := by
    unfold rX10_week_51
    repeat' split
    all_goals rfl
  refine ⟨(vX9_week (h 0) (h 2) (h 3) (h 6) (h 8) (h 12) (h 38) (h 39) (h 40) (h 41) (h 42) (h 43) (h 44) (h 45) (h 46) (h 47) n m s q v w), (vX10_week (h 8) (h 49) (h 51) (h 73) (h 497) (h 498) (jj_gd h 64 8) n m s q v w), (rX10_week_49 (h 8) (h 49) (h 51) (h 73) (h 497) (h 498) (jj_gd h 64 8) n m s q v w) 0, fun h1 => h1 0 = (rX9_week_0 (h 0) (h 2) (h 3) (h 6) (h 8) (h 12) (h 38) (h 39) (h 40) (h 41) (h 42) (h 43) (h 44) (h 45) (h 46) (h 47) n m s q v w) ∧ kp h h1 ∧ ∀ x, 49 ≤ x → h1 x = h x, ?_, ?_, ?_⟩
  · intro d kc ks g Q k
    refine sp_X9_week I.2.2.1.1 I.2.2.1.2.2.1 I.2.2.2.1.1 I.2.2.2.1.2.2.1 (fun h9 e9 => k _ ⟨rfl, ?_, fun x hx => (rs_hi rfl hx).trans (eq_hi e9 rfl hx)⟩)
    have e0 : h9 0 = h 0 := e9 0 (by decide)
    exact kp_tr (kp_X e9 rfl) (kp_0 (by rw [e0]; exact res_12 qq) rfl)
  · intro d kc ks h1 g Q hm k
    obtain ⟨m0, mk, mx⟩ := hm
    have e8 : h1 8 = h 8 := mk.1 8 rfl
    have e49 : h1 49 = h 49 := mx 49 (by omega)
    have e51 : h1 51 = h 51 := mx 51 (by omega)
    have e73 : h1 73 = h 73 := mx 73 (by omega)
    have e497 : h1 497 = h 497 := mx 497 (by omega)
    have e498 : h1 498 = h 498 := mx 498 (by omega)
    have g64 : jj_gd h1 64 8 = jj_gd h 64 8 := gd_eq (fun j hj => mx _ (by omega))
    refine sp_X10_week (by rw [mx 53 (by omega)]; exact I.2.2.1.2.1) I.2.2.1.2.2.1 (by rw [mx 49 (by omega)]; exact I.2.2.2.1.2.1) I.2.2.2.1.2.2.1 (by rw [mk.1 8 rfl, gd_eq (k := h) (fun j hj => mx _ (by omega))]; exact I.2.2.2.1.2.2.2) (fun h9 e9 => ?_)
    rw [e8, e49, e51, e73, e497, e498, g64]
    refine k _ ⟨c, T, n, m, u, t, L, IV_kp I (kp_tr mk ?_) ?_⟩ rfl
    · have x49 : h9 49 = h 49 := (e9 49 (by decide)).trans (mx 49 (by omega))
      exact kp_tr (kp_X e9 rfl) (kp_49 (fun i hi => by rw [x49]; exact f49 i hi) rfl)
    · have yy := res_c qq I.2.1.2.2.1 I.2.1.2.2.2
      have x0 : h9 0 = (rX9_week_0 (h 0) (h 2) (h 3) (h 6) (h 8) (h 12) (h 38) (h 39) (h 40) (h 41) (h 42) (h 43) (h 44) (h 45) (h 46) (h 47) n m s q v w) := (e9 0 (by decide)).trans m0
      rw [← x0] at yy
      exact yy
  · rcases qq with ⟨q1, _, q3, _⟩ | ⟨q1, _, q3, q4⟩ | ⟨q1, _, q3, q4⟩
    · exact Or.inl ⟨q1, q3⟩
    · exact (x1_ne f51 (congrFun q4 0)).elim
    · exact Or.inr (Or.inr ⟨rfl, q1, q3⟩)
set_option maxRecDepth 4000 in
theorem du_span {c : Nat → Nat} {T n m u t : Nat} {L : bL_} {h : hp_} (I : IV c T n m u t L h) (s y q v w p : Int32) : dual mX9_span mX10_span [(1, .int s), (2, .int y), (3, .int q), (4, .int v), (5, .int w), (6, .int p)] false true 1 h := by
  have qq := q_span I s y q v w p
  have f49 : ∀ i, kpF i = true → (rX10_span_49 (h 8) (h 49) (h 51) (h 73) (h 497) (h 498) (jj_gd h 64 8) n m s y q v w p) i = h 49 i := fun i hi => by
    have i0 := kpF_0 hi
    unfold rX10_span_49
    repeat' split
    all_goals first | rw [jj_une i0, jj_une i0] | rw [jj_une i0] | (rw [spn_f (kpF_n hi rfl), jj_une i0])
  have f51 : (rX10_span_51 (h 8) (h 49) (h 51) (h 73) (h 497) (h 498) (jj_gd h 64 8) n m s y q v w p) 0 = h 51 0 := by
    unfold rX10_span_51
    repeat' split
    all_goals rfl
  refine ⟨(vX9_span (h 0) (h 1) (h 2) (h 3) (h 6) (h 8) (h 12) (h 38) (h 39) (h 40) (h 41) (h 42) (h 43) (h 44) (h 45) (h 46) (h 47) n m s y q v w p), (vX10_span (h 8) (h 49) (h 51) (h 73) (h 497) (h 498) (jj_gd h 64 8) n m s y q v w p), (rX10_span_49 (h 8) (h 49) (h 51) (h 73) (h 497) (h 498) (jj_gd h 64 8) n m s y q v w p) 0, fun h1 => h1 0 = (rX9_span_0 (h 0) (h 1) (h 2) (h 3) (h 6) (h 8) (h 12) (h 38) (h 39) (h 40) (h 41) (h 42) (h 43) (h 44) (h 45) (h 46) (h 47) n m s y q v w p) ∧ kp h h1 ∧ ∀ x, 49 ≤ x → h1 x = h x, ?_, ?_, ?_⟩
  · intro d kc ks g Q k
    refine sp_X9_span I.2.2.1.1 I.2.2.1.2.2.1 I.2.2.2.1.1 I.2.2.2.1.2.2.1 (fun h9 e9 => k _ ⟨rfl, ?_, fun x hx => (rs_hi rfl hx).trans (eq_hi e9 rfl hx)⟩)
    have e0 : h9 0 = h 0 := e9 0 (by decide)
    exact kp_tr (kp_X e9 rfl) (kp_0 (by rw [e0]; exact res_12 qq) rfl)
  · intro d kc ks h1 g Q hm k
    obtain ⟨m0, mk, mx⟩ := hm
    have e8 : h1 8 = h 8 := mk.1 8 rfl
    have e49 : h1 49 = h 49 := mx 49 (by omega)
    have e51 : h1 51 = h 51 := mx 51 (by omega)
    have e73 : h1 73 = h 73 := mx 73 (by omega)
    have e497 : h1 497 = h 497 := mx 497 (by omega)
    have e498 : h1 498 = h 498 := mx 498 (by omega)
    have g64 : jj_gd h1 64 8 = jj_gd h 64 8 := gd_eq (fun j hj => mx _ (by omega))
    refine sp_X10_span (by rw [mx 53 (by omega)]; exact I.2.2.1.2.1) I.2.2.1.2.2.1 (by rw [mx 49 (by omega)]; exact I.2.2.2.1.2.1) I.2.2.2.1.2.2.1 (by rw [mk.1 8 rfl, gd_eq (k := h) (fun j hj => mx _ (by omega))]; exact I.2.2.2.1.2.2.2) (fun h9 e9 => ?_)
    rw [e8, e49, e51, e73, e497, e498, g64]
    refine k _ ⟨c, T, n, m, u, t, L, IV_kp I (kp_tr mk ?_) ?_⟩ rfl
    · have x49 : h9 49 = h 49 := (e9 49 (by decide)).trans (mx 49 (by omega))
      exact kp_tr (kp_X e9 rfl) (kp_49 (fun i hi => by rw [x49]; exact f49 i hi) rfl)
    · have yy := res_c qq I.2.1.2.2.1 I.2.1.2.2.2
      have x0 : h9 0 = (rX9_span_0 (h 0) (h 1) (h 2) (h 3) (h 6) (h 8) (h 12) (h 38) (h 39) (h 40) (h 41) (h 42) (h 43) (h 44) (h 45) (h 46) (h 47) n m s y q v w p) := (e9 0 (by decide)).trans m0
      rw [← x0] at yy
      exact yy
  · rcases qq with ⟨q1, _, q3, _⟩ | ⟨q1, _, q3, q4⟩ | ⟨q1, _, q3, q4⟩
    · exact Or.inl ⟨q1, q3⟩
    · exact (x1_ne f51 (congrFun q4 0)).elim
    · exact Or.inr (Or.inr ⟨rfl, q1, q3⟩)
set_option maxRecDepth 4000 in
theorem du_kneel {c : Nat → Nat} {T n m u t : Nat} {L : bL_} {h : hp_} (I : IV c T n m u t L h) (w : Int32) : dual mX9_kneel mX10_kneel [(1, .int w)] false true 1 h := by
  have qq := q_kneel I w
  have f49 : ∀ i, kpF i = true → (rX10_kneel_49 (h 8) (h 49) (h 51) (h 73) (h 497) (h 777) (h 778) (jj_gd h 64 8) n m w) i = h 49 i := fun i hi => by
    have i0 := kpF_0 hi
    unfold rX10_kneel_49
    repeat' split
    all_goals first | rw [jj_une i0, jj_une i0] | exact ((kn_iv I).1.2.2.2 i (kpF_n hi rfl) (kpF_n hi rfl)).trans (jj_une i0)
  have f51 : (rX10_kneel_51 (h 8) (h 49) (h 51) (h 73) (h 497) (h 777) (h 778) (jj_gd h 64 8) n m w) 0 = h 51 0 := by
    unfold rX10_kneel_51
    repeat' split
    all_goals rfl
  refine ⟨(vX9_kneel (h 0) (h 2) (h 3) (h 6) (h 8) (h 30) (h 31) (h 32) (h 33) (h 38) (h 39) (h 40) (h 41) n m w), (vX10_kneel (h 8) (h 49) (h 51) (h 73) (h 497) (h 777) (h 778) (jj_gd h 64 8) n m w), (rX10_kneel_49 (h 8) (h 49) (h 51) (h 73) (h 497) (h 777) (h 778) (jj_gd h 64 8) n m w) 0, fun h1 => h1 0 = (rX9_kneel_0 (h 0) (h 2) (h 3) (h 6) (h 8) (h 30) (h 31) (h 32) (h 33) (h 38) (h 39) (h 40) (h 41) n m w) ∧ kp h h1 ∧ ∀ x, 49 ≤ x → h1 x = h x, ?_, ?_, ?_⟩
  · intro d kc ks g Q k
    refine sp_X9_kneel I.2.2.1.1 I.2.2.1.2.2.1 I.2.2.2.1.1 I.2.2.2.1.2.2.1 (fun h9 e9 => k _ ⟨rfl, ?_, fun x hx => (rs_hi rfl hx).trans (eq_hi e9 rfl hx)⟩)
    have e0 : h9 0 = h 0 := e9 0 (by decide)
    exact kp_tr (kp_X e9 rfl) (kp_0 (by rw [e0]; exact res_12 qq) rfl)
  · intro d kc ks h1 g Q hm k
    obtain ⟨m0, mk, mx⟩ := hm
    have e8 : h1 8 = h 8 := mk.1 8 rfl
    have e49 : h1 49 = h 49 := mx 49 (by omega)
    have e51 : h1 51 = h 51 := mx 51 (by omega)
    have e73 : h1 73 = h 73 := mx 73 (by omega)
    have e497 : h1 497 = h 497 := mx 497 (by omega)
    have e777 : h1 777 = h 777 := mx 777 (by omega)
    have e778 : h1 778 = h 778 := mx 778 (by omega)
    have g64 : jj_gd h1 64 8 = jj_gd h 64 8 := gd_eq (fun j hj => mx _ (by omega))
    refine sp_X10_kneel (by rw [mx 53 (by omega)]; exact I.2.2.1.2.1) I.2.2.1.2.2.1 (by rw [mx 49 (by omega)]; exact I.2.2.2.1.2.1) I.2.2.2.1.2.2.1 (by rw [mk.1 8 rfl, gd_eq (k := h) (fun j hj => mx _ (by omega))]; exact I.2.2.2.1.2.2.2) (fun h9 e9 => ?_)
    rw [e8, e49, e51, e73, e497, e777, e778, g64]
    refine k _ ⟨c, T, n, m, u, t, L, IV_kp I (kp_tr mk ?_) ?_⟩ rfl
    · have x49 : h9 49 = h 49 := (e9 49 (by decide)).trans (mx 49 (by omega))
      exact kp_tr (kp_X e9 rfl) (kp_49 (fun i hi => by rw [x49]; exact f49 i hi) rfl)
    · have yy := res_c qq I.2.1.2.2.1 I.2.1.2.2.2
      have x0 : h9 0 = (rX9_kneel_0 (h 0) (h 2) (h 3) (h 6) (h 8) (h 30) (h 31) (h 32) (h 33) (h 38) (h 39) (h 40) (h 41) n m w) := (e9 0 (by decide)).trans m0
      rw [← x0] at yy
      exact yy
  · rcases qq with ⟨q1, _, q3, _⟩ | ⟨q1, _, q3, q4⟩ | ⟨q1, _, q3, q4⟩
    · exact Or.inl ⟨q1, q3⟩
    · exact (x1_ne f51 (congrFun q4 0)).elim
    · exact Or.inr (Or.inr ⟨rfl, q1, q3⟩)
set_option maxRecDepth 4000 in
theorem du_kneels {c : Nat → Nat} {T n m u t : Nat} {L : bL_} {h : hp_} (I : IV c T n m u t L h) (p : Int32) : dual mX9_kneels mX10_kneels [(1, .int p)] true false 1 h := by
  have qq := q_kneels I p
  have f49 : ∀ i, kpF i = true → (rX10_kneels_49 (h 8) (h 49) (h 51) (h 73) (h 497) (h 777) (h 778) (jj_gd h 64 8) n m p) i = h 49 i := fun i hi => by
    have i0 := kpF_0 hi
    unfold rX10_kneels_49
    repeat' split
    all_goals first | rw [jj_une i0, jj_une i0] | exact ((kn_iv I).1.2.2.2 i (kpF_n hi rfl) (kpF_n hi rfl)).trans (jj_une i0)
  have f51 : (rX10_kneels_51 (h 8) (h 49) (h 51) (h 73) (h 497) (h 777) (h 778) (jj_gd h 64 8) n m p) 1 = h 51 1 := by
    unfold rX10_kneels_51
    repeat' split
    all_goals rfl
  refine ⟨(vX9_kneels (h 0) (h 1) (h 2) (h 3) (h 6) (h 8) (h 30) (h 31) (h 32) (h 33) (h 38) (h 39) (h 40) (h 41) n m p), (vX10_kneels (h 8) (h 49) (h 51) (h 73) (h 497) (h 777) (h 778) (jj_gd h 64 8) n m p), (rX10_kneels_49 (h 8) (h 49) (h 51) (h 73) (h 497) (h 777) (h 778) (jj_gd h 64 8) n m p) 0, fun h1 => h1 0 = (rX9_kneels_0 (h 0) (h 1) (h 2) (h 3) (h 6) (h 8) (h 30) (h 31) (h 32) (h 33) (h 38) (h 39) (h 40) (h 41) n m p) ∧ kp h h1 ∧ ∀ x, 49 ≤ x → h1 x = h x, ?_, ?_, ?_⟩
  · intro d kc ks g Q k
    refine sp_X9_kneels I.2.2.1.1 I.2.2.1.2.2.1 I.2.2.2.1.1 I.2.2.2.1.2.2.1 (fun h9 e9 => k _ ⟨rfl, ?_, fun x hx => (rs_hi rfl hx).trans (eq_hi e9 rfl hx)⟩)
    have e0 : h9 0 = h 0 := e9 0 (by decide)
    exact kp_tr (kp_X e9 rfl) (kp_0 (by rw [e0]; exact res_12 qq) rfl)
  · intro d kc ks h1 g Q hm k
    obtain ⟨m0, mk, mx⟩ := hm
    have e8 : h1 8 = h 8 := mk.1 8 rfl
    have e49 : h1 49 = h 49 := mx 49 (by omega)
    have e51 : h1 51 = h 51 := mx 51 (by omega)
    have e73 : h1 73 = h 73 := mx 73 (by omega)
    have e497 : h1 497 = h 497 := mx 497 (by omega)
    have e777 : h1 777 = h 777 := mx 777 (by omega)
    have e778 : h1 778 = h 778 := mx 778 (by omega)
    have g64 : jj_gd h1 64 8 = jj_gd h 64 8 := gd_eq (fun j hj => mx _ (by omega))
    refine sp_X10_kneels (by rw [mx 53 (by omega)]; exact I.2.2.1.2.1) I.2.2.1.2.2.1 (by rw [mx 49 (by omega)]; exact I.2.2.2.1.2.1) I.2.2.2.1.2.2.1 (by rw [mk.1 8 rfl, gd_eq (k := h) (fun j hj => mx _ (by omega))]; exact I.2.2.2.1.2.2.2) (fun h9 e9 => ?_)
    rw [e8, e49, e51, e73, e497, e777, e778, g64]
    refine k _ ⟨c, T, n, m, u, t, L, IV_kp I (kp_tr mk ?_) ?_⟩ rfl
    · have x49 : h9 49 = h 49 := (e9 49 (by decide)).trans (mx 49 (by omega))
      exact kp_tr (kp_X e9 rfl) (kp_49 (fun i hi => by rw [x49]; exact f49 i hi) rfl)
    · have yy := res_c qq I.2.1.2.2.1 I.2.1.2.2.2
      have x0 : h9 0 = (rX9_kneels_0 (h 0) (h 1) (h 2) (h 3) (h 6) (h 8) (h 30) (h 31) (h 32) (h 33) (h 38) (h 39) (h 40) (h 41) n m p) := (e9 0 (by decide)).trans m0
      rw [← x0] at yy
      exact yy
  · rcases qq with ⟨q1, _, q3, _⟩ | ⟨q1, _, q3, q4⟩ | ⟨q1, _, q3, q4⟩
    · exact Or.inl ⟨q1, q3⟩
    · exact Or.inr (Or.inl ⟨rfl, q1, q3⟩)
    · exact (x1_ne f51 (congrFun q4 1)).elim
