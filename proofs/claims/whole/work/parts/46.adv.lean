/-! ===== Reader.advance, by tokens ===== -/
def av_body (r14 : Nat → Int32) (FA FB FD : Nat → (Nat → Int32) → Sum (Nat → Int32) (Nat → Int32)) (y : Nat → Int32) : Nat → Int32 := (if ((upd y (6) (y 3)) 3) < ((upd y (6) (y 3)) 2) then (if (r14 (((upd y (6) (y 3)) 3) : Int32).toNatClampNeg) < 48 then (if (r14 (((upd y (6) (y 3)) 3) : Int32).toNatClampNeg) < 97 then (upd (upd (upd (upd y (6) (y 3)) (4) 3) (5) (r14 (((upd (upd y (6) (y 3)) (4) 3) 3) : Int32).toNatClampNeg)) (3) (((upd (upd (upd y (6) (y 3)) (4) 3) (5) (r14 (((upd (upd y (6) (y 3)) (4) 3) 3) : Int32).toNatClampNeg)) 3) + 1)) else (if 122 < (r14 (((upd y (6) (y 3)) 3) : Int32).toNatClampNeg) then (upd (upd (upd (upd y (6) (y 3)) (4) 3) (5) (r14 (((upd (upd y (6) (y 3)) (4) 3) 3) : Int32).toNatClampNeg)) (3) (((upd (upd (upd y (6) (y 3)) (4) 3) (5) (r14 (((upd (upd y (6) (y 3)) (4) 3) 3) : Int32).toNatClampNeg)) 3) + 1)) else (Sum.elim (fun x => x) (fun x => x) (jj_fx FA ((rdl (upd (upd y (6) (y 3)) (4) 2))) (upd (upd y (6) (y 3)) (4) 2))))) else (if 57 < (r14 (((upd y (6) (y 3)) 3) : Int32).toNatClampNeg) then (if (r14 (((upd y (6) (y 3)) 3) : Int32).toNatClampNeg) < 97 then (upd (upd (upd (upd y (6) (y 3)) (4) 3) (5) (r14 (((upd (upd y (6) (y 3)) (4) 3) 3) : Int32).toNatClampNeg)) (3) (((upd (upd (upd y (6) (y 3)) (4) 3) (5) (r14 (((upd (upd y (6) (y 3)) (4) 3) 3) : Int32).toNatClampNeg)) 3) + 1)) else (if 122 < (r14 (((upd y (6) (y 3)) 3) : Int32).toNatClampNeg) then (upd (upd (upd (upd y (6) (y 3)) (4) 3) (5) (r14 (((upd (upd y (6) (y 3)) (4) 3) 3) : Int32).toNatClampNeg)) (3) (((upd (upd (upd y (6) (y 3)) (4) 3) (5) (r14 (((upd (upd y (6) (y 3)) (4) 3) 3) : Int32).toNatClampNeg)) 3) + 1)) else (Sum.elim (fun x => x) (fun x => x) (jj_fx FB ((rdl (upd (upd y (6) (y 3)) (4) 2))) (upd (upd y (6) (y 3)) (4) 2))))) else (Sum.elim (fun x => x) (fun x => x) (jj_fx FD ((rdl (upd (upd (upd y (6) (y 3)) (4) 1) (5) 0))) (upd (upd (upd y (6) (y 3)) (4) 1) (5) 0))))) else (upd (upd y (6) (y 3)) (4) 0))
theorem av_eq {r13 r14 : Nat → Int32} : rX5_advance_13 r13 r14 = Sum.elim (av_body r14 (fX5_advance_2 r14) (fX5_advance_3 r14) (fX5_advance_4 r14)) (av_body r14 (fX5_advance_5 r14) (fX5_advance_6 r14) (fX5_advance_7 r14)) (jj_fx (fX5_advance_1 r14) (rdl r13) r13) := rfl
theorem up_id {z : Nat → Int32} {k : Nat} {v : Int32} (h : z k = v) : upd z k v = z := by
  funext j
  by_cases e : j = k
  · rw [jj_ueq e, e, h]
  · rw [jj_une e]
theorem up_up {z : Nat → Int32} {k : Nat} {v w : Int32} : upd (upd z k v) k w = upd z k w := by
  funext j
  by_cases e : j = k
  · rw [jj_ueq e, jj_ueq e]
  · rw [jj_une e, jj_une e, jj_une e]
theorem rdl_at {z : Nat → Int32} {e a : Nat} (he : e ≤ 600) (h2 : z 2 = nI e) (h3 : z 3 = nI a) (ha : a ≤ e) : rdl z = e - a := by
  unfold rdl
  rw [h2, h3, nI_clamp (by omega), nI_clamp (by omega)]
theorem avB_end {r14 : Nat → Int32} {c : Nat → Nat} {e a : Nat} {z : Nat → Int32} (hB : bytesok r14 c) (he : e ≤ 600) (h2 : z 2 = nI e) (h3 : z 3 = nI a) (ha : a ≤ e) : jj_fx (fX5_advance_1 r14) (rdl z) z = .inl (upd z 3 (nI (spn isB c e a))) ∨ jj_fx (fX5_advance_1 r14) (rdl z) z = .inr (upd z 3 (nI (spn isB c e a))) := by
  have h := lp_end (F := fX5_advance_1 r14) (S := fun k => upd z 3 (nI (a + k))) (P := isB) (c := c) (p := a) ha (fun k hk => by
    rw [av_B hB he (q := a + k) ((jj_une (by decide)).trans h2) (jj_ueq rfl) hk]
    try dsimp only
    rw [up_up]
    rfl)
  have g := spn_ge (P := isB) (c := c) (e := e) (x := a)
  rw [rdl_at he h2 h3 ha]
  try dsimp only at h
  rw [Nat.add_zero, up_id h3, show a + (spn isB c e a - a) = spn isB c e a by omega] at h
  exact h
theorem avL_end {r14 : Nat → Int32} {F : Nat → (Nat → Int32) → Sum (Nat → Int32) (Nat → Int32)} {c : Nat → Nat} {e a : Nat} {z : Nat → Int32} (hFe : ∀ k z, F k z = fX5_advance_2 r14 k z) (hB : bytesok r14 c) (he : e ≤ 600) (h2 : z 2 = nI e) (h3 : z 3 = nI a) (ha : a ≤ e) : Sum.elim (fun x => x) (fun x => x) (jj_fx F (rdl z) z) = upd z 3 (nI (spn isL c e a)) := by
  have h := lp_end (F := F) (S := fun k => upd z 3 (nI (a + k))) (P := isL) (c := c) (p := a) ha (fun k hk => by
    rw [hFe]
    unfold fX5_advance_2
    rw [av_L hB he (q := a + k) ((jj_une (by decide)).trans h2) (jj_ueq rfl) hk]
    try dsimp only
    rw [up_up]
    rfl)
  have g := spn_ge (P := isL) (c := c) (e := e) (x := a)
  rw [rdl_at he h2 h3 ha]
  try dsimp only at h
  rw [Nat.add_zero, up_id h3, show a + (spn isL c e a - a) = spn isL c e a by omega] at h
  rcases h with h | h <;> rw [h] <;> rfl
theorem avD_end {r14 : Nat → Int32} {F : Nat → (Nat → Int32) → Sum (Nat → Int32) (Nat → Int32)} {c : Nat → Nat} {e a : Nat} {z : Nat → Int32} (hFe : ∀ k z, F k z = fX5_advance_4 r14 k z) (hB : bytesok r14 c) (he : e ≤ 600) (h2 : z 2 = nI e) (h3 : z 3 = nI a) (h5 : z 5 = 0) (ha : a ≤ e) : Sum.elim (fun x => x) (fun x => x) (jj_fx F (rdl z) z) = nst z c a (spn isD c e a - a) := by
  have h := lp_end (F := F) (S := fun k => nst z c a k) (P := isD) (c := c) (p := a) ha (fun k hk => by
    rw [hFe]
    exact av_D hB he h2 hk)
  have e0 : nst z c a 0 = z := by
    unfold nst
    rw [show nI (wvk c a 0) = z 5 from h5.symm, up_id rfl, Nat.add_zero, up_id h3]
  rw [rdl_at he h2 h3 ha]
  try dsimp only at h
  rw [e0] at h
  rcases h with h | h <;> rw [h] <;> rfl
theorem av_tk {r14 : Nat → Int32} {FA FB FD : Nat → (Nat → Int32) → Sum (Nat → Int32) (Nat → Int32)} {c : Nat → Nat} {e a : Nat} {y : Nat → Int32} (hA : ∀ k z, FA k z = fX5_advance_2 r14 k z) (hA2 : ∀ k z, FB k z = fX5_advance_2 r14 k z) (hD : ∀ k z, FD k z = fX5_advance_4 r14 k z) (hB : bytesok r14 c) (he : e ≤ 600) (h2 : y 2 = nI e) (h3 : y 3 = nI a) (ha : a ≤ e) : tk c e a (av_body r14 FA FB FD y) ∧ (∀ i, i = 0 ∨ i = 1 ∨ i = 7 ∨ i = 8 → av_body r14 FA FB FD y i = y i) := by
  unfold av_body
  have e3 : upd y 6 (y 3) 3 = nI a := (jj_une (by decide)).trans h3
  have e2 : upd y 6 (y 3) 2 = nI e := (jj_une (by decide)).trans h2
  rw [e3, e2]
  by_cases w : a < e
  · have nw : ¬ e ≤ a := by omega
    rw [if_pos (nI_lt w (by omega)), b_at hB (by omega)]
    have hc := (hB a (by omega)).2
    have hsD := sb_D (c a) hc
    have hsL := sb_L (c a) hc
    -- a word
    have WORD : ∀ F, (∀ k z, F k z = fX5_advance_2 r14 k z) → isD (c a) = false → isL (c a) = true → tk c e a (Sum.elim (fun x => x) (fun x => x) (jj_fx F (rdl (upd (upd y 6 (y 3)) 4 2)) (upd (upd y 6 (y 3)) 4 2))) ∧ (∀ i, i = 0 ∨ i = 1 ∨ i = 7 ∨ i = 8 → (Sum.elim (fun x => x) (fun x => x) (jj_fx F (rdl (upd (upd y 6 (y 3)) 4 2)) (upd (upd y 6 (y 3)) 4 2))) i = y i) := by
      intro F hF d1 l1
      rw [avL_end hF hB he ((jj_une (by decide)).trans e2) ((jj_une (by decide)).trans e3) ha]
      have k2 : kd c e a = 2 := by unfold kd; rw [if_neg nw, d1, if_neg (by decide), if_pos l1]
      have n2 : nx c e a = spn isL c e a := by unfold nx; rw [if_neg nw, d1, if_neg (by decide), if_pos l1]
      refine ⟨⟨ha, ?_, ?_, ?_, ?_, fun q => absurd (k2.symm.trans q) (by decide), fun q => absurd (k2.symm.trans q) (by decide)⟩, ?_⟩
      · exact (jj_une (by decide)).trans ((jj_une (by decide)).trans e2)
      · rw [n2]; exact jj_ueq rfl
      · exact (jj_une (by decide)).trans ((jj_une (by decide)).trans ((jj_ueq rfl).trans h3))
      · rw [k2]; exact (jj_une (by decide)).trans (jj_ueq rfl)
      · rintro i (rfl | rfl | rfl | rfl) <;> exact (jj_une (by decide)).trans ((jj_une (by decide)).trans (jj_une (by decide)))
    have SIGN : isD (c a) = false → isL (c a) = false → tk c e a ((upd (upd (upd (upd y 6 (y 3)) 4 3) 5 (r14 ((upd (upd y 6 (y 3)) 4 3) 3).toNatClampNeg)) 3 ((upd (upd (upd y 6 (y 3)) 4 3) 5 (r14 ((upd (upd y 6 (y 3)) 4 3) 3).toNatClampNeg)) 3 + 1))) ∧ (∀ i, i = 0 ∨ i = 1 ∨ i = 7 ∨ i = 8 → ((upd (upd (upd (upd y 6 (y 3)) 4 3) 5 (r14 ((upd (upd y 6 (y 3)) 4 3) 3).toNatClampNeg)) 3 ((upd (upd (upd y 6 (y 3)) 4 3) 5 (r14 ((upd (upd y 6 (y 3)) 4 3) 3).toNatClampNeg)) 3 + 1))) i = y i) := by
      intro d1 l1
      have k2 : kd c e a = 3 := by unfold kd; rw [if_neg nw, d1, if_neg (by decide), l1, if_neg (by decide)]
      have n2 : nx c e a = a + 1 := by unfold nx; rw [if_neg nw, d1, if_neg (by decide), l1, if_neg (by decide)]
      have f3 : upd (upd y 6 (y 3)) 4 3 3 = nI a := (jj_une (by decide)).trans e3
      rw [f3, b_at hB (by omega)]
      refine ⟨⟨ha, ?_, ?_, ?_, ?_, fun q => absurd (k2.symm.trans q) (by decide), fun _ => (jj_une (by decide)).trans (jj_ueq rfl)⟩, ?_⟩
      · exact (jj_une (by decide)).trans ((jj_une (by decide)).trans ((jj_une (by decide)).trans e2))
      · rw [n2, jj_ueq rfl, jj_une (by decide), f3, nI_1]
      · exact (jj_une (by decide)).trans ((jj_une (by decide)).trans ((jj_une (by decide)).trans ((jj_ueq rfl).trans h3)))
      · rw [k2]; exact (jj_une (by decide)).trans ((jj_une (by decide)).trans (jj_ueq rfl))
      · rintro i (rfl | rfl | rfl | rfl) <;> exact (jj_une (by decide)).trans ((jj_une (by decide)).trans ((jj_une (by decide)).trans (jj_une (by decide))))
    have REST : ∀ F, (∀ k z, F k z = fX5_advance_2 r14 k z) → isD (c a) = false → tk c e a (if sb (c a) < 97 then (upd (upd (upd (upd y 6 (y 3)) 4 3) 5 (r14 ((upd (upd y 6 (y 3)) 4 3) 3).toNatClampNeg)) 3 ((upd (upd (upd y 6 (y 3)) 4 3) 5 (r14 ((upd (upd y 6 (y 3)) 4 3) 3).toNatClampNeg)) 3 + 1)) else if 122 < sb (c a) then (upd (upd (upd (upd y 6 (y 3)) 4 3) 5 (r14 ((upd (upd y 6 (y 3)) 4 3) 3).toNatClampNeg)) 3 ((upd (upd (upd y 6 (y 3)) 4 3) 5 (r14 ((upd (upd y 6 (y 3)) 4 3) 3).toNatClampNeg)) 3 + 1)) else Sum.elim (fun x => x) (fun x => x) (jj_fx F (rdl (upd (upd y 6 (y 3)) 4 2)) (upd (upd y 6 (y 3)) 4 2))) ∧ (∀ i, i = 0 ∨ i = 1 ∨ i = 7 ∨ i = 8 → (if sb (c a) < 97 then (upd (upd (upd (upd y 6 (y 3)) 4 3) 5 (r14 ((upd (upd y 6 (y 3)) 4 3) 3).toNatClampNeg)) 3 ((upd (upd (upd y 6 (y 3)) 4 3) 5 (r14 ((upd (upd y 6 (y 3)) 4 3) 3).toNatClampNeg)) 3 + 1)) else if 122 < sb (c a) then (upd (upd (upd (upd y 6 (y 3)) 4 3) 5 (r14 ((upd (upd y 6 (y 3)) 4 3) 3).toNatClampNeg)) 3 ((upd (upd (upd y 6 (y 3)) 4 3) 5 (r14 ((upd (upd y 6 (y 3)) 4 3) 3).toNatClampNeg)) 3 + 1)) else Sum.elim (fun x => x) (fun x => x) (jj_fx F (rdl (upd (upd y 6 (y 3)) 4 2)) (upd (upd y 6 (y 3)) 4 2))) i = y i) := by
      intro F hF d1
      by_cases u : sb (c a) < 97
      · rw [if_pos u]
        exact SIGN d1 (by rw [← hsL, decide_eq_true u]; rfl)
      · rw [if_neg u]
        by_cases u2 : 122 < sb (c a)
        · rw [if_pos u2]
          exact SIGN d1 (by rw [← hsL, decide_eq_false u, decide_eq_true u2]; rfl)
        · rw [if_neg u2]
          exact WORD F hF d1 (by rw [← hsL, decide_eq_false u, decide_eq_false u2]; rfl)
    by_cases u : sb (c a) < 48
    · rw [if_pos u]
      exact REST FA hA (by rw [← hsD, decide_eq_true u]; rfl)
    · rw [if_neg u]
      by_cases u2 : 57 < sb (c a)
      · rw [if_pos u2]
        exact REST FB hA2 (by rw [← hsD, decide_eq_false u, decide_eq_true u2]; rfl)
      · rw [if_neg u2]
        have d1 : isD (c a) = true := by rw [← hsD, decide_eq_false u, decide_eq_false u2]; rfl
        have k2 : kd c e a = 1 := by unfold kd; rw [if_neg nw, if_pos d1]
        have n2 : nx c e a = spn isD c e a := by unfold nx; rw [if_neg nw, if_pos d1]
        have g := spn_ge (P := isD) (c := c) (e := e) (x := a)
        rw [avD_end hD hB he (z := upd (upd (upd y 6 (y 3)) 4 1) 5 0) ((jj_une (by decide)).trans ((jj_une (by decide)).trans e2)) ((jj_une (by decide)).trans ((jj_une (by decide)).trans e3)) (jj_ueq rfl) ha]
        unfold nst
        refine ⟨⟨ha, ?_, ?_, ?_, ?_, fun _ => (jj_une (by decide)).trans (jj_ueq rfl), fun q => absurd (k2.symm.trans q) (by decide)⟩, ?_⟩
        · exact (jj_une (by decide)).trans ((jj_une (by decide)).trans ((jj_une (by decide)).trans ((jj_une (by decide)).trans e2)))
        · rw [n2, jj_ueq rfl, show a + (spn isD c e a - a) = spn isD c e a by omega]
        · exact (jj_une (by decide)).trans ((jj_une (by decide)).trans ((jj_une (by decide)).trans ((jj_une (by decide)).trans ((jj_ueq rfl).trans h3))))
        · rw [k2]; exact (jj_une (by decide)).trans ((jj_une (by decide)).trans ((jj_une (by decide)).trans (jj_ueq rfl)))
        · rintro i (rfl | rfl | rfl | rfl) <;> exact (jj_une (by decide)).trans ((jj_une (by decide)).trans ((jj_une (by decide)).trans ((jj_une (by decide)).trans (jj_une (by decide)))))
  · have ew : e ≤ a := by omega
    rw [if_neg (fun q => w ((nI_ltI (by omega) (by omega)).mp q))]
    have k2 : kd c e a = 0 := if_pos ew
    have n2 : nx c e a = a := if_pos ew
    refine ⟨⟨ha, (jj_une (by decide)).trans e2, ?_, ?_, ?_, fun q => absurd (k2.symm.trans q) (by decide), fun q => absurd (k2.symm.trans q) (by decide)⟩, ?_⟩
    · rw [n2]; exact (jj_une (by decide)).trans e3
    · exact (jj_une (by decide)).trans ((jj_ueq rfl).trans h3)
    · rw [k2]; exact jj_ueq rfl
    · rintro i (rfl | rfl | rfl | rfl) <;> exact (jj_une (by decide)).trans (jj_une (by decide))
theorem adv_tk {r r14 : Nat → Int32} {c : Nat → Nat} {e x : Nat} (hB : bytesok r14 c) (he : e ≤ 600) (h2 : r 2 = nI e) (h3 : r 3 = nI x) (hx : x ≤ e) : tk c e (spn isB c e x) (rX5_advance_13 r r14) ∧ (∀ i, i = 0 ∨ i = 1 ∨ i = 7 ∨ i = 8 → rX5_advance_13 r r14 i = r i) := by
  have hl := spn_le (P := isB) (c := c) hx
  have y2 : upd r 3 (nI (spn isB c e x)) 2 = nI e := (jj_une (by decide)).trans h2
  have y3 : upd r 3 (nI (spn isB c e x)) 3 = nI (spn isB c e x) := jj_ueq rfl
  have yo : ∀ i, i = 0 ∨ i = 1 ∨ i = 7 ∨ i = 8 → upd r 3 (nI (spn isB c e x)) i = r i := by
    rintro i (rfl | rfl | rfl | rfl) <;> exact jj_une (by decide)
  rw [av_eq]
  rcases avB_end hB he h2 h3 hx with h | h
  · rw [h, Sum.elim_inl]
    obtain ⟨t1, t2⟩ := av_tk (FA := fX5_advance_2 r14) (FB := fX5_advance_3 r14) (FD := fX5_advance_4 r14) (fun _ _ => rfl) (fun _ _ => rfl) (fun _ _ => rfl) hB he y2 y3 hl
    exact ⟨t1, fun i hi => (t2 i hi).trans (yo i hi)⟩
  · rw [h, Sum.elim_inr]
    obtain ⟨t1, t2⟩ := av_tk (FA := fX5_advance_5 r14) (FB := fX5_advance_6 r14) (FD := fX5_advance_7 r14) (fun _ _ => rfl) (fun _ _ => rfl) (fun _ _ => rfl) hB he y2 y3 hl
    exact ⟨t1, fun i hi => (t2 i hi).trans (yo i hi)⟩
