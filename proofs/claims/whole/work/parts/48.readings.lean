/-! ===== the Reader's readings, by tokens ===== -/
/-- the Reader has failed at p with the code k, all else as in r -/
def rfl_ (r z : Nat → Int32) (k p : Nat) : Prop := z 7 = nI k ∧ z 8 = nI p ∧ z 1 = r 1
theorem fl_at {r : Nat → Int32} {c : Nat → Nat} {e a k : Nat} {K : Int32} (eK : K = nI k) (h : tk c e a r) (h7 : r 7 = 0) : rfl_ r (rX5_failed_13 r K) k a := by
  rw [fl_row h7, eK]
  exact ⟨(jj_une (by decide)).trans (jj_ueq rfl), (jj_ueq rfl).trans h.2.2.2.1, (jj_une (by decide)).trans (jj_une (by decide))⟩
/-- on to a token, nothing failed -/
def rgo (r z : Nat → Int32) (c : Nat → Nat) (e a : Nat) : Prop := tk c e a z ∧ z 7 = r 7 ∧ z 8 = r 8 ∧ z 1 = r 1
theorem go_adv {r r14 : Nat → Int32} {c : Nat → Nat} {e a : Nat} (hB : bytesok r14 c) (he : e ≤ 600) (h : tk c e a r) : rgo r (rX5_advance_13 r r14) c e (nt c e a) := by
  obtain ⟨t, f⟩ := tk_adv hB he h
  exact ⟨t, f 7 (by simp), f 8 (by simp), f 1 (by simp)⟩
theorem rd_num {r r14 : Nat → Int32} {c : Nat → Nat} {e a w : Nat} (hB : bytesok r14 c) (he : e ≤ 600) (hw : w < 100000) (h : tk c e a r) (h7 : r 7 = 0) :
    (kd c e a = 1 ∧ vl c e a ≤ w → vX5_number r r14 (nI w) = nI (vl c e a) ∧ rgo r (rX5_number_13 r r14 (nI w)) c e (nt c e a)) ∧
    (kd c e a = 1 ∧ ¬ vl c e a ≤ w → vX5_number r r14 (nI w) = -1 ∧ rfl_ r (rX5_number_13 r r14 (nI w)) 2 a) ∧
    (¬ kd c e a = 1 → vX5_number r r14 (nI w) = -1 ∧ rfl_ r (rX5_number_13 r r14 (nI w)) 1 a) := by
  have k4 := kd_lt (c := c) (e := e) (a := a)
  have hv2 := vl_wnl (c := c) (e := e) (a := a)
  have hv3 := wnl_le (c := c) (e := e) (a := a)
  have e4 := h.2.2.2.2.1
  unfold vX5_number rX5_number_13
  refine ⟨fun q => ?_, fun q => ?_, fun q => ?_⟩
  · have c1 : r 4 = 1 := by rw [e4, q.1]; rfl
    have c2 : r 5 ≤ nI w := by rw [h.2.2.2.2.2.1 q.1]; exact nI_le (by omega) (by omega)
    rw [if_pos c1, if_pos c2, if_pos c1, if_pos c2]
    exact ⟨(h.2.2.2.2.2.1 q.1).trans (by rw [show wnl c e a = vl c e a by omega]), go_adv hB he h⟩
  · have c1 : r 4 = 1 := by rw [e4, q.1]; rfl
    have c2 : ¬ r 5 ≤ nI w := by rw [h.2.2.2.2.2.1 q.1]; exact fun y => q.2 (by have := (nI_leI (by omega) (by omega)).mp y; omega)
    rw [if_pos c1, if_neg c2, if_pos c1, if_neg c2]
    exact ⟨rfl, fl_at rfl h h7⟩
  · have c1 : ¬ r 4 = 1 := by rw [e4]; exact fun y => q ((nI_eq (b := 1) (by omega) (by decide)).mp y)
    rw [if_neg c1, if_neg c1]
    exact ⟨rfl, fl_at rfl h h7⟩
theorem rd_num0 {r r14 : Nat → Int32} {c : Nat → Nat} {e a : Nat} (h : tk c e a r) (h7 : r 7 = 0) :
    (kd c e a = 1 → vX5_number r r14 (-1) = -1 ∧ rfl_ r (rX5_number_13 r r14 (-1)) 2 a) ∧
    (¬ kd c e a = 1 → vX5_number r r14 (-1) = -1 ∧ rfl_ r (rX5_number_13 r r14 (-1)) 1 a) := by
  have k4 := kd_lt (c := c) (e := e) (a := a)
  have hv2 := vl_wnl (c := c) (e := e) (a := a)
  have hv3 := wnl_le (c := c) (e := e) (a := a)
  have e4 := h.2.2.2.2.1
  unfold vX5_number rX5_number_13
  refine ⟨fun q => ?_, fun q => ?_⟩
  · have c1 : r 4 = 1 := by rw [e4, q]; rfl
    have c2 : ¬ r 5 ≤ -1 := by
      rw [h.2.2.2.2.2.1 q, Int32.le_iff_toInt_le, nI_toInt (by omega), show (-1 : Int32).toInt = -1 from rfl]
      omega
    rw [if_pos c1, if_neg c2, if_pos c1, if_neg c2]
    exact ⟨rfl, fl_at rfl h h7⟩
  · have c1 : ¬ r 4 = 1 := by rw [e4]; exact fun y => q ((nI_eq (b := 1) (by omega) (by decide)).mp y)
    rw [if_neg c1, if_neg c1]
    exact ⟨rfl, fl_at rfl h h7⟩
theorem rd_sign {r r14 : Nat → Int32} {c : Nat → Nat} {e a x : Nat} (hB : bytesok r14 c) (he : e ≤ 600) (hx : x < 128) (h : tk c e a r) (h7 : r 7 = 0) :
    (kd c e a = 3 ∧ c a = x → vX5_passSign r r14 (nI x) = 1 ∧ rgo r (rX5_passSign_13 r r14 (nI x)) c e (nt c e a)) ∧
    (¬ (kd c e a = 3 ∧ c a = x) → vX5_passSign r r14 (nI x) = 0 ∧ rfl_ r (rX5_passSign_13 r r14 (nI x)) 1 a) := by
  have hs := is_sign hx (fun ae => (hB a (by omega)).2) h
  unfold vX5_passSign rX5_passSign_13
  refine ⟨fun q => ?_, fun q => ?_⟩
  · rw [if_pos q] at hs
    have n0 : ¬ vX5_isSign r (nI x) = 0 := by rw [hs]; decide
    rw [if_neg n0, if_neg n0]
    exact ⟨rfl, go_adv hB he h⟩
  · rw [if_neg q] at hs
    rw [if_pos hs, if_pos hs]
    exact ⟨rfl, fl_at rfl h h7⟩
theorem rd_end {r : Nat → Int32} {c : Nat → Nat} {e a : Nat} (h : tk c e a r) (h7 : r 7 = 0) :
    (e ≤ a → vX5_passEnd r = 1 ∧ rX5_passEnd_13 r = r) ∧ (¬ e ≤ a → vX5_passEnd r = 0 ∧ rfl_ r (rX5_passEnd_13 r) 1 a) := by
  have k4 := kd_lt (c := c) (e := e) (a := a)
  have e4 := h.2.2.2.2.1
  unfold vX5_passEnd rX5_passEnd_13
  refine ⟨fun q => ?_, fun q => ?_⟩
  · have c1 : r 4 = 0 := by rw [e4, kd_end.mpr q]; rfl
    rw [if_pos c1, if_pos c1, if_pos c1]
    exact ⟨rfl, rfl⟩
  · have c1 : ¬ r 4 = 0 := by rw [e4]; exact fun y => q (kd_end.mp ((nI_eq (b := 0) (by omega) (by decide)).mp y))
    have c2 : ¬ rX5_failed_13 r 1 4 = 0 := by
      rw [fl_row h7, jj_une (by decide), jj_une (by decide)]
      exact c1
    rw [if_neg c1, if_neg c2, if_neg c1]
    exact ⟨rfl, fl_at rfl h h7⟩
/-- the Reader is opened over n bytes -/
theorem rd_opn {r r14 : Nat → Int32} {c : Nat → Nat} {n : Nat} (hB : bytesok r14 c) (hn : n ≤ 600) : tk c n (spn isB c n 0) (rX5_open_13 r r14 (nI n)) ∧ rX5_open_13 r r14 (nI n) 7 = 0 ∧ rX5_open_13 r r14 (nI n) 8 = -1 ∧ rX5_open_13 r r14 (nI n) 1 = r 1 := by
  unfold rX5_open_13
  have c6 : ¬ (600 : Int32) < nI n := fun q => absurd ((nI_ltI (a := 600) (by decide) (by omega)).mp q) (by omega)
  rw [if_neg (nI_pos (by omega)), if_neg c6]
  obtain ⟨t, f⟩ := adv_tk (r := upd (upd (upd (upd r 2 (nI n)) 3 0) 7 0) 8 (-1)) (x := 0) hB hn ((jj_une (by decide)).trans ((jj_une (by decide)).trans ((jj_une (by decide)).trans (jj_ueq rfl)))) ((jj_une (by decide)).trans ((jj_une (by decide)).trans (jj_ueq rfl))) (Nat.zero_le _)
  refine ⟨t, ?_, ?_, ?_⟩
  · rw [f 7 (by simp)]; exact (jj_une (by decide)).trans (jj_ueq rfl)
  · rw [f 8 (by simp)]; exact jj_ueq rfl
  · rw [f 1 (by simp)]; exact (jj_une (by decide)).trans ((jj_une (by decide)).trans ((jj_une (by decide)).trans (jj_une (by decide))))
