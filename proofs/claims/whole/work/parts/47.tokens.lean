/-! ===== the Reader's questions, by tokens ===== -/
theorem sb_eq {c x : Nat} (hc : c < 256) (hx : x < 128) : sb c = nI x ↔ c = x := by
  unfold sb
  by_cases h : c < 128
  · rw [if_pos h, nI_eq (by omega) (by omega)]
  · rw [if_neg h]
    refine ⟨fun q => ?_, fun q => absurd q (by omega)⟩
    exfalso
    have q2 : nI c = nI x + 256 := by rw [← q, Int32.sub_add_cancel]
    rw [show (256 : Int32) = nI 256 from rfl, nI_add, nI_eq (by omega) (by omega)] at q2
    omega
theorem nx_le {c : Nat → Nat} {e a : Nat} (ha : a ≤ e) : nx c e a ≤ e := by
  unfold nx
  by_cases h : e ≤ a
  · rw [if_pos h]; exact ha
  · rw [if_neg h]
    split
    · exact spn_le ha
    · split
      · exact spn_le ha
      · omega
theorem spn_gt {P : Nat → Bool} {c : Nat → Nat} {e a : Nat} (h : a < e) (hp : P (c a) = true) : a < spn P c e a := by
  rcases Nat.lt_or_ge a (spn P c e a) with q | q
  · exact q
  · have g := spn_ge (P := P) (c := c) (e := e) (x := a)
    have e1 : spn P c e a = a := by omega
    have h3 := spn_stop (P := P) (c := c) (e := e) (x := a) (by omega)
    rw [e1, hp] at h3
    exact absurd h3 (by decide)
theorem nx_gt {c : Nat → Nat} {e a : Nat} (h : a < e) : a < nx c e a := by
  unfold nx
  rw [if_neg (by omega)]
  by_cases d1 : isD (c a) = true
  · rw [if_pos d1]; exact spn_gt h d1
  · rw [if_neg d1]
    by_cases l1 : isL (c a) = true
    · rw [if_pos l1]; exact spn_gt h l1
    · rw [if_neg l1]; omega
/-- where the next token begins -/
def nt (c : Nat → Nat) (e a : Nat) : Nat := spn isB c e (nx c e a)
theorem nt_le {c : Nat → Nat} {e a : Nat} (ha : a ≤ e) : nt c e a ≤ e := spn_le (nx_le ha)
theorem nt_gt {c : Nat → Nat} {e a : Nat} (h : a < e) : a < nt c e a := Nat.lt_of_lt_of_le (nx_gt h) spn_ge
/-- to the next token -/
theorem tk_adv {r r14 : Nat → Int32} {c : Nat → Nat} {e a : Nat} (hB : bytesok r14 c) (he : e ≤ 600) (h : tk c e a r) : tk c e (nt c e a) (rX5_advance_13 r r14) ∧ (∀ i, i = 0 ∨ i = 1 ∨ i = 7 ∨ i = 8 → rX5_advance_13 r r14 i = r i) :=
  adv_tk hB he h.2.1 h.2.2.1 (nx_le h.1)
theorem tk_ok {r : Nat → Int32} {c : Nat → Nat} {e a : Nat} (he : e ≤ 600) (h : tk c e a r) : rdok r := ⟨e, nx c e a, h.2.1, h.2.2.1, nx_le h.1, he⟩
theorem tk_at {r : Nat → Int32} {c : Nat → Nat} {e a : Nat} (he : e ≤ 600) (h : tk c e a r) : rdat r := ⟨⟨e, h.2.1, he⟩, a, h.2.2.2.1, Nat.le_trans h.1 he⟩
theorem kd_lt {c : Nat → Nat} {e a : Nat} : kd c e a < 4 := by
  unfold kd
  split
  · decide
  · split
    · decide
    · split <;> decide
theorem kd_end {c : Nat → Nat} {e a : Nat} : kd c e a = 0 ↔ e ≤ a := by
  unfold kd
  by_cases h : e ≤ a
  · rw [if_pos h]; exact ⟨fun _ => h, fun _ => rfl⟩
  · rw [if_neg h]
    refine ⟨fun q => ?_, fun q => absurd q h⟩
    revert q
    split
    · exact fun q => absurd q (by decide)
    · split <;> exact fun q => absurd q (by decide)
/-- a FAULT is noted, the first one -/
theorem fl_row {r : Nat → Int32} {w : Int32} (h : r 7 = 0) : rX5_failed_13 r w = upd (upd r 7 w) 8 (r 6) := by
  unfold rX5_failed_13
  rw [if_pos h, jj_une (by decide)]
theorem is_sign {r : Nat → Int32} {c : Nat → Nat} {e a x : Nat} (hx : x < 128) (hc : a < e → c a < 256) (h : tk c e a r) : vX5_isSign r (nI x) = if kd c e a = 3 ∧ c a = x then 1 else 0 := by
  obtain ⟨h1, h2, h3, h4, h5, h6, h7⟩ := h
  unfold vX5_isSign
  rw [h5, show (3 : Int32) = nI 3 from rfl]
  have k4 := kd_lt (c := c) (e := e) (a := a)
  by_cases k : kd c e a = 3
  · have ae : a < e := by
      rcases Nat.lt_or_ge a e with q | q
      · exact q
      · rw [kd_end.mpr q] at k; exact absurd k (by decide)
    rw [if_pos (by rw [k]), h7 k]
    by_cases q : c a = x
    · rw [if_pos ((sb_eq (hc ae) hx).mpr q), if_pos ⟨k, q⟩]
    · rw [if_neg (fun w => q ((sb_eq (hc ae) hx).mp w)), if_neg (fun w => q w.2)]
  · rw [if_neg (fun w => k ((nI_eq (by omega) (by decide)).mp w)), if_neg (fun w => k w.1)]
theorem is_num {r : Nat → Int32} {c : Nat → Nat} {e a x : Nat} (hx : x < 100000) (h : tk c e a r) : vX5_isNumber r (nI x) = if kd c e a = 1 ∧ vl c e a = x then 1 else 0 := by
  obtain ⟨h1, h2, h3, h4, h5, h6, h7⟩ := h
  unfold vX5_isNumber
  rw [h5, show ((1 : Int32) : Int32) = nI 1 from rfl]
  have k4 := kd_lt (c := c) (e := e) (a := a)
  by_cases k : kd c e a = 1
  · rw [if_pos (by rw [k]), h6 k]
    have hv := wnl_le (c := c) (e := e) (a := a)
    have hv2 := vl_wnl (c := c) (e := e) (a := a)
    by_cases q : vl c e a = x
    · rw [if_pos (by rw [show wnl c e a = x by omega]), if_pos ⟨k, q⟩]
    · rw [if_neg (fun w => q (by have := (nI_eq (by omega) (by omega)).mp w; omega)), if_neg (fun w => q w.2)]
  · rw [if_neg (fun w => k ((nI_eq (by omega) (by decide)).mp w)), if_neg (fun w => k w.1)]
/-- letters from p on -/
def wm (c : Nat → Nat) : Nat → List Nat → Bool
  | _, [] => true
  | p, x :: t => (c p == x) && wm c (p + 1) t
def wis (c : Nat → Nat) (e a : Nat) (L : List Nat) : Bool := decide (kd c e a = 2) && (decide (nx c e a - a = L.length) && wm c a L)
def wc (r14 : Nat → Int32) (E A : Int32) : List Nat → Nat → Int32
  | [], _ => 1
  | x :: t, k => if E ≤ A + nI k then 1 else if r14 (A + nI k).toNatClampNeg = nI x then wc r14 E A t (k + 1) else 0
def wchk (r r14 : Nat → Int32) (L : List Nat) : Int32 := if r 4 = 2 then (if r 3 - r 6 = nI L.length then wc r14 (r 2) (r 6) L 0 else 0) else 0
theorem wc_wm {r14 : Nat → Int32} {c : Nat → Nat} {e a : Nat} (hB : bytesok r14 c) (he : e ≤ 600) : ∀ (t : List Nat) (k : Nat), (∀ x ∈ t, x < 128) → a + k + t.length ≤ e → wc r14 (nI e) (nI a) t k = if wm c (a + k) t = true then 1 else 0
  | [], k, _, _ => rfl
  | x :: t, k, hx, hl => by
    rw [List.length_cons] at hl
    rw [wc, nI_add, if_neg (nI_ge (by omega) (by omega)), b_at hB (by omega)]
    have h0 := sb_eq (hB (a + k) (by omega)).2 (hx x List.mem_cons_self)
    by_cases q : c (a + k) = x
    · rw [if_pos (h0.mpr q), wc_wm hB he t (k + 1) (fun y hy => hx y (List.mem_cons_of_mem _ hy)) (by omega)]
      rw [wm, show (c (a + k) == x) = true by rw [q]; exact beq_self_eq_true x, Bool.true_and]
      rfl
    · rw [if_neg (fun w => q (h0.mp w)), wm, show (c (a + k) == x) = false by rw [beq_eq_false_iff_ne]; exact q, Bool.false_and]
      rfl
theorem wd_is {r r14 : Nat → Int32} {c : Nat → Nat} {e a : Nat} {L : List Nat} (hB : bytesok r14 c) (he : e ≤ 600) (hL : ∀ x ∈ L, x < 128) (hl : L.length < 100) (h : tk c e a r) : wchk r r14 L = if wis c e a L = true then 1 else 0 := by
  obtain ⟨h1, h2, h3, h4, h5, h6, h7⟩ := h
  have hn := nx_le (c := c) h1
  have k4 := kd_lt (c := c) (e := e) (a := a)
  unfold wchk wis
  rw [h5, h3, h4, h2, show (2 : Int32) = nI 2 from rfl]
  by_cases k : kd c e a = 2
  · have ae : a < e := by
      rcases Nat.lt_or_ge a e with q | q
      · exact q
      · rw [kd_end.mpr q] at k; exact absurd k (by decide)
    have ng := nx_gt (c := c) ae
    rw [if_pos (by rw [k]), decide_eq_true k, Bool.true_and, jj_nsub (by omega)]
    by_cases q : nx c e a - a = L.length
    · rw [if_pos (by rw [q]), decide_eq_true q, Bool.true_and, wc_wm hB he L 0 hL (by omega), Nat.add_zero]
    · rw [if_neg (fun w => q ((nI_eq (by omega) (by omega)).mp w)), decide_eq_false q, Bool.false_and]
      rfl
  · rw [if_neg (fun w => k ((nI_eq (by omega) (by decide)).mp w)), decide_eq_false k, Bool.false_and]
    rfl
theorem wd_1 {r r14 : Nat → Int32} {c : Nat → Nat} {e a : Nat} (hB : bytesok r14 c) (he : e ≤ 600) (h : tk c e a r) : vX5_isWord_1 r r14 = if wis c e a [112, 101, 114, 115, 111, 110] = true then 1 else 0 := (show vX5_isWord_1 r r14 = wchk r r14 [112, 101, 114, 115, 111, 110] from rfl).trans (wd_is hB he (by decide) (by decide) h)
theorem wd_2 {r r14 : Nat → Int32} {c : Nat → Nat} {e a : Nat} (hB : bytesok r14 c) (he : e ≤ 600) (h : tk c e a r) : vX5_isWord_2 r r14 = if wis c e a [102, 114, 105, 101, 110, 100] = true then 1 else 0 := (show vX5_isWord_2 r r14 = wchk r r14 [102, 114, 105, 101, 110, 100] from rfl).trans (wd_is hB he (by decide) (by decide) h)
theorem wd_3 {r r14 : Nat → Int32} {c : Nat → Nat} {e a : Nat} (hB : bytesok r14 c) (he : e ≤ 600) (h : tk c e a r) : vX5_isWord_3 r r14 = if wis c e a [115, 116, 114, 105, 110, 103] = true then 1 else 0 := (show vX5_isWord_3 r r14 = wchk r r14 [115, 116, 114, 105, 110, 103] from rfl).trans (wd_is hB he (by decide) (by decide) h)
theorem wd_4 {r r14 : Nat → Int32} {c : Nat → Nat} {e a : Nat} (hB : bytesok r14 c) (he : e ≤ 600) (h : tk c e a r) : vX5_isWord_4 r r14 = if wis c e a [102, 105, 110, 103, 101, 114, 115] = true then 1 else 0 := (show vX5_isWord_4 r r14 = wchk r r14 [102, 105, 110, 103, 101, 114, 115] from rfl).trans (wd_is hB he (by decide) (by decide) h)
theorem wd_5 {r r14 : Nat → Int32} {c : Nat → Nat} {e a : Nat} (hB : bytesok r14 c) (he : e ≤ 600) (h : tk c e a r) : vX5_isWord_5 r r14 = if wis c e a [104, 97, 115, 116, 101] = true then 1 else 0 := (show vX5_isWord_5 r r14 = wchk r r14 [104, 97, 115, 116, 101] from rfl).trans (wd_is hB he (by decide) (by decide) h)
theorem wd_6 {r r14 : Nat → Int32} {c : Nat → Nat} {e a : Nat} (hB : bytesok r14 c) (he : e ≤ 600) (h : tk c e a r) : vX5_isWord_6 r r14 = if wis c e a [98, 101, 104, 105, 110, 100] = true then 1 else 0 := (show vX5_isWord_6 r r14 = wchk r r14 [98, 101, 104, 105, 110, 100] from rfl).trans (wd_is hB he (by decide) (by decide) h)
theorem wd_7 {r r14 : Nat → Int32} {c : Nat → Nat} {e a : Nat} (hB : bytesok r14 c) (he : e ≤ 600) (h : tk c e a r) : vX5_isWord_7 r r14 = if wis c e a [100, 111, 117, 98, 108, 101] = true then 1 else 0 := (show vX5_isWord_7 r r14 = wchk r r14 [100, 111, 117, 98, 108, 101] from rfl).trans (wd_is hB he (by decide) (by decide) h)
theorem wd_8 {r r14 : Nat → Int32} {c : Nat → Nat} {e a : Nat} (hB : bytesok r14 c) (he : e ≤ 600) (h : tk c e a r) : vX5_isWord_8 r r14 = if wis c e a [102, 114, 105, 101, 110, 100] = true then 1 else 0 := (show vX5_isWord_8 r r14 = wchk r r14 [102, 114, 105, 101, 110, 100] from rfl).trans (wd_is hB he (by decide) (by decide) h)
theorem wd_9 {r r14 : Nat → Int32} {c : Nat → Nat} {e a : Nat} (hB : bytesok r14 c) (he : e ≤ 600) (h : tk c e a r) : vX5_isWord_9 r r14 = if wis c e a [115, 101, 108, 102] = true then 1 else 0 := (show vX5_isWord_9 r r14 = wchk r r14 [115, 101, 108, 102] from rfl).trans (wd_is hB he (by decide) (by decide) h)
theorem wd_10 {r r14 : Nat → Int32} {c : Nat → Nat} {e a : Nat} (hB : bytesok r14 c) (he : e ≤ 600) (h : tk c e a r) : vX5_isWord_10 r r14 = if wis c e a [115, 108, 105, 112, 115] = true then 1 else 0 := (show vX5_isWord_10 r r14 = wchk r r14 [115, 108, 105, 112, 115] from rfl).trans (wd_is hB he (by decide) (by decide) h)
theorem wd_11 {r r14 : Nat → Int32} {c : Nat → Nat} {e a : Nat} (hB : bytesok r14 c) (he : e ≤ 600) (h : tk c e a r) : vX5_isWord_11 r r14 = if wis c e a [100, 97, 121] = true then 1 else 0 := (show vX5_isWord_11 r r14 = wchk r r14 [100, 97, 121] from rfl).trans (wd_is hB he (by decide) (by decide) h)
theorem wd_12 {r r14 : Nat → Int32} {c : Nat → Nat} {e a : Nat} (hB : bytesok r14 c) (he : e ≤ 600) (h : tk c e a r) : vX5_isWord_12 r r14 = if wis c e a [108, 101, 97, 115, 116] = true then 1 else 0 := (show vX5_isWord_12 r r14 = wchk r r14 [108, 101, 97, 115, 116] from rfl).trans (wd_is hB he (by decide) (by decide) h)
theorem wd_13 {r r14 : Nat → Int32} {c : Nat → Nat} {e a : Nat} (hB : bytesok r14 c) (he : e ≤ 600) (h : tk c e a r) : vX5_isWord_13 r r14 = if wis c e a [109, 111, 115, 116] = true then 1 else 0 := (show vX5_isWord_13 r r14 = wchk r r14 [109, 111, 115, 116] from rfl).trans (wd_is hB he (by decide) (by decide) h)
theorem wd_14 {r r14 : Nat → Int32} {c : Nat → Nat} {e a : Nat} (hB : bytesok r14 c) (he : e ≤ 600) (h : tk c e a r) : vX5_isWord_14 r r14 = if wis c e a [116, 105, 101] = true then 1 else 0 := (show vX5_isWord_14 r r14 = wchk r r14 [116, 105, 101] from rfl).trans (wd_is hB he (by decide) (by decide) h)
theorem wd_15 {r r14 : Nat → Int32} {c : Nat → Nat} {e a : Nat} (hB : bytesok r14 c) (he : e ≤ 600) (h : tk c e a r) : vX5_isWord_15 r r14 = if wis c e a [100, 111, 117, 98, 108, 101] = true then 1 else 0 := (show vX5_isWord_15 r r14 = wchk r r14 [100, 111, 117, 98, 108, 101] from rfl).trans (wd_is hB he (by decide) (by decide) h)
theorem wd_16 {r r14 : Nat → Int32} {c : Nat → Nat} {e a : Nat} (hB : bytesok r14 c) (he : e ≤ 600) (h : tk c e a r) : vX5_isWord_16 r r14 = if wis c e a [99, 117, 116] = true then 1 else 0 := (show vX5_isWord_16 r r14 = wchk r r14 [99, 117, 116] from rfl).trans (wd_is hB he (by decide) (by decide) h)
theorem wd_17 {r r14 : Nat → Int32} {c : Nat → Nat} {e a : Nat} (hB : bytesok r14 c) (he : e ≤ 600) (h : tk c e a r) : vX5_isWord_17 r r14 = if wis c e a [109, 101, 110, 100] = true then 1 else 0 := (show vX5_isWord_17 r r14 = wchk r r14 [109, 101, 110, 100] from rfl).trans (wd_is hB he (by decide) (by decide) h)
theorem wd_18 {r r14 : Nat → Int32} {c : Nat → Nat} {e a : Nat} (hB : bytesok r14 c) (he : e ≤ 600) (h : tk c e a r) : vX5_isWord_18 r r14 = if wis c e a [117, 110, 100, 111] = true then 1 else 0 := (show vX5_isWord_18 r r14 = wchk r r14 [117, 110, 100, 111] from rfl).trans (wd_is hB he (by decide) (by decide) h)
theorem wd_19 {r r14 : Nat → Int32} {c : Nat → Nat} {e a : Nat} (hB : bytesok r14 c) (he : e ≤ 600) (h : tk c e a r) : vX5_isWord_19 r r14 = if wis c e a [100, 97, 121] = true then 1 else 0 := (show vX5_isWord_19 r r14 = wchk r r14 [100, 97, 121] from rfl).trans (wd_is hB he (by decide) (by decide) h)
theorem wd_20 {r r14 : Nat → Int32} {c : Nat → Nat} {e a : Nat} (hB : bytesok r14 c) (he : e ≤ 600) (h : tk c e a r) : vX5_isWord_20 r r14 = if wis c e a [97, 103, 97, 105, 110] = true then 1 else 0 := (show vX5_isWord_20 r r14 = wchk r r14 [97, 103, 97, 105, 110] from rfl).trans (wd_is hB he (by decide) (by decide) h)
