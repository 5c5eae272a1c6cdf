/-! ===== the class reads, whatever it keeps beside ===== -/
def cst (c : Nat → Nat) (e a : Nat) (h : hp_) : Prop := bytesok (h 14) c ∧ tk c e a (h 13) ∧ h 13 7 = 0
def crd (c : Nat → Nat) (e : Nat) (I : Nat → hp_ → Prop) (E : Nat → Nat → hp_ → Prop) : Prop :=
  (∀ a h, I a h → cst c e a h) ∧
  (∀ (a b : Nat) (h : hp_) (r : Nat → Int32), I a h → a ≤ b → rgo (h 13) r c e b → I b (jj_rs h [(13, r)])) ∧
  (∀ (a : Nat) (h : hp_) (r : Nat → Int32) (k p : Nat), I a h → 0 < k → k < 4 → rfl_ (h 13) r k p → E k p (jj_rs h [(13, r)]))
theorem nt_ge {c : Nat → Nat} {e a : Nat} : a ≤ nt c e a := by
  rcases Nat.lt_or_ge a e with q | q
  · exact Nat.le_of_lt (nt_gt q)
  · unfold nt nx
    rw [if_pos q]
    exact spn_ge
section CL
variable {c : Nat → Nat} {e a D kc ks : Nat} {I : Nat → hp_ → Prop} {E : Nat → Nat → hp_ → Prop} {h : hp_} {g : Nat → Nat → Int64} {Q : jj_Rs → jj_St → Prop}
theorem cl_adv (R : crd c e I E) (he : e ≤ 600) (m : I a h) (hD : 1 ≤ D) (k : ∀ h9, I (nt c e a) h9 → Q (.inl none) (jj_S, 782, h9, g)) : jj_R mX5_advance D kc ks (jj_S, 782, h, g) 0 [(0, .ref 13)] [] Q := by
  obtain ⟨d, rfl⟩ : ∃ d, D = d + 1 := ⟨D - 1, by omega⟩
  obtain ⟨hB, ht, hf⟩ := R.1 a h m
  exact sp_X5_advance (tk_ok he ht) (k _ (R.2.1 a _ h _ m nt_ge (go_adv hB he ht)))
theorem cl_num {lim : Nat} {w : Int32} (R : crd c e I E) (he : e ≤ 600) (m : I a h) (hD : 2 ≤ D) (ew : w = nI lim - 1) (hl : lim ≤ 100000) (k1 : ∀ v b h9, pnum c e lim a = .ok (v, b) → v < lim → a < b → I b h9 → Q (.inl (some (.int (nI v)))) (jj_S, 782, h9, g)) (k2 : ∀ k p h9, pnum c e lim a = .error (k, p) → E k p h9 → Q (.inl (some (.int (-1)))) (jj_S, 782, h9, g)) : jj_R mX5_number D kc ks (jj_S, 782, h, g) 0 [(0, .ref 13), (1, .int w)] [] Q := by
  obtain ⟨d, rfl⟩ : ∃ d, D = d + 2 := ⟨D - 2, by omega⟩
  obtain ⟨hB, ht, hf⟩ := R.1 a h m
  refine sp_X5_number (tk_ok he ht) ?_
  obtain ⟨p1, p2⟩ := rd_pn ew hB he hl ht hf
  cases q : pnum c e lim a with
  | error z =>
    obtain ⟨k, p⟩ := z
    have z2 := p2 k p q
    rw [z2.1]
    exact k2 k p _ q (R.2.2 a h _ k p m (pnum_er q).1 (pnum_er q).2 z2.2)
  | ok z =>
    obtain ⟨v, b⟩ := z
    have z2 := p1 v b q
    rw [z2.2.2.2.1]
    exact k1 v b _ q z2.1 z2.2.1 (R.2.1 a b h _ m (Nat.le_of_lt z2.2.1) z2.2.2.2.2)
theorem cl_sign {X : Nat} (R : crd c e I E) (he : e ≤ 600) (hX : X < 128) (m : I a h) (hD : 2 ≤ D) (k1 : ∀ b h9, psign c e X a = .ok b → a < b → I b h9 → Q (.inl (some (.int 1))) (jj_S, 782, h9, g)) (k2 : ∀ k p h9, psign c e X a = .error (k, p) → E k p h9 → Q (.inl (some (.int 0))) (jj_S, 782, h9, g)) : jj_R mX5_passSign D kc ks (jj_S, 782, h, g) 0 [(0, .ref 13), (1, .int (nI X))] [] Q := by
  obtain ⟨d, rfl⟩ : ∃ d, D = d + 2 := ⟨D - 2, by omega⟩
  obtain ⟨hB, ht, hf⟩ := R.1 a h m
  refine sp_X5_passSign (tk_ok he ht) ?_
  obtain ⟨p1, p2⟩ := rd_ps hB he hX ht hf
  cases q : psign c e X a with
  | error z =>
    obtain ⟨k, p⟩ := z
    have z2 := p2 k p q
    rw [z2.1]
    exact k2 k p _ q (R.2.2 a h _ k p m (psign_er q).1 (psign_er q).2 z2.2)
  | ok b =>
    have z2 := p1 b q
    rw [z2.2.2.1]
    exact k1 b _ q z2.1 (R.2.1 a b h _ m (Nat.le_of_lt z2.1) z2.2.2.2)
theorem cl_isS {X : Nat} (R : crd c e I E) (he : e ≤ 600) (hX : X < 128) (m : I a h) (k1 : kd c e a = 3 ∧ c a = X → Q (.inl (some (.int 1))) (jj_S, 782, h, g)) (k2 : ¬ (kd c e a = 3 ∧ c a = X) → Q (.inl (some (.int 0))) (jj_S, 782, h, g)) : jj_R mX5_isSign D kc ks (jj_S, 782, h, g) 0 [(0, .ref 13), (1, .int (nI X))] [] Q := by
  obtain ⟨hB, ht, hf⟩ := R.1 a h m
  refine sp_X5_isSign (d := D) ?_
  rw [is_sign hX (fun q => (hB a (by omega)).2) ht]
  by_cases q : kd c e a = 3 ∧ c a = X
  · rw [if_pos q]; exact k1 q
  · rw [if_neg q]; exact k2 q
theorem cl_isN {X : Nat} (R : crd c e I E) (hX : X < 100000) (m : I a h) (k1 : kd c e a = 1 ∧ vl c e a = X → Q (.inl (some (.int 1))) (jj_S, 782, h, g)) (k2 : ¬ (kd c e a = 1 ∧ vl c e a = X) → Q (.inl (some (.int 0))) (jj_S, 782, h, g)) : jj_R mX5_isNumber D kc ks (jj_S, 782, h, g) 0 [(0, .ref 13), (1, .int (nI X))] [] Q := by
  obtain ⟨hB, ht, hf⟩ := R.1 a h m
  refine sp_X5_isNumber (d := D) ?_
  rw [is_num hX ht]
  by_cases q : kd c e a = 1 ∧ vl c e a = X
  · rw [if_pos q]; exact k1 q
  · rw [if_neg q]; exact k2 q
theorem cl_isW_1 (R : crd c e I E) (he : e ≤ 600) (m : I a h) (hD : 4 ≤ D) (k1 : wis c e a [112, 101, 114, 115, 111, 110] = true → Q (.inl (some (.int 1))) (jj_S, 782, h, g)) (k2 : ¬ wis c e a [112, 101, 114, 115, 111, 110] = true → Q (.inl (some (.int 0))) (jj_S, 782, h, g)) : jj_R mX5_isWord D kc ks (jj_S, 782, h, g) 0 [(0, .ref 13), (1, .ref (1000000 + 1))] [] Q := by
  obtain ⟨d, rfl⟩ : ∃ d, D = d + 4 := ⟨D - 4, by omega⟩
  obtain ⟨hB, ht, hf⟩ := R.1 a h m
  refine sp_X5_isWord_1 (tk_at he ht) ?_
  rw [wd_1 hB he ht]
  by_cases q : wis c e a [112, 101, 114, 115, 111, 110] = true
  · rw [if_pos q]; exact k1 q
  · rw [if_neg q]; exact k2 q
theorem cl_isW_2 (R : crd c e I E) (he : e ≤ 600) (m : I a h) (hD : 4 ≤ D) (k1 : wis c e a [102, 114, 105, 101, 110, 100] = true → Q (.inl (some (.int 1))) (jj_S, 782, h, g)) (k2 : ¬ wis c e a [102, 114, 105, 101, 110, 100] = true → Q (.inl (some (.int 0))) (jj_S, 782, h, g)) : jj_R mX5_isWord D kc ks (jj_S, 782, h, g) 0 [(0, .ref 13), (1, .ref (1000000 + 2))] [] Q := by
  obtain ⟨d, rfl⟩ : ∃ d, D = d + 4 := ⟨D - 4, by omega⟩
  obtain ⟨hB, ht, hf⟩ := R.1 a h m
  refine sp_X5_isWord_2 (tk_at he ht) ?_
  rw [wd_2 hB he ht]
  by_cases q : wis c e a [102, 114, 105, 101, 110, 100] = true
  · rw [if_pos q]; exact k1 q
  · rw [if_neg q]; exact k2 q
theorem cl_isW_3 (R : crd c e I E) (he : e ≤ 600) (m : I a h) (hD : 4 ≤ D) (k1 : wis c e a [115, 116, 114, 105, 110, 103] = true → Q (.inl (some (.int 1))) (jj_S, 782, h, g)) (k2 : ¬ wis c e a [115, 116, 114, 105, 110, 103] = true → Q (.inl (some (.int 0))) (jj_S, 782, h, g)) : jj_R mX5_isWord D kc ks (jj_S, 782, h, g) 0 [(0, .ref 13), (1, .ref (1000000 + 3))] [] Q := by
  obtain ⟨d, rfl⟩ : ∃ d, D = d + 4 := ⟨D - 4, by omega⟩
  obtain ⟨hB, ht, hf⟩ := R.1 a h m
  refine sp_X5_isWord_3 (tk_at he ht) ?_
  rw [wd_3 hB he ht]
  by_cases q : wis c e a [115, 116, 114, 105, 110, 103] = true
  · rw [if_pos q]; exact k1 q
  · rw [if_neg q]; exact k2 q
theorem cl_isW_12 (R : crd c e I E) (he : e ≤ 600) (m : I a h) (hD : 4 ≤ D) (k1 : wis c e a [108, 101, 97, 115, 116] = true → Q (.inl (some (.int 1))) (jj_S, 782, h, g)) (k2 : ¬ wis c e a [108, 101, 97, 115, 116] = true → Q (.inl (some (.int 0))) (jj_S, 782, h, g)) : jj_R mX5_isWord D kc ks (jj_S, 782, h, g) 0 [(0, .ref 13), (1, .ref (1000000 + 12))] [] Q := by
  obtain ⟨d, rfl⟩ : ∃ d, D = d + 4 := ⟨D - 4, by omega⟩
  obtain ⟨hB, ht, hf⟩ := R.1 a h m
  refine sp_X5_isWord_12 (tk_at he ht) ?_
  rw [wd_12 hB he ht]
  by_cases q : wis c e a [108, 101, 97, 115, 116] = true
  · rw [if_pos q]; exact k1 q
  · rw [if_neg q]; exact k2 q
theorem cl_isW_13 (R : crd c e I E) (he : e ≤ 600) (m : I a h) (hD : 4 ≤ D) (k1 : wis c e a [109, 111, 115, 116] = true → Q (.inl (some (.int 1))) (jj_S, 782, h, g)) (k2 : ¬ wis c e a [109, 111, 115, 116] = true → Q (.inl (some (.int 0))) (jj_S, 782, h, g)) : jj_R mX5_isWord D kc ks (jj_S, 782, h, g) 0 [(0, .ref 13), (1, .ref (1000000 + 13))] [] Q := by
  obtain ⟨d, rfl⟩ : ∃ d, D = d + 4 := ⟨D - 4, by omega⟩
  obtain ⟨hB, ht, hf⟩ := R.1 a h m
  refine sp_X5_isWord_13 (tk_at he ht) ?_
  rw [wd_13 hB he ht]
  by_cases q : wis c e a [109, 111, 115, 116] = true
  · rw [if_pos q]; exact k1 q
  · rw [if_neg q]; exact k2 q
theorem cl_fail {K : Nat} {w : Int32} (R : crd c e I E) (m : I a h) (h1 : 0 < K) (h2 : K < 4) (ew : w = nI K) (k : ∀ h9, E K a h9 → Q (.inl (some (.int (-1)))) (jj_S, 782, h9, g)) : jj_R mX5_failed D kc ks (jj_S, 782, h, g) 0 [(0, .ref 13), (1, .int w)] [] Q := by
  obtain ⟨hB, ht, hf⟩ := R.1 a h m
  exact sp_X5_failed (d := D) (k _ (R.2.2 a h _ K a m h1 h2 (fl_at ew ht hf)))
theorem cl_end (R : crd c e I E) (m : I a h) (hD : 1 ≤ D) (k1 : e ≤ a → ∀ h9, I a h9 → Q (.inl (some (.int 1))) (jj_S, 782, h9, g)) (k2 : ¬ e ≤ a → ∀ h9, E 1 a h9 → Q (.inl (some (.int 0))) (jj_S, 782, h9, g)) : jj_R mX5_passEnd D kc ks (jj_S, 782, h, g) 0 [(0, .ref 13)] [] Q := by
  obtain ⟨d, rfl⟩ : ∃ d, D = d + 1 := ⟨D - 1, by omega⟩
  obtain ⟨hB, ht, hf⟩ := R.1 a h m
  refine sp_X5_passEnd ?_
  obtain ⟨p1, p2⟩ := rd_end ht hf
  by_cases q : e ≤ a
  · rw [(p1 q).1, (p1 q).2]
    exact k1 q _ (R.2.1 a a h _ m (Nat.le_refl a) ⟨ht, rfl, rfl, rfl⟩)
  · rw [(p2 q).1]
    exact k2 q _ (R.2.2 a h _ 1 a m (by decide) (by decide) (p2 q).2)
theorem cl_val (R : crd c e I E) (he : e ≤ 600) (m : I a h) (hD : 5 ≤ D) (k : Q (.inl (some (.int (kv c e a)))) (jj_S, 782, h, g)) : jj_R mX4_valueOf D kc ks (jj_S, 782, h, g) 0 [(0, .ref 13)] [] Q := by
  obtain ⟨d, rfl⟩ : ∃ d, D = d + 5 := ⟨D - 5, by omega⟩
  obtain ⟨hB, ht, hf⟩ := R.1 a h m
  refine sp_X4_valueOf (tk_at he ht) ?_
  rw [vl_is hB he ht]
  exact k
theorem cl_kind (R : crd c e I E) (he : e ≤ 600) (m : I a h) (hD : 5 ≤ D) (k : Q (.inl (some (.int (sk c e a)))) (jj_S, 782, h, g)) : jj_R mX8_kindOf D kc ks (jj_S, 782, h, g) 0 [(0, .ref 13)] [] Q := by
  obtain ⟨d, rfl⟩ : ∃ d, D = d + 5 := ⟨D - 5, by omega⟩
  obtain ⟨hB, ht, hf⟩ := R.1 a h m
  refine sp_X8_kindOf (tk_at he ht) ?_
  rw [kn_is hB he ht]
  exact k
end CL
/-! ===== the class reads the LAW ===== -/
def cel (z : Nat × Nat) : Int32 := if z.1 = 0 then nI z.2 else if z.1 = 1 then nI (1000 + z.2) else nI (1999 + z.1)
def pK (x : Nat) : Bool := x == 7 || x == 9
def fC (i : Nat) : Bool := !(i == 1)
theorem fC_1 {i : Nat} (p : fC i = false) : i = 1 := by simpa [fC] using p
def clst (c : Nat → Nat) (e t s : Nat) (L : List (Nat × Nat)) (h0 : hp_) (a : Nat) (h : hp_) : Prop := cst c e a h ∧ h 7 3 = nI L.length ∧ t + L.length ≤ a + s ∧ h 13 8 = h0 13 8 ∧ fr 13 pK fC h0 h ∧ (∀ i, ¬ i = 3 → h 7 i = h0 7 i) ∧ ∀ i z, L[i]? = some z → h 9 i = cel z
def cler (h0 : hp_) (k p : Nat) (h : hp_) : Prop := h 13 7 = nI k ∧ h 13 8 = nI p ∧ (∃ j : Nat, j ≤ 150 ∧ h 7 3 = nI j) ∧ fr 13 pK fC h0 h ∧ (∀ i, ¬ i = 3 → h 7 i = h0 7 i)
theorem clst_R {c : Nat → Nat} {e t : Nat} {L : List (Nat × Nat)} {h0 : hp_} (he : e ≤ 150) : crd c e (clst c e t 0 L h0) (cler h0) := by
  refine ⟨fun a h m => m.1, fun a b h r m hab hr => ?_, fun a h r k p m hk hk2 hr => ?_⟩
  · obtain ⟨⟨m1, m1b, m1c⟩, m2, m3, m4, m5, m6, m7⟩ := m
    obtain ⟨r1, r2, r3, r4⟩ := hr
    exact ⟨⟨m1, r1, r2.trans m1c⟩, m2, by omega, r3.trans m4, fr_tr m5 (fr_put (fun i p => by rw [fC_1 p]; exact r4)), m6, m7⟩
  · obtain ⟨⟨m1, m1b, m1c⟩, m2, m3, m4, m5, m6, m7⟩ := m
    exact ⟨hr.1, hr.2.1, ⟨L.length, by have := m1b.1; omega, m2⟩, fr_tr m5 (fr_put (fun i p => by rw [fC_1 p]; exact hr.2.2)), m6⟩
theorem clst_1 {c : Nat → Nat} {e t : Nat} {L : List (Nat × Nat)} {h0 : hp_} (he : e ≤ 150) : crd c e (fun a h => clst c e t 1 L h0 a h ∧ L.length ≤ 150) (cler h0) := by
  refine ⟨fun a h m => m.1.1, fun a b h r m hab hr => ?_, fun a h r k p m hk hk2 hr => ?_⟩
  · obtain ⟨⟨⟨m1, m1b, m1c⟩, m2, m3, m4, m5, m6, m7⟩, m8⟩ := m
    obtain ⟨r1, r2, r3, r4⟩ := hr
    exact ⟨⟨⟨m1, r1, r2.trans m1c⟩, m2, by omega, r3.trans m4, fr_tr m5 (fr_put (fun i p => by rw [fC_1 p]; exact r4)), m6, m7⟩, m8⟩
  · obtain ⟨⟨⟨m1, m1b, m1c⟩, m2, m3, m4, m5, m6, m7⟩, m8⟩ := m
    exact ⟨hr.1, hr.2.1, ⟨L.length, m8, m2⟩, fr_tr m5 (fr_put (fun i p => by rw [fC_1 p]; exact hr.2.2)), m6⟩
theorem clst_t {c : Nat → Nat} {e t s t2 s2 a : Nat} {L : List (Nat × Nat)} {h0 h : hp_} (m : clst c e t s L h0 a h) (hx : t2 + L.length ≤ a + s2) : clst c e t2 s2 L h0 a h := ⟨m.1, m.2.1, hx, m.2.2.2⟩
section CN
variable {c : Nat → Nat} {e t s a D kc ks : Nat} {L : List (Nat × Nat)} {h0 h : hp_} {g : Nat → Nat → Int64} {Q : jj_Rs → jj_St → Prop}
theorem cl_add {t2 s2 : Nat} {z : Nat × Nat} {v : Int32} (m : clst c e t s L h0 a h) (hb : L.length < 150) (ev : v = cel z) (hx : t2 + (L.length + 1) ≤ a + s2) (k : ∀ h9, clst c e t2 s2 (L ++ [z]) h0 a h9 → Q (.inl none) (jj_S, 782, h9, g)) : jj_R mX4_addCell D kc ks (jj_S, 782, h, g) 0 [(0, .ref 7), (1, .int v)] [] Q := by
  obtain ⟨m1, m2, m3, m4, m5, m6, m7⟩ := m
  refine sp_X4_addCell (d := D) (z := L.length) m2 (by omega) ?_
  have hn : ¬ (150 : Int32) ≤ nI L.length := fun q => absurd ((nI_leI (a := 150) (by decide) (by omega)).mp q) (by omega)
  have e1 : rX4_addCell_7 (h 7) (h 9) L.length v = upd (h 7) 3 (nI (L.length + 1)) := by unfold rX4_addCell_7; rw [if_neg hn, nI_1]
  have e2 : rX4_addCell_9 (h 7) (h 9) L.length v = upd (h 9) L.length v := by unfold rX4_addCell_9; rw [if_neg hn, nI_clamp (by omega)]
  rw [e1, e2]
  have fq : fr 13 pK fC h (jj_rs h [(7, upd (h 7) 3 (nI (L.length + 1))), (9, upd (h 9) L.length v)]) := by
    refine ⟨fun x hx hx2 => ?_, fun i p => rfl⟩
    have h7 : (x == 7) = false := by unfold pK at hx; rw [Bool.or_eq_false_iff] at hx; exact hx.1
    have h9 : (x == 9) = false := by unfold pK at hx; rw [Bool.or_eq_false_iff] at hx; exact hx.2
    simp [jj_rs, List.lookup, h7, h9]
  refine k _ ⟨m1, (jj_ueq rfl).trans (by rw [List.length_append]; rfl), by rw [List.length_append, List.length_singleton]; exact hx, m4, fr_tr m5 fq, fun i hi => (jj_une hi).trans (m6 i hi), fun i w hi => ?_⟩
  show upd (h 9) L.length v i = cel w
  by_cases q : i < L.length
  · rw [List.getElem?_append_left q] at hi
    rw [jj_une (by omega)]
    exact m7 i w hi
  · rw [List.getElem?_append_right (by omega)] at hi
    have hq : i - L.length = 0 := by
      rcases Nat.eq_zero_or_pos (i - L.length) with u | u
      · exact u
      · rw [List.getElem?_eq_none (by rw [List.length_singleton]; omega)] at hi; cases hi
    rw [hq] at hi
    have hz : w = z := by simpa using hi.symm
    rw [jj_ueq (by omega), hz, ev]
theorem cl_adde {kk p : Nat} {v : Int32} (m : cler h0 kk p h) (k : ∀ h9, cler h0 kk p h9 → Q (.inl none) (jj_S, 782, h9, g)) : jj_R mX4_addCell D kc ks (jj_S, 782, h, g) 0 [(0, .ref 7), (1, .int v)] [] Q := by
  obtain ⟨m1, m2, ⟨j, hj, m3⟩, m5, m6⟩ := m
  refine sp_X4_addCell (d := D) (z := j) m3 hj ?_
  refine k _ ⟨m1, m2, ?_, fr_tr m5 ?_, fun i hi => ?_⟩
  · show ∃ j2 : Nat, j2 ≤ 150 ∧ rX4_addCell_7 (h 7) (h 9) j v 3 = nI j2
    unfold rX4_addCell_7
    by_cases q : (150 : Int32) ≤ nI j
    · rw [if_pos q]; exact ⟨j, hj, m3⟩
    · rw [if_neg q, jj_ueq rfl, nI_1]
      have : ¬ 150 ≤ j := fun u => q ((nI_leI (a := 150) (by decide) (by omega)).mpr u)
      exact ⟨j + 1, by omega, rfl⟩
  · refine ⟨fun x hx hx2 => ?_, fun i p => rfl⟩
    have h7 : (x == 7) = false := by unfold pK at hx; rw [Bool.or_eq_false_iff] at hx; exact hx.1
    have h9 : (x == 9) = false := by unfold pK at hx; rw [Bool.or_eq_false_iff] at hx; exact hx.2
    simp [jj_rs, List.lookup, h7, h9]
  · show rX4_addCell_7 (h 7) (h 9) j v i = h0 7 i
    unfold rX4_addCell_7
    split
    · exact m6 i hi
    · rw [jj_une hi]; exact m6 i hi
end CN
theorem kv_w {c : Nat → Nat} {e a : Nat} {L : List Nat} (hw : wis c e a L = true) (h1 : L = [108, 101, 97, 115, 116] ∨ L = [109, 111, 115, 116]) : kv c e a = -1 := by
  have key : ∀ M : List Nat, M.length ≤ 7 → wis c e a M = true → M.length = L.length ∧ M.getD 0 0 = L.getD 0 0 ∨ M = [] := by
    intro M hM h2
    unfold wis at hw h2
    rw [Bool.and_eq_true, Bool.and_eq_true, decide_eq_true_eq, decide_eq_true_eq, wm_iff] at hw h2
    cases M with
    | nil => exact Or.inr rfl
    | cons x M =>
      left
      have hl : (x :: M).length = L.length := h2.2.1.symm.trans hw.2.1
      refine ⟨hl, ?_⟩
      have z1 := h2.2.2 0 (by simp)
      have z2 := hw.2.2 0 (by rw [← hl]; simp)
      exact z1.symm.trans z2
  have no : ∀ M : List Nat, M.length ≤ 7 → ¬ M = [] → ¬ (M.length = 5 ∧ M.getD 0 0 = 108) → ¬ (M.length = 4 ∧ M.getD 0 0 = 109) → ¬ wis c e a M = true := by
    intro M hM h0 n1 n2 h2
    rcases key M hM h2 with q | q
    · rcases h1 with rfl | rfl
      · exact n1 q
      · exact n2 q
    · exact h0 q
  unfold kv
  rw [if_neg (no _ (by decide) (by decide) (by decide) (by decide)), if_neg (no _ (by decide) (by decide) (by decide) (by decide)), if_neg (no _ (by decide) (by decide) (by decide) (by decide)), if_neg (no _ (by decide) (by decide) (by decide) (by decide)), if_neg (no _ (by decide) (by decide) (by decide) (by decide)), if_neg (no _ (by decide) (by decide) (by decide) (by decide)), if_neg (no _ (by decide) (by decide) (by decide) (by decide)), if_neg (no _ (by decide) (by decide) (by decide) (by decide))]
/-- what a reading method of the class owes -/
def cspec (M : jj_Mt) (B : Nat) (ok : Nat → Prop) (par : Nat → pC_) (c : Nat → Nat) (e o : Nat) : Prop := ∀ ⦃D kc ks a t : Nat⦄ ⦃v : Int32⦄ ⦃L0 : List (Nat × Nat)⦄ ⦃h0 h : hp_⦄ ⦃g : Nat → Nat → Int64⦄ ⦃Q : jj_Rs → jj_St → Prop⦄, B ≤ D → v = nI o → ok a → clst c e t 0 L0 h0 a h →
  (∀ L b h9, par a = .ok (L, b) → a < b → clst c e t 0 (L0 ++ L) h0 b h9 → Q (.inl (some (.int 1))) (jj_S, 782, h9, g)) →
  (∀ k p h9, par a = .error (k, p) → cler h0 k p h9 → Q (.inl (some (.int 0))) (jj_S, 782, h9, g)) → jj_R M D kc ks (jj_S, 782, h, g) 0 [(0, .ref 7), (1, .ref 13), (2, .int v)] [] Q
def popn (S : Option (Nat → pC_)) (c : Nat → Nat) (e a : Nat) : pC_ := if wis c e a [108, 101, 97, 115, 116] = true then ppair S c e 7 a else if wis c e a [109, 111, 115, 116] = true then ppair S c e 8 a else ppar S c e a
set_option maxHeartbeats 2000000 in
theorem cs_open {c : Nat → Nat} {e o B : Nat} {S : Option (Nat → pC_)} (he : e ≤ 150) (ho : o ≤ 6) (hN : S = none ↔ o = 6) (hB : 4 ≤ B) (hS : ∀ s, S = some s → cspec mX4_readSum B (fun _ => True) s c e (o + 1)) : cspec mX4_readOpen (B + 1) (fun a => 0 < kd c e a) (popn S c e) c e o := by
  intro D kc ks a t v L0 h0 h g Q hD hv hk m k1 k2
  obtain ⟨d, rfl⟩ : ∃ d, D = d + 5 := ⟨D - 5, by omega⟩
  have he6 : e ≤ 600 := by omega
  have hl0 := m.2.2.1
  have ae := nt_gt (c := c) (kd_in hk)
  refine rr_iload_n 2 rfl rfl dX4_readOpen_0 ?_
  refine rr_bipush 6 rfl dX4_readOpen_1 ?_
  refine rr_icmp_lt dX4_readOpen_3 (fun c1 => ?_) (fun c1 => ?_)
  · skip
    have o6 : ¬ o = 6 := fun q => by
      subst q
      rw [hv] at c1
      exact absurd c1 (by decide)
    obtain ⟨s, rfl⟩ : ∃ s, S = some s := by
      cases S with
      | none => exact absurd (hN.mp rfl) o6
      | some s => exact ⟨s, rfl⟩
    have hs := hS s rfl
    have hv1 : v + 1 = nI (o + 1) := by rw [hv, nI_1]
    refine rr_aload_n 1 rfl rfl dX4_readOpen_14 ?_
    refine rr_ldcS 12 rfl dX4_readOpen_15 ?_
    refine rr_callV (As := [.ref (1000000 + 12)]) (rest := []) (kc2 := 0) (ks2 := 0) dX4_readOpen_17 okX5_isWord lX4_87 lo_13 sh_13 rfl rfl (Nat.le_of_ble_eq_true rfl) (Nat.le_of_ble_eq_true rfl) rfl (by omega) (by simp [jj_rk]) (by simp [jj_rk]) ?_
    refine cl_isW_12 (clst_R he) he6 m (by omega) (fun w1 => ?_) (fun w1 => ?_)
    · skip
      have hp : popn (some s) c e a = ppair (some s) c e 7 a := by unfold popn; rw [if_pos w1]
      rw [hp, pp_some] at k1 k2
      show jj_R _ _ kc ks (jj_S, 782, h, g) 20 [(0, .ref 7), (1, .ref 13), (2, .int v)] [.int 1] Q
      refine rr_istore_n [(0, .ref 7), (1, .ref 13), (2, .int v), (3, .int 1)] dX4_readOpen_20 rfl (by decide) rfl ?_
      refine rr_iload_n 3 rfl rfl dX4_readOpen_21 ?_
      refine rr_if_ne dX4_readOpen_22 (fun _ => ?_) (fun c => absurd c (by decide))
      refine rr_iconst 1 rfl dX4_readOpen_34 ?_
      refine rr_goto dX4_readOpen_35 ?_
      refine rr_istore [(0, .ref 7), (1, .ref 13), (2, .int v), (3, .int 1), (4, .int 1)] dX4_readOpen_39 (by decide) rfl ?_
      refine rr_aload_n 1 rfl rfl dX4_readOpen_41 ?_
      refine rr_callV (As := []) (rest := []) (kc2 := 0) (ks2 := 0) dX4_readOpen_42 okX5_advance lX4_71 lo_13 sh_13 rfl rfl (Nat.le_of_ble_eq_true rfl) (Nat.le_of_ble_eq_true rfl) rfl (by omega) (by simp [jj_rk]) (by simp [jj_rk]) ?_
      refine cl_adv (clst_R he) he6 m (by omega) (fun h m => ?_)
      replace m := clst_t (t2 := t + 1) (s2 := 0) m (by omega)
      show jj_R _ _ kc ks (jj_S, 782, h, g) 45 [(0, .ref 7), (1, .ref 13), (2, .int v), (3, .int 1), (4, .int 1)] [] Q
      refine rr_iload 4 rfl dX4_readOpen_45 ?_
      refine rr_if_ne dX4_readOpen_47 (fun _ => ?_) (fun c => absurd c (by decide))
      refine rr_aload_n 1 rfl rfl dX4_readOpen_76 ?_
      refine rr_bipush 91 rfl dX4_readOpen_77 ?_
      refine rr_callV (As := [.int 91]) (rest := []) (kc2 := 0) (ks2 := 0) dX4_readOpen_79 okX5_passSign lX4_103 lo_13 sh_13 rfl rfl (Nat.le_of_ble_eq_true rfl) (Nat.le_of_ble_eq_true rfl) rfl (by omega) (by simp [jj_rk]) (by simp [jj_rk]) ?_
      refine cl_sign (X := 91) (clst_R he) he6 (by decide) m (by omega) (fun b1 h e1 hb1 m => ?_) (fun k p h e1 m => ?_)
      · skip
        rw [pb_ok e1] at k1 k2
        show jj_R _ _ kc ks (jj_S, 782, h, g) 82 [(0, .ref 7), (1, .ref 13), (2, .int v), (3, .int 1), (4, .int 1)] [.int 1] Q
        refine rr_if_eq dX4_readOpen_82 (fun c => absurd c (by decide)) (fun _ => ?_)
        refine rr_aload_n 0 rfl rfl dX4_readOpen_85 ?_
        refine rr_aload_n 1 rfl rfl dX4_readOpen_86 ?_
        refine rr_iload_n 2 rfl rfl dX4_readOpen_87 ?_
        refine rr_iconst 1 rfl dX4_readOpen_88 ?_
        refine rr_iadd dX4_readOpen_89 ?_
        refine rr_callV (As := [.ref 13, .int (v + 1)]) (rest := []) (kc2 := 0) (ks2 := 0) dX4_readOpen_90 okX4_readSum lX4_48 lo_7 sh_7 rfl rfl (Nat.le_of_ble_eq_true rfl) (Nat.le_of_ble_eq_true rfl) rfl (by omega) (by simp [jj_rk]) (by simp [jj_rk]) ?_
        refine hs (by omega) hv1 trivial m (fun L1 b2 h e1 hb2 m => ?_) (fun k p h e1 m => ?_)
        · skip
          rw [pb_ok e1] at k1 k2
          show jj_R _ _ kc ks (jj_S, 782, h, g) 93 [(0, .ref 7), (1, .ref 13), (2, .int v), (3, .int 1), (4, .int 1)] [.int 1] Q
          refine rr_if_eq dX4_readOpen_93 (fun c => absurd c (by decide)) (fun _ => ?_)
          refine rr_aload_n 1 rfl rfl dX4_readOpen_96 ?_
          refine rr_bipush 44 rfl dX4_readOpen_97 ?_
          refine rr_callV (As := [.int 44]) (rest := []) (kc2 := 0) (ks2 := 0) dX4_readOpen_99 okX5_passSign lX4_103 lo_13 sh_13 rfl rfl (Nat.le_of_ble_eq_true rfl) (Nat.le_of_ble_eq_true rfl) rfl (by omega) (by simp [jj_rk]) (by simp [jj_rk]) ?_
          refine cl_sign (X := 44) (clst_R he) he6 (by decide) m (by omega) (fun b3 h e1 hb3 m => ?_) (fun k p h e1 m => ?_)
          · skip
            rw [pb_ok e1] at k1 k2
            show jj_R _ _ kc ks (jj_S, 782, h, g) 102 [(0, .ref 7), (1, .ref 13), (2, .int v), (3, .int 1), (4, .int 1)] [.int 1] Q
            refine rr_if_eq dX4_readOpen_102 (fun c => absurd c (by decide)) (fun _ => ?_)
            refine rr_aload_n 0 rfl rfl dX4_readOpen_105 ?_
            refine rr_aload_n 1 rfl rfl dX4_readOpen_106 ?_
            refine rr_iload_n 2 rfl rfl dX4_readOpen_107 ?_
            refine rr_iconst 1 rfl dX4_readOpen_108 ?_
            refine rr_iadd dX4_readOpen_109 ?_
            refine rr_callV (As := [.ref 13, .int (v + 1)]) (rest := []) (kc2 := 0) (ks2 := 0) dX4_readOpen_110 okX4_readSum lX4_48 lo_7 sh_7 rfl rfl (Nat.le_of_ble_eq_true rfl) (Nat.le_of_ble_eq_true rfl) rfl (by omega) (by simp [jj_rk]) (by simp [jj_rk]) ?_
            refine hs (by omega) hv1 trivial m (fun L2 b4 h e1 hb4 m => ?_) (fun k p h e1 m => ?_)
            · skip
              rw [pb_ok e1] at k1 k2
              show jj_R _ _ kc ks (jj_S, 782, h, g) 113 [(0, .ref 7), (1, .ref 13), (2, .int v), (3, .int 1), (4, .int 1)] [.int 1] Q
              refine rr_if_eq dX4_readOpen_113 (fun c => absurd c (by decide)) (fun _ => ?_)
              refine rr_aload_n 1 rfl rfl dX4_readOpen_116 ?_
              refine rr_bipush 93 rfl dX4_readOpen_117 ?_
              refine rr_callV (As := [.int 93]) (rest := []) (kc2 := 0) (ks2 := 0) dX4_readOpen_119 okX5_passSign lX4_103 lo_13 sh_13 rfl rfl (Nat.le_of_ble_eq_true rfl) (Nat.le_of_ble_eq_true rfl) rfl (by omega) (by simp [jj_rk]) (by simp [jj_rk]) ?_
              refine cl_sign (X := 93) (clst_R he) he6 (by decide) m (by omega) (fun b5 h e1 hb5 m => ?_) (fun k p h e1 m => ?_)
              · skip
                rw [pb_ok e1] at k1 k2
                show jj_R _ _ kc ks (jj_S, 782, h, g) 122 [(0, .ref 7), (1, .ref 13), (2, .int v), (3, .int 1), (4, .int 1)] [.int 1] Q
                refine rr_if_eq dX4_readOpen_122 (fun c => absurd c (by decide)) (fun _ => ?_)
                refine rr_iconst 1 rfl dX4_readOpen_125 ?_
                refine rr_goto dX4_readOpen_126 ?_
                refine rr_istore [(0, .ref 7), (1, .ref 13), (2, .int v), (3, .int 1), (4, .int 1), (5, .int 1)] dX4_readOpen_130 (by decide) rfl ?_
                refine rr_aload_n 0 rfl rfl dX4_readOpen_132 ?_
                refine rr_iload_n 3 rfl rfl dX4_readOpen_133 ?_
                refine rr_if_eq dX4_readOpen_134 (fun c => absurd c (by decide)) (fun _ => ?_)
                refine rr_sipush 2006 rfl dX4_readOpen_137 ?_
                refine rr_goto dX4_readOpen_140 ?_
                refine rr_callV (As := [.int 2006]) (rest := []) (kc2 := 0) (ks2 := 0) dX4_readOpen_146 okX4_addCell lX4_74 lo_7 sh_7 rfl rfl (Nat.le_of_ble_eq_true rfl) (Nat.le_of_ble_eq_true rfl) rfl (by omega) (by simp [jj_rk]) (by simp [jj_rk]) ?_
                have hl5 := m.2.2.1
                have ht5 := m.1.2.1.1
                refine cl_add (t2 := t) (s2 := 0) (z := (7, 0)) m (by omega) rfl (by omega) (fun h m => ?_)
                show jj_R _ _ kc ks (jj_S, 782, h, g) 149 [(0, .ref 7), (1, .ref 13), (2, .int v), (3, .int 1), (4, .int 1), (5, .int 1)] [] Q
                refine rr_iload 5 rfl dX4_readOpen_149 ?_
                refine rr_nreturn dX4_readOpen_151 rfl (by first | rfl | assumption) ?_
                refine k1 _ b5 _ rfl (by omega) ?_
                simpa only [List.append_assoc] using m
              · skip
                rw [pb_er e1] at k2
                show jj_R _ _ kc ks (jj_S, 782, h, g) 122 [(0, .ref 7), (1, .ref 13), (2, .int v), (3, .int 1), (4, .int 1)] [.int 0] Q
                refine rr_if_eq dX4_readOpen_122 (fun _ => ?_) (fun c => absurd (by decide) c)
                refine rr_iconst 0 rfl dX4_readOpen_129 ?_
                refine rr_istore [(0, .ref 7), (1, .ref 13), (2, .int v), (3, .int 1), (4, .int 1), (5, .int 0)] dX4_readOpen_130 (by decide) rfl ?_
                refine rr_aload_n 0 rfl rfl dX4_readOpen_132 ?_
                refine rr_iload_n 3 rfl rfl dX4_readOpen_133 ?_
                refine rr_if_eq dX4_readOpen_134 (fun c => absurd c (by decide)) (fun _ => ?_)
                refine rr_sipush 2006 rfl dX4_readOpen_137 ?_
                refine rr_goto dX4_readOpen_140 ?_
                refine rr_callV (As := [.int 2006]) (rest := []) (kc2 := 0) (ks2 := 0) dX4_readOpen_146 okX4_addCell lX4_74 lo_7 sh_7 rfl rfl (Nat.le_of_ble_eq_true rfl) (Nat.le_of_ble_eq_true rfl) rfl (by omega) (by simp [jj_rk]) (by simp [jj_rk]) ?_
                refine cl_adde m (fun h m => ?_)
                show jj_R _ _ kc ks (jj_S, 782, h, g) 149 [(0, .ref 7), (1, .ref 13), (2, .int v), (3, .int 1), (4, .int 1), (5, .int 0)] [] Q
                refine rr_iload 5 rfl dX4_readOpen_149 ?_
                refine rr_nreturn dX4_readOpen_151 rfl (by first | rfl | assumption) ?_
                exact k2 k p _ rfl m
            · skip
              rw [pb_er e1] at k2
              show jj_R _ _ kc ks (jj_S, 782, h, g) 113 [(0, .ref 7), (1, .ref 13), (2, .int v), (3, .int 1), (4, .int 1)] [.int 0] Q
              refine rr_if_eq dX4_readOpen_113 (fun _ => ?_) (fun c => absurd (by decide) c)
              refine rr_iconst 0 rfl dX4_readOpen_129 ?_
              refine rr_istore [(0, .ref 7), (1, .ref 13), (2, .int v), (3, .int 1), (4, .int 1), (5, .int 0)] dX4_readOpen_130 (by decide) rfl ?_
              refine rr_aload_n 0 rfl rfl dX4_readOpen_132 ?_
              refine rr_iload_n 3 rfl rfl dX4_readOpen_133 ?_
              refine rr_if_eq dX4_readOpen_134 (fun c => absurd c (by decide)) (fun _ => ?_)
              refine rr_sipush 2006 rfl dX4_readOpen_137 ?_
              refine rr_goto dX4_readOpen_140 ?_
              refine rr_callV (As := [.int 2006]) (rest := []) (kc2 := 0) (ks2 := 0) dX4_readOpen_146 okX4_addCell lX4_74 lo_7 sh_7 rfl rfl (Nat.le_of_ble_eq_true rfl) (Nat.le_of_ble_eq_true rfl) rfl (by omega) (by simp [jj_rk]) (by simp [jj_rk]) ?_
              refine cl_adde m (fun h m => ?_)
              show jj_R _ _ kc ks (jj_S, 782, h, g) 149 [(0, .ref 7), (1, .ref 13), (2, .int v), (3, .int 1), (4, .int 1), (5, .int 0)] [] Q
              refine rr_iload 5 rfl dX4_readOpen_149 ?_
              refine rr_nreturn dX4_readOpen_151 rfl (by first | rfl | assumption) ?_
              exact k2 k p _ rfl m
          · skip
            rw [pb_er e1] at k2
            show jj_R _ _ kc ks (jj_S, 782, h, g) 102 [(0, .ref 7), (1, .ref 13), (2, .int v), (3, .int 1), (4, .int 1)] [.int 0] Q
            refine rr_if_eq dX4_readOpen_102 (fun _ => ?_) (fun c => absurd (by decide) c)
            refine rr_iconst 0 rfl dX4_readOpen_129 ?_
            refine rr_istore [(0, .ref 7), (1, .ref 13), (2, .int v), (3, .int 1), (4, .int 1), (5, .int 0)] dX4_readOpen_130 (by decide) rfl ?_
            refine rr_aload_n 0 rfl rfl dX4_readOpen_132 ?_
            refine rr_iload_n 3 rfl rfl dX4_readOpen_133 ?_
            refine rr_if_eq dX4_readOpen_134 (fun c => absurd c (by decide)) (fun _ => ?_)
            refine rr_sipush 2006 rfl dX4_readOpen_137 ?_
            refine rr_goto dX4_readOpen_140 ?_
            refine rr_callV (As := [.int 2006]) (rest := []) (kc2 := 0) (ks2 := 0) dX4_readOpen_146 okX4_addCell lX4_74 lo_7 sh_7 rfl rfl (Nat.le_of_ble_eq_true rfl) (Nat.le_of_ble_eq_true rfl) rfl (by omega) (by simp [jj_rk]) (by simp [jj_rk]) ?_
            refine cl_adde m (fun h m => ?_)
            show jj_R _ _ kc ks (jj_S, 782, h, g) 149 [(0, .ref 7), (1, .ref 13), (2, .int v), (3, .int 1), (4, .int 1), (5, .int 0)] [] Q
            refine rr_iload 5 rfl dX4_readOpen_149 ?_
            refine rr_nreturn dX4_readOpen_151 rfl (by first | rfl | assumption) ?_
            exact k2 k p _ rfl m
        · skip
          rw [pb_er e1] at k2
          show jj_R _ _ kc ks (jj_S, 782, h, g) 93 [(0, .ref 7), (1, .ref 13), (2, .int v), (3, .int 1), (4, .int 1)] [.int 0] Q
          refine rr_if_eq dX4_readOpen_93 (fun _ => ?_) (fun c => absurd (by decide) c)
          refine rr_iconst 0 rfl dX4_readOpen_129 ?_
          refine rr_istore [(0, .ref 7), (1, .ref 13), (2, .int v), (3, .int 1), (4, .int 1), (5, .int 0)] dX4_readOpen_130 (by decide) rfl ?_
          refine rr_aload_n 0 rfl rfl dX4_readOpen_132 ?_
          refine rr_iload_n 3 rfl rfl dX4_readOpen_133 ?_
          refine rr_if_eq dX4_readOpen_134 (fun c => absurd c (by decide)) (fun _ => ?_)
          refine rr_sipush 2006 rfl dX4_readOpen_137 ?_
          refine rr_goto dX4_readOpen_140 ?_
          refine rr_callV (As := [.int 2006]) (rest := []) (kc2 := 0) (ks2 := 0) dX4_readOpen_146 okX4_addCell lX4_74 lo_7 sh_7 rfl rfl (Nat.le_of_ble_eq_true rfl) (Nat.le_of_ble_eq_true rfl) rfl (by omega) (by simp [jj_rk]) (by simp [jj_rk]) ?_
          refine cl_adde m (fun h m => ?_)
          show jj_R _ _ kc ks (jj_S, 782, h, g) 149 [(0, .ref 7), (1, .ref 13), (2, .int v), (3, .int 1), (4, .int 1), (5, .int 0)] [] Q
          refine rr_iload 5 rfl dX4_readOpen_149 ?_
          refine rr_nreturn dX4_readOpen_151 rfl (by first | rfl | assumption) ?_
          exact k2 k p _ rfl m
      · skip
        rw [pb_er e1] at k2
        show jj_R _ _ kc ks (jj_S, 782, h, g) 82 [(0, .ref 7), (1, .ref 13), (2, .int v), (3, .int 1), (4, .int 1)] [.int 0] Q
        refine rr_if_eq dX4_readOpen_82 (fun _ => ?_) (fun c => absurd (by decide) c)
        refine rr_iconst 0 rfl dX4_readOpen_129 ?_
        refine rr_istore [(0, .ref 7), (1, .ref 13), (2, .int v), (3, .int 1), (4, .int 1), (5, .int 0)] dX4_readOpen_130 (by decide) rfl ?_
        refine rr_aload_n 0 rfl rfl dX4_readOpen_132 ?_
        refine rr_iload_n 3 rfl rfl dX4_readOpen_133 ?_
        refine rr_if_eq dX4_readOpen_134 (fun c => absurd c (by decide)) (fun _ => ?_)
        refine rr_sipush 2006 rfl dX4_readOpen_137 ?_
        refine rr_goto dX4_readOpen_140 ?_
        refine rr_callV (As := [.int 2006]) (rest := []) (kc2 := 0) (ks2 := 0) dX4_readOpen_146 okX4_addCell lX4_74 lo_7 sh_7 rfl rfl (Nat.le_of_ble_eq_true rfl) (Nat.le_of_ble_eq_true rfl) rfl (by omega) (by simp [jj_rk]) (by simp [jj_rk]) ?_
        refine cl_adde m (fun h m => ?_)
        show jj_R _ _ kc ks (jj_S, 782, h, g) 149 [(0, .ref 7), (1, .ref 13), (2, .int v), (3, .int 1), (4, .int 1), (5, .int 0)] [] Q
        refine rr_iload 5 rfl dX4_readOpen_149 ?_
        refine rr_nreturn dX4_readOpen_151 rfl (by first | rfl | assumption) ?_
        exact k2 k p _ rfl m
    · skip
      show jj_R _ _ kc ks (jj_S, 782, h, g) 20 [(0, .ref 7), (1, .ref 13), (2, .int v)] [.int 0] Q
      refine rr_istore_n [(0, .ref 7), (1, .ref 13), (2, .int v), (3, .int 0)] dX4_readOpen_20 rfl (by decide) rfl ?_
      refine rr_iload_n 3 rfl rfl dX4_readOpen_21 ?_
      refine rr_if_ne dX4_readOpen_22 (fun c => absurd c (by decide)) (fun _ => ?_)
      refine rr_aload_n 1 rfl rfl dX4_readOpen_25 ?_
      refine rr_ldcS 13 rfl dX4_readOpen_26 ?_
      refine rr_callV (As := [.ref (1000000 + 13)]) (rest := []) (kc2 := 0) (ks2 := 0) dX4_readOpen_28 okX5_isWord lX4_87 lo_13 sh_13 rfl rfl (Nat.le_of_ble_eq_true rfl) (Nat.le_of_ble_eq_true rfl) rfl (by omega) (by simp [jj_rk]) (by simp [jj_rk]) ?_
      refine cl_isW_13 (clst_R he) he6 m (by omega) (fun w2 => ?_) (fun w2 => ?_)
      · skip
        have hp : popn (some s) c e a = ppair (some s) c e 8 a := by unfold popn; rw [if_neg w1, if_pos w2]
        rw [hp, pp_some] at k1 k2
        show jj_R _ _ kc ks (jj_S, 782, h, g) 31 [(0, .ref 7), (1, .ref 13), (2, .int v), (3, .int 0)] [.int 1] Q
        refine rr_if_eq dX4_readOpen_31 (fun c => absurd c (by decide)) (fun _ => ?_)
        refine rr_iconst 1 rfl dX4_readOpen_34 ?_
        refine rr_goto dX4_readOpen_35 ?_
        refine rr_istore [(0, .ref 7), (1, .ref 13), (2, .int v), (3, .int 0), (4, .int 1)] dX4_readOpen_39 (by decide) rfl ?_
        refine rr_aload_n 1 rfl rfl dX4_readOpen_41 ?_
        refine rr_callV (As := []) (rest := []) (kc2 := 0) (ks2 := 0) dX4_readOpen_42 okX5_advance lX4_71 lo_13 sh_13 rfl rfl (Nat.le_of_ble_eq_true rfl) (Nat.le_of_ble_eq_true rfl) rfl (by omega) (by simp [jj_rk]) (by simp [jj_rk]) ?_
        refine cl_adv (clst_R he) he6 m (by omega) (fun h m => ?_)
        replace m := clst_t (t2 := t + 1) (s2 := 0) m (by omega)
        show jj_R _ _ kc ks (jj_S, 782, h, g) 45 [(0, .ref 7), (1, .ref 13), (2, .int v), (3, .int 0), (4, .int 1)] [] Q
        refine rr_iload 4 rfl dX4_readOpen_45 ?_
        refine rr_if_ne dX4_readOpen_47 (fun _ => ?_) (fun c => absurd c (by decide))
        refine rr_aload_n 1 rfl rfl dX4_readOpen_76 ?_
        refine rr_bipush 91 rfl dX4_readOpen_77 ?_
        refine rr_callV (As := [.int 91]) (rest := []) (kc2 := 0) (ks2 := 0) dX4_readOpen_79 okX5_passSign lX4_103 lo_13 sh_13 rfl rfl (Nat.le_of_ble_eq_true rfl) (Nat.le_of_ble_eq_true rfl) rfl (by omega) (by simp [jj_rk]) (by simp [jj_rk]) ?_
        refine cl_sign (X := 91) (clst_R he) he6 (by decide) m (by omega) (fun b1 h e1 hb1 m => ?_) (fun k p h e1 m => ?_)
        · skip
          rw [pb_ok e1] at k1 k2
          show jj_R _ _ kc ks (jj_S, 782, h, g) 82 [(0, .ref 7), (1, .ref 13), (2, .int v), (3, .int 0), (4, .int 1)] [.int 1] Q
          refine rr_if_eq dX4_readOpen_82 (fun c => absurd c (by decide)) (fun _ => ?_)
          refine rr_aload_n 0 rfl rfl dX4_readOpen_85 ?_
          refine rr_aload_n 1 rfl rfl dX4_readOpen_86 ?_
          refine rr_iload_n 2 rfl rfl dX4_readOpen_87 ?_
          refine rr_iconst 1 rfl dX4_readOpen_88 ?_
          refine rr_iadd dX4_readOpen_89 ?_
          refine rr_callV (As := [.ref 13, .int (v + 1)]) (rest := []) (kc2 := 0) (ks2 := 0) dX4_readOpen_90 okX4_readSum lX4_48 lo_7 sh_7 rfl rfl (Nat.le_of_ble_eq_true rfl) (Nat.le_of_ble_eq_true rfl) rfl (by omega) (by simp [jj_rk]) (by simp [jj_rk]) ?_
          refine hs (by omega) hv1 trivial m (fun L1 b2 h e1 hb2 m => ?_) (fun k p h e1 m => ?_)
          · skip
            rw [pb_ok e1] at k1 k2
            show jj_R _ _ kc ks (jj_S, 782, h, g) 93 [(0, .ref 7), (1, .ref 13), (2, .int v), (3, .int 0), (4, .int 1)] [.int 1] Q
            refine rr_if_eq dX4_readOpen_93 (fun c => absurd c (by decide)) (fun _ => ?_)
            refine rr_aload_n 1 rfl rfl dX4_readOpen_96 ?_
            refine rr_bipush 44 rfl dX4_readOpen_97 ?_
            refine rr_callV (As := [.int 44]) (rest := []) (kc2 := 0) (ks2 := 0) dX4_readOpen_99 okX5_passSign lX4_103 lo_13 sh_13 rfl rfl (Nat.le_of_ble_eq_true rfl) (Nat.le_of_ble_eq_true rfl) rfl (by omega) (by simp [jj_rk]) (by simp [jj_rk]) ?_
            refine cl_sign (X := 44) (clst_R he) he6 (by decide) m (by omega) (fun b3 h e1 hb3 m => ?_) (fun k p h e1 m => ?_)
            · skip
              rw [pb_ok e1] at k1 k2
              show jj_R _ _ kc ks (jj_S, 782, h, g) 102 [(0, .ref 7), (1, .ref 13), (2, .int v), (3, .int 0), (4, .int 1)] [.int 1] Q
              refine rr_if_eq dX4_readOpen_102 (fun c => absurd c (by decide)) (fun _ => ?_)
              refine rr_aload_n 0 rfl rfl dX4_readOpen_105 ?_
              refine rr_aload_n 1 rfl rfl dX4_readOpen_106 ?_
              refine rr_iload_n 2 rfl rfl dX4_readOpen_107 ?_
              refine rr_iconst 1 rfl dX4_readOpen_108 ?_
              refine rr_iadd dX4_readOpen_109 ?_
              refine rr_callV (As := [.ref 13, .int (v + 1)]) (rest := []) (kc2 := 0) (ks2 := 0) dX4_readOpen_110 okX4_readSum lX4_48 lo_7 sh_7 rfl rfl (Nat.le_of_ble_eq_true rfl) (Nat.le_of_ble_eq_true rfl) rfl (by omega) (by simp [jj_rk]) (by simp [jj_rk]) ?_
              refine hs (by omega) hv1 trivial m (fun L2 b4 h e1 hb4 m => ?_) (fun k p h e1 m => ?_)
              · skip
                rw [pb_ok e1] at k1 k2
                show jj_R _ _ kc ks (jj_S, 782, h, g) 113 [(0, .ref 7), (1, .ref 13), (2, .int v), (3, .int 0), (4, .int 1)] [.int 1] Q
                refine rr_if_eq dX4_readOpen_113 (fun c => absurd c (by decide)) (fun _ => ?_)
                refine rr_aload_n 1 rfl rfl dX4_readOpen_116 ?_
                refine rr_bipush 93 rfl dX4_readOpen_117 ?_
                refine rr_callV (As := [.int 93]) (rest := []) (kc2 := 0) (ks2 := 0) dX4_readOpen_119 okX5_passSign lX4_103 lo_13 sh_13 rfl rfl (Nat.le_of_ble_eq_true rfl) (Nat.le_of_ble_eq_true rfl) rfl (by omega) (by simp [jj_rk]) (by simp [jj_rk]) ?_
                refine cl_sign (X := 93) (clst_R he) he6 (by decide) m (by omega) (fun b5 h e1 hb5 m => ?_) (fun k p h e1 m => ?_)
                · skip
                  rw [pb_ok e1] at k1 k2
                  show jj_R _ _ kc ks (jj_S, 782, h, g) 122 [(0, .ref 7), (1, .ref 13), (2, .int v), (3, .int 0), (4, .int 1)] [.int 1] Q
                  refine rr_if_eq dX4_readOpen_122 (fun c => absurd c (by decide)) (fun _ => ?_)
                  refine rr_iconst 1 rfl dX4_readOpen_125 ?_
                  refine rr_goto dX4_readOpen_126 ?_
                  refine rr_istore [(0, .ref 7), (1, .ref 13), (2, .int v), (3, .int 0), (4, .int 1), (5, .int 1)] dX4_readOpen_130 (by decide) rfl ?_
                  refine rr_aload_n 0 rfl rfl dX4_readOpen_132 ?_
                  refine rr_iload_n 3 rfl rfl dX4_readOpen_133 ?_
                  refine rr_if_eq dX4_readOpen_134 (fun _ => ?_) (fun c => absurd (by decide) c)
                  refine rr_sipush 2007 rfl dX4_readOpen_143 ?_
                  refine rr_callV (As := [.int 2007]) (rest := []) (kc2 := 0) (ks2 := 0) dX4_readOpen_146 okX4_addCell lX4_74 lo_7 sh_7 rfl rfl (Nat.le_of_ble_eq_true rfl) (Nat.le_of_ble_eq_true rfl) rfl (by omega) (by simp [jj_rk]) (by simp [jj_rk]) ?_
                  have hl5 := m.2.2.1
                  have ht5 := m.1.2.1.1
                  refine cl_add (t2 := t) (s2 := 0) (z := (8, 0)) m (by omega) rfl (by omega) (fun h m => ?_)
                  show jj_R _ _ kc ks (jj_S, 782, h, g) 149 [(0, .ref 7), (1, .ref 13), (2, .int v), (3, .int 0), (4, .int 1), (5, .int 1)] [] Q
                  refine rr_iload 5 rfl dX4_readOpen_149 ?_
                  refine rr_nreturn dX4_readOpen_151 rfl (by first | rfl | assumption) ?_
                  refine k1 _ b5 _ rfl (by omega) ?_
                  simpa only [List.append_assoc] using m
                · skip
                  rw [pb_er e1] at k2
                  show jj_R _ _ kc ks (jj_S, 782, h, g) 122 [(0, .ref 7), (1, .ref 13), (2, .int v), (3, .int 0), (4, .int 1)] [.int 0] Q
                  refine rr_if_eq dX4_readOpen_122 (fun _ => ?_) (fun c => absurd (by decide) c)
                  refine rr_iconst 0 rfl dX4_readOpen_129 ?_
                  refine rr_istore [(0, .ref 7), (1, .ref 13), (2, .int v), (3, .int 0), (4, .int 1), (5, .int 0)] dX4_readOpen_130 (by decide) rfl ?_
                  refine rr_aload_n 0 rfl rfl dX4_readOpen_132 ?_
                  refine rr_iload_n 3 rfl rfl dX4_readOpen_133 ?_
                  refine rr_if_eq dX4_readOpen_134 (fun _ => ?_) (fun c => absurd (by decide) c)
                  refine rr_sipush 2007 rfl dX4_readOpen_143 ?_
                  refine rr_callV (As := [.int 2007]) (rest := []) (kc2 := 0) (ks2 := 0) dX4_readOpen_146 okX4_addCell lX4_74 lo_7 sh_7 rfl rfl (Nat.le_of_ble_eq_true rfl) (Nat.le_of_ble_eq_true rfl) rfl (by omega) (by simp [jj_rk]) (by simp [jj_rk]) ?_
                  refine cl_adde m (fun h m => ?_)
                  show jj_R _ _ kc ks (jj_S, 782, h, g) 149 [(0, .ref 7), (1, .ref 13), (2, .int v), (3, .int 0), (4, .int 1), (5, .int 0)] [] Q
                  refine rr_iload 5 rfl dX4_readOpen_149 ?_
                  refine rr_nreturn dX4_readOpen_151 rfl (by first | rfl | assumption) ?_
                  exact k2 k p _ rfl m
              · skip
                rw [pb_er e1] at k2
                show jj_R _ _ kc ks (jj_S, 782, h, g) 113 [(0, .ref 7), (1, .ref 13), (2, .int v), (3, .int 0), (4, .int 1)] [.int 0] Q
                refine rr_if_eq dX4_readOpen_113 (fun _ => ?_) (fun c => absurd (by decide) c)
                refine rr_iconst 0 rfl dX4_readOpen_129 ?_
                refine rr_istore [(0, .ref 7), (1, .ref 13), (2, .int v), (3, .int 0), (4, .int 1), (5, .int 0)] dX4_readOpen_130 (by decide) rfl ?_
                refine rr_aload_n 0 rfl rfl dX4_readOpen_132 ?_
                refine rr_iload_n 3 rfl rfl dX4_readOpen_133 ?_
                refine rr_if_eq dX4_readOpen_134 (fun _ => ?_) (fun c => absurd (by decide) c)
                refine rr_sipush 2007 rfl dX4_readOpen_143 ?_
                refine rr_callV (As := [.int 2007]) (rest := []) (kc2 := 0) (ks2 := 0) dX4_readOpen_146 okX4_addCell lX4_74 lo_7 sh_7 rfl rfl (Nat.le_of_ble_eq_true rfl) (Nat.le_of_ble_eq_true rfl) rfl (by omega) (by simp [jj_rk]) (by simp [jj_rk]) ?_
                refine cl_adde m (fun h m => ?_)
                show jj_R _ _ kc ks (jj_S, 782, h, g) 149 [(0, .ref 7), (1, .ref 13), (2, .int v), (3, .int 0), (4, .int 1), (5, .int 0)] [] Q
                refine rr_iload 5 rfl dX4_readOpen_149 ?_
                refine rr_nreturn dX4_readOpen_151 rfl (by first | rfl | assumption) ?_
                exact k2 k p _ rfl m
            · skip
              rw [pb_er e1] at k2
              show jj_R _ _ kc ks (jj_S, 782, h, g) 102 [(0, .ref 7), (1, .ref 13), (2, .int v), (3, .int 0), (4, .int 1)] [.int 0] Q
              refine rr_if_eq dX4_readOpen_102 (fun _ => ?_) (fun c => absurd (by decide) c)
              refine rr_iconst 0 rfl dX4_readOpen_129 ?_
              refine rr_istore [(0, .ref 7), (1, .ref 13), (2, .int v), (3, .int 0), (4, .int 1), (5, .int 0)] dX4_readOpen_130 (by decide) rfl ?_
              refine rr_aload_n 0 rfl rfl dX4_readOpen_132 ?_
              refine rr_iload_n 3 rfl rfl dX4_readOpen_133 ?_
              refine rr_if_eq dX4_readOpen_134 (fun _ => ?_) (fun c => absurd (by decide) c)
              refine rr_sipush 2007 rfl dX4_readOpen_143 ?_
              refine rr_callV (As := [.int 2007]) (rest := []) (kc2 := 0) (ks2 := 0) dX4_readOpen_146 okX4_addCell lX4_74 lo_7 sh_7 rfl rfl (Nat.le_of_ble_eq_true rfl) (Nat.le_of_ble_eq_true rfl) rfl (by omega) (by simp [jj_rk]) (by simp [jj_rk]) ?_
              refine cl_adde m (fun h m => ?_)
              show jj_R _ _ kc ks (jj_S, 782, h, g) 149 [(0, .ref 7), (1, .ref 13), (2, .int v), (3, .int 0), (4, .int 1), (5, .int 0)] [] Q
              refine rr_iload 5 rfl dX4_readOpen_149 ?_
              refine rr_nreturn dX4_readOpen_151 rfl (by first | rfl | assumption) ?_
              exact k2 k p _ rfl m
          · skip
            rw [pb_er e1] at k2
            show jj_R _ _ kc ks (jj_S, 782, h, g) 93 [(0, .ref 7), (1, .ref 13), (2, .int v), (3, .int 0), (4, .int 1)] [.int 0] Q
            refine rr_if_eq dX4_readOpen_93 (fun _ => ?_) (fun c => absurd (by decide) c)
            refine rr_iconst 0 rfl dX4_readOpen_129 ?_
            refine rr_istore [(0, .ref 7), (1, .ref 13), (2, .int v), (3, .int 0), (4, .int 1), (5, .int 0)] dX4_readOpen_130 (by decide) rfl ?_
            refine rr_aload_n 0 rfl rfl dX4_readOpen_132 ?_
            refine rr_iload_n 3 rfl rfl dX4_readOpen_133 ?_
            refine rr_if_eq dX4_readOpen_134 (fun _ => ?_) (fun c => absurd (by decide) c)
            refine rr_sipush 2007 rfl dX4_readOpen_143 ?_
            refine rr_callV (As := [.int 2007]) (rest := []) (kc2 := 0) (ks2 := 0) dX4_readOpen_146 okX4_addCell lX4_74 lo_7 sh_7 rfl rfl (Nat.le_of_ble_eq_true rfl) (Nat.le_of_ble_eq_true rfl) rfl (by omega) (by simp [jj_rk]) (by simp [jj_rk]) ?_
            refine cl_adde m (fun h m => ?_)
            show jj_R _ _ kc ks (jj_S, 782, h, g) 149 [(0, .ref 7), (1, .ref 13), (2, .int v), (3, .int 0), (4, .int 1), (5, .int 0)] [] Q
            refine rr_iload 5 rfl dX4_readOpen_149 ?_
            refine rr_nreturn dX4_readOpen_151 rfl (by first | rfl | assumption) ?_
            exact k2 k p _ rfl m
        · skip
          rw [pb_er e1] at k2
          show jj_R _ _ kc ks (jj_S, 782, h, g) 82 [(0, .ref 7), (1, .ref 13), (2, .int v), (3, .int 0), (4, .int 1)] [.int 0] Q
          refine rr_if_eq dX4_readOpen_82 (fun _ => ?_) (fun c => absurd (by decide) c)
          refine rr_iconst 0 rfl dX4_readOpen_129 ?_
          refine rr_istore [(0, .ref 7), (1, .ref 13), (2, .int v), (3, .int 0), (4, .int 1), (5, .int 0)] dX4_readOpen_130 (by decide) rfl ?_
          refine rr_aload_n 0 rfl rfl dX4_readOpen_132 ?_
          refine rr_iload_n 3 rfl rfl dX4_readOpen_133 ?_
          refine rr_if_eq dX4_readOpen_134 (fun _ => ?_) (fun c => absurd (by decide) c)
          refine rr_sipush 2007 rfl dX4_readOpen_143 ?_
          refine rr_callV (As := [.int 2007]) (rest := []) (kc2 := 0) (ks2 := 0) dX4_readOpen_146 okX4_addCell lX4_74 lo_7 sh_7 rfl rfl (Nat.le_of_ble_eq_true rfl) (Nat.le_of_ble_eq_true rfl) rfl (by omega) (by simp [jj_rk]) (by simp [jj_rk]) ?_
          refine cl_adde m (fun h m => ?_)
          show jj_R _ _ kc ks (jj_S, 782, h, g) 149 [(0, .ref 7), (1, .ref 13), (2, .int v), (3, .int 0), (4, .int 1), (5, .int 0)] [] Q
          refine rr_iload 5 rfl dX4_readOpen_149 ?_
          refine rr_nreturn dX4_readOpen_151 rfl (by first | rfl | assumption) ?_
          exact k2 k p _ rfl m
      · skip
        have hp : popn (some s) c e a = ppar (some s) c e a := by unfold popn; rw [if_neg w1, if_neg w2]
        rw [hp, pr_some] at k1 k2
        show jj_R _ _ kc ks (jj_S, 782, h, g) 31 [(0, .ref 7), (1, .ref 13), (2, .int v), (3, .int 0)] [.int 0] Q
        refine rr_if_eq dX4_readOpen_31 (fun _ => ?_) (fun c => absurd (by decide) c)
        refine rr_iconst 0 rfl dX4_readOpen_38 ?_
        refine rr_istore [(0, .ref 7), (1, .ref 13), (2, .int v), (3, .int 0), (4, .int 0)] dX4_readOpen_39 (by decide) rfl ?_
        refine rr_aload_n 1 rfl rfl dX4_readOpen_41 ?_
        refine rr_callV (As := []) (rest := []) (kc2 := 0) (ks2 := 0) dX4_readOpen_42 okX5_advance lX4_71 lo_13 sh_13 rfl rfl (Nat.le_of_ble_eq_true rfl) (Nat.le_of_ble_eq_true rfl) rfl (by omega) (by simp [jj_rk]) (by simp [jj_rk]) ?_
        refine cl_adv (clst_R he) he6 m (by omega) (fun h m => ?_)
        show jj_R _ _ kc ks (jj_S, 782, h, g) 45 [(0, .ref 7), (1, .ref 13), (2, .int v), (3, .int 0), (4, .int 0)] [] Q
        refine rr_iload 4 rfl dX4_readOpen_45 ?_
        refine rr_if_ne dX4_readOpen_47 (fun c => absurd c (by decide)) (fun _ => ?_)
        refine rr_aload_n 0 rfl rfl dX4_readOpen_50 ?_
        refine rr_aload_n 1 rfl rfl dX4_readOpen_51 ?_
        refine rr_iload_n 2 rfl rfl dX4_readOpen_52 ?_
        refine rr_iconst 1 rfl dX4_readOpen_53 ?_
        refine rr_iadd dX4_readOpen_54 ?_
        refine rr_callV (As := [.ref 13, .int (v + 1)]) (rest := []) (kc2 := 0) (ks2 := 0) dX4_readOpen_55 okX4_readSum lX4_48 lo_7 sh_7 rfl rfl (Nat.le_of_ble_eq_true rfl) (Nat.le_of_ble_eq_true rfl) rfl (by omega) (by simp [jj_rk]) (by simp [jj_rk]) ?_
        refine hs (by omega) hv1 trivial m (fun L1 b2 h e1 hb2 m => ?_) (fun k p h e1 m => ?_)
        · skip
          rw [pb_ok e1] at k1 k2
          show jj_R _ _ kc ks (jj_S, 782, h, g) 58 [(0, .ref 7), (1, .ref 13), (2, .int v), (3, .int 0), (4, .int 0)] [.int 1] Q
          refine rr_if_eq dX4_readOpen_58 (fun c => absurd c (by decide)) (fun _ => ?_)
          refine rr_aload_n 1 rfl rfl dX4_readOpen_61 ?_
          refine rr_bipush 41 rfl dX4_readOpen_62 ?_
          refine rr_callV (As := [.int 41]) (rest := []) (kc2 := 0) (ks2 := 0) dX4_readOpen_64 okX5_passSign lX4_103 lo_13 sh_13 rfl rfl (Nat.le_of_ble_eq_true rfl) (Nat.le_of_ble_eq_true rfl) rfl (by omega) (by simp [jj_rk]) (by simp [jj_rk]) ?_
          refine cl_sign (X := 41) (clst_R he) he6 (by decide) m (by omega) (fun b5 h e1 hb5 m => ?_) (fun k p h e1 m => ?_)
          · skip
            rw [pb_ok e1] at k1 k2
            show jj_R _ _ kc ks (jj_S, 782, h, g) 67 [(0, .ref 7), (1, .ref 13), (2, .int v), (3, .int 0), (4, .int 0)] [.int 1] Q
            refine rr_if_eq dX4_readOpen_67 (fun c => absurd c (by decide)) (fun _ => ?_)
            refine rr_iconst 1 rfl dX4_readOpen_70 ?_
            refine rr_goto dX4_readOpen_71 ?_
            refine rr_nreturn dX4_readOpen_75 rfl (by first | rfl | assumption) ?_
            exact k1 _ b5 _ rfl (by omega) m
          · skip
            rw [pb_er e1] at k2
            show jj_R _ _ kc ks (jj_S, 782, h, g) 67 [(0, .ref 7), (1, .ref 13), (2, .int v), (3, .int 0), (4, .int 0)] [.int 0] Q
            refine rr_if_eq dX4_readOpen_67 (fun _ => ?_) (fun c => absurd (by decide) c)
            refine rr_iconst 0 rfl dX4_readOpen_74 ?_
            refine rr_nreturn dX4_readOpen_75 rfl (by first | rfl | assumption) ?_
            exact k2 k p _ rfl m
        · skip
          rw [pb_er e1] at k2
          show jj_R _ _ kc ks (jj_S, 782, h, g) 58 [(0, .ref 7), (1, .ref 13), (2, .int v), (3, .int 0), (4, .int 0)] [.int 0] Q
          refine rr_if_eq dX4_readOpen_58 (fun _ => ?_) (fun c => absurd (by decide) c)
          refine rr_iconst 0 rfl dX4_readOpen_74 ?_
          refine rr_nreturn dX4_readOpen_75 rfl (by first | rfl | assumption) ?_
          exact k2 k p _ rfl m
  · skip
    have o6 : o = 6 := by
      rcases Nat.lt_or_ge o 6 with q | q
      · exact absurd (nI_lt q (by decide)) (by rw [← hv]; exact c1)
      · omega
    have eS := hN.mpr o6
    subst eS
    have hp : popn none c e a = .error (3, a) := by unfold popn; rw [pp_none, pp_none, pr_none, ite_self, ite_self]
    rw [hp] at k2
    refine rr_aload_n 1 rfl rfl dX4_readOpen_6 ?_
    refine rr_iconst 3 rfl dX4_readOpen_7 ?_
    refine rr_callV (As := [.int 3]) (rest := []) (kc2 := 0) (ks2 := 0) dX4_readOpen_8 okX5_failed lX4_100 lo_13 sh_13 rfl rfl (Nat.le_of_ble_eq_true rfl) (Nat.le_of_ble_eq_true rfl) rfl (by omega) (by simp [jj_rk]) (by simp [jj_rk]) ?_
    refine cl_fail (K := 3) (clst_R he) m (by decide) (by decide) rfl (fun h m => ?_)
    show jj_R _ _ kc ks (jj_S, 782, h, g) 11 [(0, .ref 7), (1, .ref 13), (2, .int v)] [.int (-1)] Q
    refine rr_pop rfl dX4_readOpen_11 ?_
    refine rr_iconst 0 rfl dX4_readOpen_12 ?_
    refine rr_nreturn dX4_readOpen_13 rfl (by first | rfl | assumption) ?_
    exact k2 3 a _ rfl m
theorem nI_ne1 {v : Nat} (h : v < 2 ^ 31) : ¬ nI v = -1 := fun q => by
  have := congrArg Int32.toInt q
  rw [nI_toInt h, show (-1 : Int32).toInt = -1 from rfl] at this
  omega
set_option maxHeartbeats 2000000 in
theorem cs_unit {c : Nat → Nat} {e o B : Nat} {S : Option (Nat → pC_)} (he : e ≤ 150) (ho : o ≤ 6) (hN : S = none ↔ o = 6) (hB : 4 ≤ B) (hS : ∀ s, S = some s → cspec mX4_readSum B (fun _ => True) s c e (o + 1)) : cspec mX4_readUnit (B + 2) (fun _ => True) (pone S c e) c e o := by
  intro D kc ks a t v L0 h0 h g Q hD hv hk m k1 k2
  obtain ⟨d, rfl⟩ : ∃ d, D = d + 6 := ⟨D - 6, by omega⟩
  have he6 : e ≤ 600 := by omega
  have hl0 := m.2.2.1
  refine rr_aload_n 1 rfl rfl dX4_readUnit_0 ?_
  refine rr_callS (As := [.ref 13]) (rest := []) (kc2 := 0) (ks2 := 0) dX4_readUnit_1 okX4_valueOf lX4_81 rfl (Nat.le_of_ble_eq_true rfl) (Nat.le_of_ble_eq_true rfl) rfl (by omega) (by simp [jj_rk]) (by simp [jj_rk]) ?_
  refine cl_val (clst_R he) he6 m (by omega) ?_
  show jj_R _ _ kc ks (jj_S, 782, h, g) 4 [(0, .ref 7), (1, .ref 13), (2, .int v)] [.int (kv c e a)] Q
  refine rr_istore_n [(0, .ref 7), (1, .ref 13), (2, .int v), (3, .int (kv c e a))] dX4_readUnit_4 rfl (by decide) rfl ?_
  refine rr_iload_n 3 rfl rfl dX4_readUnit_5 ?_
  refine rr_iconst (-1) rfl dX4_readUnit_6 ?_
  refine rr_icmp_eq dX4_readUnit_7 (fun c1 => ?_) (fun c1 => ?_)
  · skip
    refine rr_aload_n 1 rfl rfl dX4_readUnit_25 ?_
    refine rr_bipush 40 rfl dX4_readUnit_26 ?_
    refine rr_callV (As := [.int 40]) (rest := []) (kc2 := 0) (ks2 := 0) dX4_readUnit_28 okX5_isSign lX4_67 lo_13 sh_13 rfl rfl (Nat.le_of_ble_eq_true rfl) (Nat.le_of_ble_eq_true rfl) rfl (by omega) (by simp [jj_rk]) (by simp [jj_rk]) ?_
    refine cl_isS (X := 40) (clst_R he) he6 (by decide) m (fun s1 => ?_) (fun s1 => ?_)
    · skip
      have hk2 : 0 < kd c e a := by rw [s1.1]; decide
      have nw : ∀ L : List Nat, ¬ wis c e a L = true := fun L q => by have := wis_2 q; rw [s1.1] at this; exact absurd this (by decide)
      show jj_R _ _ kc ks (jj_S, 782, h, g) 31 [(0, .ref 7), (1, .ref 13), (2, .int v), (3, .int (kv c e a))] [.int 1] Q
      refine rr_if_ne dX4_readUnit_31 (fun _ => ?_) (fun c => absurd c (by decide))
      refine rr_aload_n 0 rfl rfl dX4_readUnit_52 ?_
      refine rr_aload_n 1 rfl rfl dX4_readUnit_53 ?_
      refine rr_iload_n 2 rfl rfl dX4_readUnit_54 ?_
      refine rr_callV (As := [.ref 13, .int v]) (rest := []) (kc2 := 0) (ks2 := 0) dX4_readUnit_55 okX4_readOpen lX4_93 lo_7 sh_7 rfl rfl (Nat.le_of_ble_eq_true rfl) (Nat.le_of_ble_eq_true rfl) rfl (by omega) (by simp [jj_rk]) (by simp [jj_rk]) ?_
      have hp : pone S c e a = popn S c e a := by unfold pone popn; rw [if_neg (nw _), if_neg (nw _), if_neg (nw _), if_neg (nw _), if_pos s1]
      rw [hp] at k1 k2
      refine cs_open he ho hN hB hS (by omega) hv hk2 m (fun L b h e1 hb m => ?_) (fun k p h e1 m => ?_)
      · skip
        show jj_R _ _ kc ks (jj_S, 782, h, g) 58 [(0, .ref 7), (1, .ref 13), (2, .int v), (3, .int (kv c e a))] [.int 1] Q
        refine rr_nreturn dX4_readUnit_58 rfl (by first | rfl | assumption) ?_
        exact k1 L b h e1 hb m
      · skip
        show jj_R _ _ kc ks (jj_S, 782, h, g) 58 [(0, .ref 7), (1, .ref 13), (2, .int v), (3, .int (kv c e a))] [.int 0] Q
        refine rr_nreturn dX4_readUnit_58 rfl (by first | rfl | assumption) ?_
        exact k2 k p h e1 m
    · skip
      show jj_R _ _ kc ks (jj_S, 782, h, g) 31 [(0, .ref 7), (1, .ref 13), (2, .int v), (3, .int (kv c e a))] [.int 0] Q
      refine rr_if_ne dX4_readUnit_31 (fun c => absurd c (by decide)) (fun _ => ?_)
      refine rr_aload_n 1 rfl rfl dX4_readUnit_34 ?_
      refine rr_ldcS 12 rfl dX4_readUnit_35 ?_
      refine rr_callV (As := [.ref (1000000 + 12)]) (rest := []) (kc2 := 0) (ks2 := 0) dX4_readUnit_37 okX5_isWord lX4_87 lo_13 sh_13 rfl rfl (Nat.le_of_ble_eq_true rfl) (Nat.le_of_ble_eq_true rfl) rfl (by omega) (by simp [jj_rk]) (by simp [jj_rk]) ?_
      refine cl_isW_12 (clst_R he) he6 m (by omega) (fun w1 => ?_) (fun w1 => ?_)
      · skip
        have hk2 : 0 < kd c e a := by rw [wis_2 w1]; decide
        show jj_R _ _ kc ks (jj_S, 782, h, g) 40 [(0, .ref 7), (1, .ref 13), (2, .int v), (3, .int (kv c e a))] [.int 1] Q
        refine rr_if_ne dX4_readUnit_40 (fun _ => ?_) (fun c => absurd c (by decide))
        refine rr_aload_n 0 rfl rfl dX4_readUnit_52 ?_
        refine rr_aload_n 1 rfl rfl dX4_readUnit_53 ?_
        refine rr_iload_n 2 rfl rfl dX4_readUnit_54 ?_
        refine rr_callV (As := [.ref 13, .int v]) (rest := []) (kc2 := 0) (ks2 := 0) dX4_readUnit_55 okX4_readOpen lX4_93 lo_7 sh_7 rfl rfl (Nat.le_of_ble_eq_true rfl) (Nat.le_of_ble_eq_true rfl) rfl (by omega) (by simp [jj_rk]) (by simp [jj_rk]) ?_
        have hp : pone S c e a = popn S c e a := by unfold pone popn; rw [if_pos w1, if_pos w1]
        rw [hp] at k1 k2
        refine cs_open he ho hN hB hS (by omega) hv hk2 m (fun L b h e1 hb m => ?_) (fun k p h e1 m => ?_)
        · skip
          show jj_R _ _ kc ks (jj_S, 782, h, g) 58 [(0, .ref 7), (1, .ref 13), (2, .int v), (3, .int (kv c e a))] [.int 1] Q
          refine rr_nreturn dX4_readUnit_58 rfl (by first | rfl | assumption) ?_
          exact k1 L b h e1 hb m
        · skip
          show jj_R _ _ kc ks (jj_S, 782, h, g) 58 [(0, .ref 7), (1, .ref 13), (2, .int v), (3, .int (kv c e a))] [.int 0] Q
          refine rr_nreturn dX4_readUnit_58 rfl (by first | rfl | assumption) ?_
          exact k2 k p h e1 m
      · skip
        show jj_R _ _ kc ks (jj_S, 782, h, g) 40 [(0, .ref 7), (1, .ref 13), (2, .int v), (3, .int (kv c e a))] [.int 0] Q
        refine rr_if_ne dX4_readUnit_40 (fun c => absurd c (by decide)) (fun _ => ?_)
        refine rr_aload_n 1 rfl rfl dX4_readUnit_43 ?_
        refine rr_ldcS 13 rfl dX4_readUnit_44 ?_
        refine rr_callV (As := [.ref (1000000 + 13)]) (rest := []) (kc2 := 0) (ks2 := 0) dX4_readUnit_46 okX5_isWord lX4_87 lo_13 sh_13 rfl rfl (Nat.le_of_ble_eq_true rfl) (Nat.le_of_ble_eq_true rfl) rfl (by omega) (by simp [jj_rk]) (by simp [jj_rk]) ?_
        refine cl_isW_13 (clst_R he) he6 m (by omega) (fun w2 => ?_) (fun w2 => ?_)
        · skip
          have hk2 : 0 < kd c e a := by rw [wis_2 w2]; decide
          show jj_R _ _ kc ks (jj_S, 782, h, g) 49 [(0, .ref 7), (1, .ref 13), (2, .int v), (3, .int (kv c e a))] [.int 1] Q
          refine rr_if_eq dX4_readUnit_49 (fun c => absurd c (by decide)) (fun _ => ?_)
          refine rr_aload_n 0 rfl rfl dX4_readUnit_52 ?_
          refine rr_aload_n 1 rfl rfl dX4_readUnit_53 ?_
          refine rr_iload_n 2 rfl rfl dX4_readUnit_54 ?_
          refine rr_callV (As := [.ref 13, .int v]) (rest := []) (kc2 := 0) (ks2 := 0) dX4_readUnit_55 okX4_readOpen lX4_93 lo_7 sh_7 rfl rfl (Nat.le_of_ble_eq_true rfl) (Nat.le_of_ble_eq_true rfl) rfl (by omega) (by simp [jj_rk]) (by simp [jj_rk]) ?_
          have hp : pone S c e a = popn S c e a := by unfold pone popn; rw [if_neg w1, if_pos w2, if_neg w1, if_pos w2]
          rw [hp] at k1 k2
          refine cs_open he ho hN hB hS (by omega) hv hk2 m (fun L b h e1 hb m => ?_) (fun k p h e1 m => ?_)
          · skip
            show jj_R _ _ kc ks (jj_S, 782, h, g) 58 [(0, .ref 7), (1, .ref 13), (2, .int v), (3, .int (kv c e a))] [.int 1] Q
            refine rr_nreturn dX4_readUnit_58 rfl (by first | rfl | assumption) ?_
            exact k1 L b h e1 hb m
          · skip
            show jj_R _ _ kc ks (jj_S, 782, h, g) 58 [(0, .ref 7), (1, .ref 13), (2, .int v), (3, .int (kv c e a))] [.int 0] Q
            refine rr_nreturn dX4_readUnit_58 rfl (by first | rfl | assumption) ?_
            exact k2 k p h e1 m
        · skip
          have hp : pone S c e a = pb (pnum c e 1000 a) fun z => .ok ([(0, z.1)], z.2) := by unfold pone; rw [if_neg w1, if_neg w2, if_neg s1, if_pos c1]
          rw [hp] at k1 k2
          show jj_R _ _ kc ks (jj_S, 782, h, g) 49 [(0, .ref 7), (1, .ref 13), (2, .int v), (3, .int (kv c e a))] [.int 0] Q
          refine rr_if_eq dX4_readUnit_49 (fun _ => ?_) (fun c => absurd (by decide) c)
          refine rr_aload_n 1 rfl rfl dX4_readUnit_59 ?_
          refine rr_sipush 999 rfl dX4_readUnit_60 ?_
          refine rr_callV (As := [.int 999]) (rest := []) (kc2 := 0) (ks2 := 0) dX4_readUnit_63 okX5_number lX4_96 lo_13 sh_13 rfl rfl (Nat.le_of_ble_eq_true rfl) (Nat.le_of_ble_eq_true rfl) rfl (by omega) (by simp [jj_rk]) (by simp [jj_rk]) ?_
          refine cl_num (lim := 1000) (clst_R he) he6 m (by omega) (by decide) (by decide) (fun v9 b h e1 hv9 hb m => ?_) (fun k p h e1 m => ?_)
          · skip
            rw [pb_ok e1] at k1 k2
            have n1 : ¬ nI v9 = -1 := nI_ne1 (by omega)
            show jj_R _ _ kc ks (jj_S, 782, h, g) 66 [(0, .ref 7), (1, .ref 13), (2, .int v), (3, .int (kv c e a))] [.int (nI v9)] Q
            refine rr_istore [(0, .ref 7), (1, .ref 13), (2, .int v), (3, .int (kv c e a)), (4, .int (nI v9))] dX4_readUnit_66 (by decide) rfl ?_
            refine rr_aload_n 0 rfl rfl dX4_readUnit_68 ?_
            refine rr_iload 4 rfl dX4_readUnit_69 ?_
            refine rr_callV (As := [.int (nI v9)]) (rest := []) (kc2 := 0) (ks2 := 0) dX4_readUnit_71 okX4_addCell lX4_74 lo_7 sh_7 rfl rfl (Nat.le_of_ble_eq_true rfl) (Nat.le_of_ble_eq_true rfl) rfl (by omega) (by simp [jj_rk]) (by simp [jj_rk]) ?_
            have hl5 := m.1.2.1.1
            refine cl_add (t2 := t) (s2 := 0) (z := (0, v9)) m (by omega) rfl (by omega) (fun h m => ?_)
            show jj_R _ _ kc ks (jj_S, 782, h, g) 74 [(0, .ref 7), (1, .ref 13), (2, .int v), (3, .int (kv c e a)), (4, .int (nI v9))] [] Q
            refine rr_iload 4 rfl dX4_readUnit_74 ?_
            refine rr_iconst (-1) rfl dX4_readUnit_76 ?_
            refine rr_icmp_eq dX4_readUnit_77 (fun c => absurd c n1) (fun _ => ?_)
            refine rr_iconst 1 rfl dX4_readUnit_80 ?_
            refine rr_goto dX4_readUnit_81 ?_
            refine rr_nreturn dX4_readUnit_85 rfl (by first | rfl | assumption) ?_
            exact k1 _ _ _ rfl hb m
          · skip
            rw [pb_er e1] at k2
            show jj_R _ _ kc ks (jj_S, 782, h, g) 66 [(0, .ref 7), (1, .ref 13), (2, .int v), (3, .int (kv c e a))] [.int (-1)] Q
            refine rr_istore [(0, .ref 7), (1, .ref 13), (2, .int v), (3, .int (kv c e a)), (4, .int (-1))] dX4_readUnit_66 (by decide) rfl ?_
            refine rr_aload_n 0 rfl rfl dX4_readUnit_68 ?_
            refine rr_iload 4 rfl dX4_readUnit_69 ?_
            refine rr_callV (As := [.int (-1)]) (rest := []) (kc2 := 0) (ks2 := 0) dX4_readUnit_71 okX4_addCell lX4_74 lo_7 sh_7 rfl rfl (Nat.le_of_ble_eq_true rfl) (Nat.le_of_ble_eq_true rfl) rfl (by omega) (by simp [jj_rk]) (by simp [jj_rk]) ?_
            refine cl_adde m (fun h m => ?_)
            show jj_R _ _ kc ks (jj_S, 782, h, g) 74 [(0, .ref 7), (1, .ref 13), (2, .int v), (3, .int (kv c e a)), (4, .int (-1))] [] Q
            refine rr_iload 4 rfl dX4_readUnit_74 ?_
            refine rr_iconst (-1) rfl dX4_readUnit_76 ?_
            refine rr_icmp_eq dX4_readUnit_77 (fun _ => ?_) (fun c => absurd (by decide) c)
            refine rr_iconst 0 rfl dX4_readUnit_84 ?_
            refine rr_nreturn dX4_readUnit_85 rfl (by first | rfl | assumption) ?_
            exact k2 k p _ rfl m
  · skip
    have hp : pone S c e a = .ok ([(1, (kv c e a).toNatClampNeg)], nt c e a) := by
      unfold pone
      rw [if_neg (fun q => c1 (kv_w q (Or.inl rfl))), if_neg (fun q => c1 (kv_w q (Or.inr rfl))), if_neg (fun q => by rw [kv_2 c1] at q; exact absurd q.1 (by decide)), if_neg c1]
    have ae := kd_in (c := c) (e := e) (a := a) (by rw [kv_2 c1]; decide)
    have an := nt_gt (c := c) ae
    refine rr_aload_n 0 rfl rfl dX4_readUnit_10 ?_
    refine rr_sipush 1000 rfl dX4_readUnit_11 ?_
    refine rr_iload_n 3 rfl rfl dX4_readUnit_14 ?_
    refine rr_iadd dX4_readUnit_15 ?_
    refine rr_callV (As := [.int ((1000 : Int32) + (kv c e a))]) (rest := []) (kc2 := 0) (ks2 := 0) dX4_readUnit_16 okX4_addCell lX4_74 lo_7 sh_7 rfl rfl (Nat.le_of_ble_eq_true rfl) (Nat.le_of_ble_eq_true rfl) rfl (by omega) (by simp [jj_rk]) (by simp [jj_rk]) ?_
    refine cl_add (t2 := t) (s2 := 1) (z := (1, (kv c e a).toNatClampNeg)) m (by omega) (by show 1000 + kv c e a = nI (1000 + (kv c e a).toNatClampNeg); rw [← nI_add, ← (kv_n c1).1]; rfl) (by omega) (fun h m => ?_)
    show jj_R _ _ kc ks (jj_S, 782, h, g) 19 [(0, .ref 7), (1, .ref 13), (2, .int v), (3, .int (kv c e a))] [] Q
    refine rr_aload_n 1 rfl rfl dX4_readUnit_19 ?_
    refine rr_callV (As := []) (rest := []) (kc2 := 0) (ks2 := 0) dX4_readUnit_20 okX5_advance lX4_71 lo_13 sh_13 rfl rfl (Nat.le_of_ble_eq_true rfl) (Nat.le_of_ble_eq_true rfl) rfl (by omega) (by simp [jj_rk]) (by simp [jj_rk]) ?_
    refine cl_adv (clst_1 he) he6 ⟨m, by rw [List.length_append, List.length_singleton]; omega⟩ (by omega) (fun h m => ?_)
    show jj_R _ _ kc ks (jj_S, 782, h, g) 23 [(0, .ref 7), (1, .ref 13), (2, .int v), (3, .int (kv c e a))] [] Q
    refine rr_iconst 1 rfl dX4_readUnit_23 ?_
    refine rr_nreturn dX4_readUnit_24 rfl (by first | rfl | assumption) ?_
    exact k1 _ _ _ hp an (clst_t m.1 (by rw [List.length_append, List.length_singleton]; omega))
