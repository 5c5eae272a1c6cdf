/-! ===== THE INVARIANT: rows 0 to 48 are the class's, rows 49 to 780 the reference's ===== -/
def iT (c : Nat → Nat) (T : Nat) (h : hp_) : Prop := bytesok (h 14) c ∧ fedok (h 50) c ∧ h 13 1 = nI T ∧ h 49 1 = nI T ∧ T ≤ 600
def iC (h : hp_) : Prop := h 49 3 = h 13 8 ∧ h 49 33 = h 0 12 ∧ h 51 0 = h 0 13 ∧ h 51 1 = h 0 14
def iS (n : Nat) (h : hp_) : Prop := h 1 0 = nI n ∧ h 53 0 = nI n ∧ n ≤ 8 ∧ h 53 1 = h 1 1 ∧ srl n (h 2) (h 3) (h 4) (h 5) (h 6) (h 73) (jj_gd h 64 8) ∧ (∀ p, p < 8 → bn (h 73 p) < 2 ^ n) ∧ ∀ p, p < n → ∃ x y, h 4 p = nI x ∧ x ≤ 20 ∧ h 5 p = nI y ∧ y ≤ 20
def iL (m : Nat) (h : hp_) : Prop := h 7 1 = nI m ∧ h 49 17 = nI m ∧ m ≤ 150 ∧ lawok (h 8) (jj_gd h 75 160) m
def iN (h : hp_) : Prop := nr (h 38) (h 39) (h 40) (h 41) (h 42) (h 497) ∧ nok 900 (h 38) (h 39) (h 40) (h 42)
def iB (n : Nat) (L : bL_) (h : hp_) : Prop := h 25 2 = nI L.length ∧ h 49 31 = nI L.length ∧ bok n L ∧ (0 < L.length → ∀ p, p < 8 → h 26 p = bk L p) ∧ ∀ i z, L[i]? = some z → h (397 + i) 0 = nI z.1 ∧ h (397 + i) 1 = nI z.2
/-- a row of the class's history and one of the reference's -/
def hrw (f x : Nat → Int32) : Prop := nr f (fun p => f (3 + 4 * p)) (fun p => f (4 + 4 * p)) (fun p => f (5 + 4 * p)) (fun p => f (6 + 4 * p)) x ∧ nok 900 f (fun p => f (3 + 4 * p)) (fun p => f (4 + 4 * p)) (fun p => f (6 + 4 * p))
def iH (u t : Nat) (h : hp_) : Prop := (h 34 0 = nI u ∧ h 49 32 = nI u ∧ u ≤ 16) ∧ (h 34 1 = nI t ∧ h 49 34 = nI t ∧ t ≤ 3) ∧ (∀ w, w < 16 → hrw (fun i => h 35 (35 * w + i)) (h (500 + w))) ∧ ∀ i, i < t → (∃ u2, u2 ≤ 16 ∧ h 37 i = nI u2 ∧ h (517 + i) 0 = nI u2) ∧ hrw (fun k => h 36 (35 * (17 * i + 16) + k)) (fun k => h (517 + i) (1 + k)) ∧ ∀ w, w < 16 → hrw (fun k => h 36 (35 * (17 * i + w) + k)) (fun k => h (517 + i) (36 + 35 * w + k))
def IV (c : Nat → Nat) (T n m u t : Nat) (L : bL_) (h : hp_) : Prop := iT c T h ∧ iC h ∧ iS n h ∧ iL m h ∧ iN h ∧ iB n L h ∧ iH u t h
/-! ===== what a question leaves as it was ===== -/
def kpR (x : Nat) : Bool := (decide (1 ≤ x) && decide (x ≤ 8)) || (x == 13 || (x == 14 || (x == 26 || ((decide (34 ≤ x) && decide (x ≤ 42)) || (x == 50 || (x == 53 || ((decide (64 ≤ x) && decide (x < 72)) || (x == 73 || ((decide (75 ≤ x) && decide (x < 235)) || ((decide (397 ≤ x) && decide (x < 405)) || (x == 497 || ((decide (500 ≤ x) && decide (x < 516)) || (decide (517 ≤ x) && decide (x < 520))))))))))))))
def kpF (i : Nat) : Bool := i == 1 || (i == 3 || (i == 17 || (i == 31 || (i == 32 || (i == 33 || i == 34)))))
def kp (h k : hp_) : Prop := (∀ x, kpR x = true → k x = h x) ∧ k 25 2 = h 25 2 ∧ (∀ i, kpF i = true → k 49 i = h 49 i) ∧ k 0 12 = h 0 12
theorem kp_rf {h : hp_} : kp h h := ⟨fun _ _ => rfl, rfl, fun _ _ => rfl, rfl⟩
theorem kp_tr {h k l : hp_} (a : kp h k) (b : kp k l) : kp h l := ⟨fun x q => (b.1 x q).trans (a.1 x q), b.2.1.trans a.2.1, fun i q => (b.2.2.1 i q).trans (a.2.2.1 i q), b.2.2.2.trans a.2.2.2⟩
theorem kpR_g {b len j : Nat} (hj : j < len) (h : ∀ i, i < len → kpR (b + i) = true) : kpR (b + j) = true := h j hj
theorem kpR_64 {j : Nat} (h : j < 8) : kpR (64 + j) = true := by
  simp [kpR, show 64 ≤ 64 + j by omega, show 64 + j < 72 by omega]
theorem kpR_75 {j : Nat} (h : j < 160) : kpR (75 + j) = true := by
  simp [kpR, show 75 ≤ 75 + j by omega, show 75 + j < 235 by omega]
theorem kpR_397 {j : Nat} (h : j < 8) : kpR (397 + j) = true := by
  simp [kpR, show 397 ≤ 397 + j by omega, show 397 + j < 405 by omega]
theorem kpR_500 {j : Nat} (h : j < 16) : kpR (500 + j) = true := by
  simp [kpR, show 500 ≤ 500 + j by omega, show 500 + j < 516 by omega]
theorem kpR_517 {j : Nat} (h : j < 3) : kpR (517 + j) = true := by
  simp [kpR, show 517 ≤ 517 + j by omega, show 517 + j < 520 by omega]
theorem IV_kp {c : Nat → Nat} {T n m u t : Nat} {L : bL_} {h k : hp_} (I : IV c T n m u t L h) (q : kp h k) (q0 : k 51 0 = k 0 13 ∧ k 51 1 = k 0 14) : IV c T n m u t L k := by
  obtain ⟨⟨t1, t2, t3, t4, t5⟩, ⟨c1, c2, c3, c4⟩, ⟨s1, s2, s3, s4, s5, s6, s7⟩, ⟨l1, l2, l3, l4⟩, ⟨n1, n2⟩, ⟨b1, b2, b3, b4, b5⟩, ⟨⟨h1, h2, h3⟩, ⟨h4, h5, h6⟩, h7, h8⟩⟩ := I
  obtain ⟨qr, q25, q49, q12⟩ := q
  have g64 : jj_gd k 64 8 = jj_gd h 64 8 := gd_eq (fun j hj => qr _ (kpR_64 hj))
  have g75 : jj_gd k 75 160 = jj_gd h 75 160 := gd_eq (fun j hj => qr _ (kpR_75 hj))
  refine ⟨⟨?_, ?_, ?_, ?_, t5⟩, ⟨?_, ?_, q0.1, q0.2⟩, ⟨?_, ?_, s3, ?_, ?_, ?_, ?_⟩, ⟨?_, ?_, l3, ?_⟩, ⟨?_, ?_⟩, ⟨?_, ?_, b3, fun hl p hp => ?_, fun i z hi => ?_⟩, ⟨⟨?_, ?_, h3⟩, ⟨?_, ?_, h6⟩, fun w hw => ?_, fun i hi => ?_⟩⟩
  · rw [qr 14 rfl]; exact t1
  · rw [qr 50 rfl]; exact t2
  · rw [qr 13 rfl]; exact t3
  · rw [q49 1 rfl]; exact t4
  · rw [q49 3 rfl, qr 13 rfl]; exact c1
  · rw [q49 33 rfl, q12]; exact c2
  · rw [qr 1 rfl]; exact s1
  · rw [qr 53 rfl]; exact s2
  · rw [qr 53 rfl, qr 1 rfl]; exact s4
  · rw [qr 2 rfl, qr 3 rfl, qr 4 rfl, qr 5 rfl, qr 6 rfl, qr 73 rfl, g64]; exact s5
  · rw [qr 73 rfl]; exact s6
  · rw [qr 4 rfl, qr 5 rfl]; exact s7
  · rw [qr 7 rfl]; exact l1
  · rw [q49 17 rfl]; exact l2
  · rw [qr 8 rfl, g75]; exact l4
  · rw [qr 38 rfl, qr 39 rfl, qr 40 rfl, qr 41 rfl, qr 42 rfl, qr 497 rfl]; exact n1
  · rw [qr 38 rfl, qr 39 rfl, qr 40 rfl, qr 42 rfl]; exact n2
  · rw [q25]; exact b1
  · rw [q49 31 rfl]; exact b2
  · rw [qr 26 rfl]; exact b4 hl p hp
  · have hi2 := (List.getElem?_eq_some_iff.mp hi).1
    have := bok_8 b3
    rw [qr _ (kpR_397 (by omega))]; exact b5 i z hi
  · rw [qr 34 rfl]; exact h1
  · rw [q49 32 rfl]; exact h2
  · rw [qr 34 rfl]; exact h4
  · rw [q49 34 rfl]; exact h5
  · rw [qr 35 rfl, qr _ (kpR_500 hw)]; exact h7 w hw
  · rw [qr 36 rfl, qr 37 rfl, qr _ (kpR_517 (by omega))]; exact h8 i hi
/-- rows that a question writes -/
def kpL (L : List (Nat × (Nat → Int32))) : Bool := L.all fun q => !(kpR q.1 || (q.1 == 0 || (q.1 == 25 || q.1 == 49)))
theorem kp_X {X : List Nat} {h k : hp_} (e : jj_eq X h k) (hX : X.all (fun x => !(kpR x || (x == 0 || (x == 25 || x == 49)))) = true) : kp h k := by
  have key : ∀ x, (kpR x || (x == 0 || (x == 25 || x == 49))) = true → k x = h x := fun x hx => e x (fun q => by
    have := List.all_eq_true.mp hX x q
    rw [hx] at this
    exact absurd this (by decide))
  exact ⟨fun x hx => key x (by rw [hx]; rfl), by rw [key 25 rfl], fun i _ => by rw [key 49 rfl], by rw [key 0 rfl]⟩
theorem kp_L {h : hp_} {L : List (Nat × (Nat → Int32))} (hL : kpL L = true) : kp h (jj_rs h L) := by
  have key : ∀ x, (kpR x || (x == 0 || (x == 25 || x == 49))) = true → jj_rs h L x = h x := fun x hx => rs_no (P := fun y => !(kpR y || (y == 0 || (y == 25 || y == 49)))) hL (by rw [hx]; rfl)
  exact ⟨fun x hx => key x (by rw [hx]; rfl), by rw [key 25 rfl], fun i _ => by rw [key 49 rfl], by rw [key 0 rfl]⟩
theorem kp_0 {h : hp_} {r : Nat → Int32} {L : List (Nat × (Nat → Int32))} (hr : r 12 = h 0 12) (hL : kpL L = true) : kp h (jj_rs h ((0, r) :: L)) := by
  have key : ∀ x, (kpR x || (x == 25 || x == 49)) = true → jj_rs h ((0, r) :: L) x = h x := fun x hx => rs_no (P := fun y => !(kpR y || (y == 25 || y == 49))) (by
    rw [List.all_cons, Bool.and_eq_true]
    refine ⟨rfl, List.all_eq_true.mpr (fun q hq => ?_)⟩
    have := List.all_eq_true.mp hL q hq
    simp only [Bool.not_eq_true', Bool.or_eq_false_iff] at this ⊢
    exact ⟨this.1, this.2.2⟩) (by rw [hx]; rfl)
  exact ⟨fun x hx => key x (by rw [hx]; rfl), by rw [key 25 rfl], fun i _ => by rw [key 49 rfl], hr⟩
theorem kp_0b {h : hp_} {r r25 : Nat → Int32} {L : List (Nat × (Nat → Int32))} (hr : r 12 = h 0 12) (h25 : r25 2 = h 25 2) (hL : kpL L = true) : kp h (jj_rs h ((0, r) :: (25, r25) :: L)) := by
  have key : ∀ x, (kpR x || x == 49) = true → jj_rs h ((0, r) :: (25, r25) :: L) x = h x := fun x hx => rs_no (P := fun y => !(kpR y || y == 49)) (by
    rw [List.all_cons, List.all_cons, Bool.and_eq_true, Bool.and_eq_true]
    refine ⟨rfl, rfl, List.all_eq_true.mpr (fun q hq => ?_)⟩
    have := List.all_eq_true.mp hL q hq
    simp only [Bool.not_eq_true', Bool.or_eq_false_iff] at this ⊢
    exact ⟨this.1, this.2.2.2⟩) (by rw [hx]; rfl)
  exact ⟨fun x hx => key x (by rw [hx]; rfl), h25, fun i _ => by rw [key 49 rfl], hr⟩
theorem kp_49 {h : hp_} {r : Nat → Int32} {L : List (Nat × (Nat → Int32))} (hr : ∀ i, kpF i = true → r i = h 49 i) (hL : kpL L = true) : kp h (jj_rs h ((49, r) :: L)) := by
  have key : ∀ x, (kpR x || (x == 0 || x == 25)) = true → jj_rs h ((49, r) :: L) x = h x := fun x hx => rs_no (P := fun y => !(kpR y || (y == 0 || y == 25))) (by
    rw [List.all_cons, Bool.and_eq_true]
    refine ⟨rfl, List.all_eq_true.mpr (fun q hq => ?_)⟩
    have := List.all_eq_true.mp hL q hq
    simp only [Bool.not_eq_true', Bool.or_eq_false_iff] at this ⊢
    exact ⟨this.1, this.2.1, this.2.2.1⟩) (by rw [hx]; rfl)
  exact ⟨fun x hx => key x (by rw [hx]; rfl), by rw [key 25 rfl], hr, by rw [key 0 rfl]⟩
/-! ===== how a question ends, in both ===== -/
/-- r: what the class answers, r0 its counters before and behind; th, v: what the reference threw and answered, r51 its counters; e: the number of IllegalArgumentException -/
def res (e : Int32) (r : jj_Rs) (r0 z0 : Nat → Int32) (th : Int32) (v : Value) (r51 z51 : Nat → Int32) : Prop := (r = .inl (some v) ∧ z0 = r0 ∧ th = 0 ∧ z51 = r51) ∨ (r = .inr "java/util/NoSuchElementException" ∧ z0 = upd r0 13 (r0 13 + 1) ∧ th = 1 ∧ z51 = upd r51 0 (r51 0 + 1)) ∨ (r = .inr "java/lang/IllegalArgumentException" ∧ z0 = upd r0 14 (r0 14 + 1) ∧ th = e ∧ z51 = upd r51 1 (r51 1 + 1))
theorem res_12 {e th : Int32} {r : jj_Rs} {r0 z0 r51 z51 : Nat → Int32} {v : Value} (h : res e r r0 z0 th v r51 z51) : z0 12 = r0 12 := by
  rcases h with h | h | h
  · rw [h.2.1]
  · rw [h.2.1]; rfl
  · rw [h.2.1]; rfl
theorem res_c {e th : Int32} {r : jj_Rs} {r0 z0 r51 z51 : Nat → Int32} {v : Value} (h : res e r r0 z0 th v r51 z51) (h1 : r51 0 = r0 13) (h2 : r51 1 = r0 14) : z51 0 = z0 13 ∧ z51 1 = z0 14 := by
  rcases h with h | h | h
  · rw [h.2.1, h.2.2.2]; exact ⟨h1, h2⟩
  · rw [h.2.1, h.2.2.2]; exact ⟨by show r51 0 + 1 = r0 13 + 1; rw [h1], h2⟩
  · rw [h.2.1, h.2.2.2]; exact ⟨h1, by show r51 1 + 1 = r0 14 + 1; rw [h2]⟩
