/-! ===== relations between heaps ===== -/
abbrev hp_ : Type := Nat → Nat → Int32
def fr (o : Nat) (P F : Nat → Bool) (h k : hp_) : Prop := (∀ x, P x = false → ¬ x = o → k x = h x) ∧ ∀ i, F i = false → k o i = h o i
theorem fr_rf {o : Nat} {P F : Nat → Bool} {h : hp_} : fr o P F h h := ⟨fun _ _ _ => rfl, fun _ _ => rfl⟩
theorem fr_tr {o : Nat} {P F : Nat → Bool} {h k l : hp_} (a : fr o P F h k) (b : fr o P F k l) : fr o P F h l := ⟨fun x p q => (b.1 x p q).trans (a.1 x p q), fun i p => (b.2 i p).trans (a.2 i p)⟩
theorem rs_ne {B : hp_} {o x : Nat} {z : Nat → Int32} (h : ¬ x = o) : jj_rs B [(o, z)] x = B x := by
  have n : (x == o) = false := by rw [beq_eq_false_iff_ne]; exact h
  simp [jj_rs, List.lookup, n]
theorem rs_eq {B : hp_} {o : Nat} {z : Nat → Int32} : jj_rs B [(o, z)] o = z := by simp [jj_rs, List.lookup]
theorem fr_put {o : Nat} {P F : Nat → Bool} {h : hp_} {r : Nat → Int32} (hr : ∀ i, F i = false → r i = h o i) : fr o P F h (jj_rs h [(o, r)]) := ⟨fun x _ q => rs_ne q, fun i p => by rw [rs_eq]; exact hr i p⟩
/-! ===== the reference reads, whatever it keeps beside ===== -/
def mst (c : Nat → Nat) (e x : Nat) (h : hp_) : Prop := h 49 2 = nI e ∧ h 49 4 = nI x ∧ fedok (h 50) c ∧ x ≤ e ∧ h 49 5 = 0
def rdr (c : Nat → Nat) (e : Nat) (I : Nat → hp_ → Prop) (E : Nat → Nat → hp_ → Prop) : Prop :=
  (∀ x h, I x h → mst c e x h) ∧
  (∀ (x y : Nat) (h : hp_) (r : Nat → Int32), I x h → x ≤ y → y ≤ e → r 4 = nI y → r 5 = 0 → (∀ i, ¬ i = 4 → ¬ i = 5 → ¬ i = 6 → r i = h 49 i) → I y (jj_rs h [(49, r)])) ∧
  (∀ (x : Nat) (h : hp_) (r : Nat → Int32) (k p : Nat), I x h → 0 < k → k < 4 → r 5 = nI k → r 6 = nI p → (∃ y : Nat, y ≤ e ∧ r 4 = nI y) → (∀ i, ¬ i = 4 → ¬ i = 5 → ¬ i = 6 → r i = h 49 i) → E k p (jj_rs h [(49, r)])) ∧
  (∀ (k p : Nat) (h : hp_), E k p h → h 49 2 = nI e ∧ fedok (h 50) c ∧ (∃ y : Nat, y ≤ e ∧ h 49 4 = nI y) ∧ ¬ h 49 5 = 0) ∧
  (∀ (k p y : Nat) (h : hp_) (r : Nat → Int32), E k p h → y ≤ e → r 4 = nI y → (∀ i, ¬ i = 4 → r i = h 49 i) → E k p (jj_rs h [(49, r)]))
theorem pnum_er {c : Nat → Nat} {e lim a k p : Nat} (h : pnum c e lim a = .error (k, p)) : 0 < k ∧ k < 4 := by
  unfold pnum at h
  split at h
  · split at h
    · cases h
    · cases h; decide
  · cases h; decide
theorem psign_er {c : Nat → Nat} {e x a k p : Nat} (h : psign c e x a = .error (k, p)) : 0 < k ∧ k < 4 := by
  unfold psign at h
  split at h
  · cases h
  · cases h; decide
theorem kd_in {c : Nat → Nat} {e a : Nat} (h : 0 < kd c e a) : a < e := by
  rcases Nat.lt_or_ge a e with q | q
  · exact q
  · rw [kd_end.mpr q] at h; exact absurd h (by decide)
theorem pnum_ok {c : Nat → Nat} {e lim a v b : Nat} (h : pnum c e lim a = .ok (v, b)) : v < lim ∧ a < e ∧ b = nt c e a := by
  unfold pnum at h
  split at h
  · split at h
    · cases h
      exact ⟨by assumption, kd_in (c := c) (by omega), rfl⟩
    · cases h
  · cases h
theorem psign_ok {c : Nat → Nat} {e x a b : Nat} (h : psign c e x a = .ok b) : a < e ∧ b = nt c e a := by
  unfold psign at h
  split at h
  · cases h
    exact ⟨kd_in (c := c) (by omega), rfl⟩
  · cases h
theorem wis_2 {c : Nat → Nat} {e a : Nat} {L : List Nat} (h : wis c e a L = true) : kd c e a = 2 := by
  unfold wis at h
  rw [Bool.and_eq_true, decide_eq_true_eq] at h
  exact h.1
theorem kv_2 {c : Nat → Nat} {e a : Nat} (h : ¬ kv c e a = -1) : kd c e a = 2 := by
  unfold kv at h
  repeat' split at h
  all_goals first | exact wis_2 (by assumption) | exact absurd rfl h
section LL
variable {c : Nat → Nat} {e x D kc ks : Nat} {I : Nat → hp_ → Prop} {E : Nat → Nat → hp_ → Prop} {h : hp_} {g : Nat → Nat → Int64} {Q : jj_Rs → jj_St → Prop}
theorem ll_blanks (R : rdr c e I E) (he : e ≤ 600) (m : I x h) (hD : 1 ≤ D) (k : ∀ h9, I (spn isB c e x) h9 → Q (.inl none) (jj_S, 782, h9, g)) : jj_R mX10_blanks D kc ks (jj_S, 782, h, g) 0 [(0, .ref 49)] [] Q := by
  obtain ⟨d, rfl⟩ : ∃ d, D = d + 1 := ⟨D - 1, by omega⟩
  obtain ⟨hs, ha, hF, hx, hf⟩ := R.1 x h m
  exact sp_blanks he hs ha hF (by omega) (k _ (R.2.1 x _ h _ m spn_ge (spn_le hx) (jj_ueq rfl) ((jj_une (by decide)).trans hf) (fun i i4 _ _ => jj_une i4)))
theorem ll_blanksE {kk p : Nat} (R : rdr c e I E) (he : e ≤ 600) (m : E kk p h) (hD : 1 ≤ D) (k : ∀ h9, E kk p h9 → Q (.inl none) (jj_S, 782, h9, g)) : jj_R mX10_blanks D kc ks (jj_S, 782, h, g) 0 [(0, .ref 49)] [] Q := by
  obtain ⟨d, rfl⟩ : ∃ d, D = d + 1 := ⟨D - 1, by omega⟩
  obtain ⟨hs, hF, ⟨y, hy, ha⟩, hf⟩ := R.2.2.2.1 kk p h m
  exact sp_blanks he hs ha hF (by omega) (k _ (R.2.2.2.2 kk p _ h _ m (spn_le hy) (jj_ueq rfl) (fun i i4 => jj_une i4)))
theorem ll_num {lim : Nat} {hi : Int32} (R : rdr c e I E) (he : e ≤ 600) (m : I x h) (hD : 2 ≤ D) (ehi : hi = nI lim - 1) (hl : lim < 2 ^ 30) (k1 : ∀ v b y h9, pnum c e lim (spn isB c e x) = .ok (v, b) → v < lim → (x < y ∧ spn isB c e x < y) → spn isB c e y = b → I y h9 → Q (.inl (some (.int (nI v)))) (jj_S, 782, h9, g)) (k2 : ∀ k p h9, pnum c e lim (spn isB c e x) = .error (k, p) → E k p h9 → Q (.inl (some (.int 0))) (jj_S, 782, h9, g)) : jj_R mX10_number D kc ks (jj_S, 782, h, g) 0 [(0, .ref 49), (1, .int 0), (2, .int hi)] [] Q := by
  obtain ⟨d, rfl⟩ : ∃ d, D = d + 2 := ⟨D - 2, by omega⟩
  obtain ⟨hs, ha, hF, hx, hf⟩ := R.1 x h m
  refine sp_number he hs ha hF hx hf ehi hl (fun v b q => ?_) (fun k p r q r5 r6 r4 ro => k2 k p _ q (R.2.2.1 x h r k p m (pnum_er q).1 (pnum_er q).2 r5 r6 r4 ro))
  have q2 := pnum_ok q
  have hg := spn_ge (P := isB) (c := c) (e := e) (x := x)
  have hn := nx_gt (c := c) q2.2.1
  exact k1 v b (nx c e (spn isB c e x)) _ q q2.1 (by omega) (by rw [q2.2.2]; rfl) (R.2.1 x _ h _ m (by omega) (nx_le (by omega)) (jj_ueq rfl) ((jj_une (by decide)).trans hf) (fun i i4 _ _ => jj_une i4))
theorem ll_sign {X : Nat} (R : rdr c e I E) (he : e ≤ 600) (hX : sgn X) (m : I x h) (hD : 2 ≤ D) (k1 : ∀ b y h9, psign c e X (spn isB c e x) = .ok b → (x < y ∧ spn isB c e x < y) → spn isB c e y = b → I y h9 → Q (.inl none) (jj_S, 782, h9, g)) (k2 : ∀ k p h9, psign c e X (spn isB c e x) = .error (k, p) → E k p h9 → Q (.inl none) (jj_S, 782, h9, g)) : jj_R mX10_sign D kc ks (jj_S, 782, h, g) 0 [(0, .ref 49), (1, .int (nI X))] [] Q := by
  obtain ⟨d, rfl⟩ : ∃ d, D = d + 2 := ⟨D - 2, by omega⟩
  obtain ⟨hs, ha, hF, hx, hf⟩ := R.1 x h m
  refine sp_sign he hX hs ha hF hx hf (fun b q => ?_) (fun k p r q r5 r6 r4 ro => k2 k p _ q (R.2.2.1 x h r k p m (psign_er q).1 (psign_er q).2 r5 r6 r4 ro))
  have q2 := psign_ok q
  have hg := spn_ge (P := isB) (c := c) (e := e) (x := x)
  have hn := nx_gt (c := c) q2.1
  exact k1 b (nx c e (spn isB c e x)) _ q (by omega) (by rw [q2.2]; rfl) (R.2.1 x _ h _ m (by omega) (nx_le (by omega)) (jj_ueq rfl) ((jj_une (by decide)).trans hf) (fun i i4 _ _ => jj_une i4))
theorem ll_tsign {X : Nat} (R : rdr c e I E) (he : e ≤ 600) (hX : sgn X) (m : I x h) (hD : 2 ≤ D) (k1 : kd c e (spn isB c e x) = 3 ∧ c (spn isB c e x) = X → ∀ y h9, (x < y ∧ spn isB c e x < y) → spn isB c e y = nt c e (spn isB c e x) → I y h9 → Q (.inl (some (.int 1))) (jj_S, 782, h9, g)) (k2 : ¬ (kd c e (spn isB c e x) = 3 ∧ c (spn isB c e x) = X) → ∀ h9, I (spn isB c e x) h9 → Q (.inl (some (.int 0))) (jj_S, 782, h9, g)) : jj_R mX10_takesSign D kc ks (jj_S, 782, h, g) 0 [(0, .ref 49), (1, .int (nI X))] [] Q := by
  obtain ⟨d, rfl⟩ : ∃ d, D = d + 2 := ⟨D - 2, by omega⟩
  obtain ⟨hs, ha, hF, hx, hf⟩ := R.1 x h m
  have hg := spn_ge (P := isB) (c := c) (e := e) (x := x)
  refine sp_takesSign he hX hs ha hF hx hf (fun q => ?_) (fun q => k2 q _ (R.2.1 x _ h _ m spn_ge (spn_le hx) (jj_ueq rfl) ((jj_une (by decide)).trans hf) (fun i i4 _ _ => jj_une i4)))
  have hn := nx_gt (c := c) (kd_in (c := c) (e := e) (a := spn isB c e x) (by omega))
  exact k1 q (nx c e (spn isB c e x)) _ (by omega) rfl (R.2.1 x _ h _ m (by omega) (nx_le (spn_le hx)) (jj_ueq rfl) ((jj_une (by decide)).trans hf) (fun i i4 _ _ => jj_une i4))
theorem ll_isw {L : List Nat} {a1 a2 a3 a4 a5 a6 : Int32} (hL : wok L (vX10_six a1 a2 a3 a4 a5 a6)) (R : rdr c e I E) (he : e ≤ 600) (m : I x h) (hb : spn isB c e x = x) (hD : 3 ≤ D) (k1 : wis c e x L = true → ∀ h9, I x h9 → Q (.inl (some (.int 1))) (jj_S, 782, h9, g)) (k2 : ¬ wis c e x L = true → ∀ h9, I x h9 → Q (.inl (some (.int 0))) (jj_S, 782, h9, g)) : jj_R mX10_isWord D kc ks (jj_S, 782, h, g) 0 [(0, .ref 49), (1, .int a1), (2, .int a2), (3, .int a3), (4, .int a4), (5, .int a5), (6, .int a6)] [] Q := by
  obtain ⟨d, rfl⟩ : ∃ d, D = d + 3 := ⟨D - 3, by omega⟩
  obtain ⟨hs, ha, hF, hx, hf⟩ := R.1 x h m
  have mv := R.2.1 x x h (upd (h 49) 4 (nI x)) m (Nat.le_refl x) hx (jj_ueq rfl) ((jj_une (by decide)).trans hf) (fun i i4 _ _ => jj_une i4)
  refine sp_isWord he hL hs ha hF hx hf (fun q => ?_) (fun q => ?_)
  · rw [hb] at q ⊢
    exact k1 q _ mv
  · rw [hb] at q ⊢
    exact k2 q _ mv
theorem ll_known (R : rdr c e I E) (he : e ≤ 600) (m : I x h) (hb : spn isB c e x = x) (hD : 5 ≤ D) (k1 : ¬ kv c e x = -1 → ∀ y h9, x < y → spn isB c e y = nt c e x → I y h9 → Q (.inl (some (.int (kv c e x)))) (jj_S, 782, h9, g)) (k2 : kv c e x = -1 → ∀ h9, I x h9 → Q (.inl (some (.int (-1)))) (jj_S, 782, h9, g)) : jj_R mX10_knownHere D kc ks (jj_S, 782, h, g) 0 [(0, .ref 49)] [] Q := by
  obtain ⟨d, rfl⟩ : ∃ d, D = d + 5 := ⟨D - 5, by omega⟩
  obtain ⟨hs, ha, hF, hx, hf⟩ := R.1 x h m
  have mv := fun (y : Nat) (h1 : x ≤ y) (h2 : y ≤ e) => R.2.1 x y h (upd (h 49) 4 (nI y)) m h1 h2 (jj_ueq rfl) ((jj_une (by decide)).trans hf) (fun i i4 _ _ => jj_une i4)
  refine sp_knownHere he hs ha hF hx hf (fun q => ?_) (fun q => ?_)
  · rw [hb] at q ⊢
    have hn := nx_gt (c := c) (kd_in (c := c) (e := e) (a := x) (by rw [kv_2 q]; decide))
    exact k1 q (nx c e x) _ hn rfl (mv _ (by omega) (nx_le hx))
  · rw [hb] at q ⊢
    exact k2 q _ (mv x (Nat.le_refl x) hx)
theorem ll_skip (R : rdr c e I E) (he : e ≤ 600) (m : I x h) (hk : kd c e x = 2) (hD : 1 ≤ D) (k : ∀ y h9, (x < y ∧ y = nx c e x) → y ≤ e → spn isB c e y = nt c e x → I y h9 → Q (.inl none) (jj_S, 782, h9, g)) : jj_R mX10_skipWord D kc ks (jj_S, 782, h, g) 0 [(0, .ref 49)] [] Q := by
  obtain ⟨d, rfl⟩ : ∃ d, D = d + 1 := ⟨D - 1, by omega⟩
  obtain ⟨hs, ha, hF, hx, hf⟩ := R.1 x h m
  have k2 := kd_2 hk
  have hn := nx_gt (c := c) k2.1
  have hn2 := nx_le (c := c) hx
  refine sp_skipWord he hs ha hF (by omega) ?_
  rw [← k2.2.2]
  exact k (nx c e x) _ ⟨hn, rfl⟩ hn2 rfl (R.2.1 x _ h _ m (by omega) hn2 (jj_ueq rfl) ((jj_une (by decide)).trans hf) (fun i i4 _ _ => jj_une i4))
end LL
theorem nf_number {D kc ks : Nat} {h : hp_} {g : Nat → Nat → Int64} {Q : jj_Rs → jj_St → Prop} {lo : Int32} {hi : Int32} (hD : 0 ≤ D) (hf : ¬ (h 49) 5 = 0) (kq : Q (.inl (some (.int 0))) (jj_S, 782, h, g)) : jj_R mX10_number D kc ks (jj_S, 782, h, g) 0 [(0, .ref 49), (1, .int lo), (2, .int hi)] [] Q := by
  refine rr_aload_n 0 rfl rfl dX10_number_0 ?_
  refine rr_getI dX10_number_1 fX10_111 lo_49 sh_49 rfl ?_
  refine rr_if_eq dX10_number_4 (fun c => absurd c hf) (fun _ => ?_)
  refine rr_iconst 0 rfl dX10_number_7 ?_
  refine rr_ireturn dX10_number_8 rfl ?_
  exact kq
theorem nf_sign {D kc ks : Nat} {h : hp_} {g : Nat → Nat → Int64} {Q : jj_Rs → jj_St → Prop} {s : Int32} (hD : 0 ≤ D) (hf : ¬ (h 49) 5 = 0) (kq : Q (.inl none) (jj_S, 782, h, g)) : jj_R mX10_sign D kc ks (jj_S, 782, h, g) 0 [(0, .ref 49), (1, .int s)] [] Q := by
  refine rr_aload_n 0 rfl rfl dX10_sign_0 ?_
  refine rr_getI dX10_sign_1 fX10_111 lo_49 sh_49 rfl ?_
  refine rr_if_eq dX10_sign_4 (fun c => absurd c hf) (fun _ => ?_)
  refine rr_return dX10_sign_7 rfl ?_
  exact kq
theorem nf_one {D kc ks : Nat} {h : hp_} {g : Nat → Nat → Int64} {Q : jj_Rs → jj_St → Prop}  (hD : 0 ≤ D) (hf : ¬ (h 49) 5 = 0) (kq : Q (.inl none) (jj_S, 782, h, g)) : jj_R mX10_one D kc ks (jj_S, 782, h, g) 0 [(0, .ref 49)] [] Q := by
  refine rr_aload_n 0 rfl rfl dX10_one_0 ?_
  refine rr_getI dX10_one_1 fX10_111 lo_49 sh_49 rfl ?_
  refine rr_if_eq dX10_one_4 (fun c => absurd c hf) (fun _ => ?_)
  refine rr_return dX10_one_7 rfl ?_
  exact kq
theorem nf_product {D kc ks : Nat} {h : hp_} {g : Nat → Nat → Int64} {Q : jj_Rs → jj_St → Prop}  (hD : 1 ≤ D) (hf : ¬ (h 49) 5 = 0) (kq : Q (.inl none) (jj_S, 782, h, g)) : jj_R mX10_product D kc ks (jj_S, 782, h, g) 0 [(0, .ref 49)] [] Q := by
  obtain ⟨d, rfl⟩ : ∃ d, D = d + 1 := ⟨D - 1, by omega⟩
  refine rr_aload_n 0 rfl rfl dX10_product_0 ?_
  refine rr_callV (As := []) (rest := []) (kc2 := 0) (ks2 := 0) dX10_product_1 okX10_one lX10_215 lo_49 sh_49 rfl rfl (Nat.le_of_ble_eq_true rfl) (Nat.le_of_ble_eq_true rfl) rfl (by omega) (by simp [jj_rk]) (by simp [jj_rk]) ?_
  refine nf_one (by omega) hf ?_
  show jj_R _ _ kc ks (jj_S, 782, h, g) 4 [(0, .ref 49)] [] Q
  refine rr_aload_n 0 rfl rfl dX10_product_4 ?_
  refine rr_getI dX10_product_5 fX10_111 lo_49 sh_49 rfl ?_
  refine rr_if_ne dX10_product_8 (fun _ => ?_) (fun c => absurd c hf)
  refine rr_return dX10_product_72 rfl ?_
  exact kq
theorem nf_sum {D kc ks : Nat} {h : hp_} {g : Nat → Nat → Int64} {Q : jj_Rs → jj_St → Prop}  (hD : 2 ≤ D) (hf : ¬ (h 49) 5 = 0) (kq : Q (.inl none) (jj_S, 782, h, g)) : jj_R mX10_sum D kc ks (jj_S, 782, h, g) 0 [(0, .ref 49)] [] Q := by
  obtain ⟨d, rfl⟩ : ∃ d, D = d + 2 := ⟨D - 2, by omega⟩
  refine rr_aload_n 0 rfl rfl dX10_sum_0 ?_
  refine rr_callV (As := []) (rest := []) (kc2 := 0) (ks2 := 0) dX10_sum_1 okX10_product lX10_206 lo_49 sh_49 rfl rfl (Nat.le_of_ble_eq_true rfl) (Nat.le_of_ble_eq_true rfl) rfl (by omega) (by simp [jj_rk]) (by simp [jj_rk]) ?_
  refine nf_product (by omega) hf ?_
  show jj_R _ _ kc ks (jj_S, 782, h, g) 4 [(0, .ref 49)] [] Q
  refine rr_aload_n 0 rfl rfl dX10_sum_4 ?_
  refine rr_getI dX10_sum_5 fX10_111 lo_49 sh_49 rfl ?_
  refine rr_if_ne dX10_sum_8 (fun _ => ?_) (fun c => absurd c hf)
  refine rr_return dX10_sum_58 rfl ?_
  exact kq
theorem nf_notes {D kc ks : Nat} {h : hp_} {g : Nat → Nat → Int64} {Q : jj_Rs → jj_St → Prop} {v : Int32} {w : Int32} (hD : 0 ≤ D) (hf : ¬ (h 49) 5 = 0) (kq : Q (.inl none) (jj_S, 782, h, g)) : jj_R mX10_notes D kc ks (jj_S, 782, h, g) 0 [(0, .ref 49), (1, .int v), (2, .int w)] [] Q := by
  refine rr_aload_n 0 rfl rfl dX10_notes_0 ?_
  refine rr_getI dX10_notes_1 fX10_111 lo_49 sh_49 rfl ?_
  refine rr_if_eq dX10_notes_4 (fun c => absurd c hf) (fun _ => ?_)
  refine rr_return dX10_notes_7 rfl ?_
  exact kq
