/-! ===== the class's law ===== -/
def plaw (c : Nat → Nat) (e : Nat) : Except (Nat × Nat) (List (Nat × Nat)) := pb (psum c e 6 (spn isB c e 0)) fun z => if e ≤ z.2 then .ok z.1 else .error (1, z.2)
def p0 (_ : Nat) : Bool := false
theorem cl_open {c : Nat → Nat} {N D kc ks : Nat} {h : hp_} {g : Nat → Nat → Int64} {Q : jj_Rs → jj_St → Prop} (hB : bytesok (h 14) c) (hN : N ≤ 600) (hD : 2 ≤ D) (k : ∀ h9, cst c N (spn isB c N 0) h9 → h9 13 8 = -1 → h9 13 1 = h 13 1 → (∀ x, ¬ x = 13 → h9 x = h x) → Q (.inl none) (jj_S, 782, h9, g)) : jj_R mX5_open D kc ks (jj_S, 782, h, g) 0 [(0, .ref 13), (1, .int (nI N))] [] Q := by
  obtain ⟨d, rfl⟩ : ∃ d, D = d + 2 := ⟨D - 2, by omega⟩
  obtain ⟨o1, o2, o3, o4⟩ := rd_opn (r := h 13) hB hN
  exact sp_X5_open (k _ ⟨hB, o1, o2⟩ o3 o4 (fun x hx => rs_ne hx))
/-- what a told LAW leaves; what a text with a fault leaves -/
def lawT (h h9 : hp_) (L : List (Nat × Nat)) : Prop := h9 13 7 = 0 ∧ h9 13 8 = -1 ∧ h9 7 1 = nI L.length ∧ L.length ≤ 150 ∧ (∀ i z, L[i]? = some z → h9 8 i = cel z) ∧ ∀ x, ¬ x = 7 → ¬ x = 8 → ¬ x = 9 → ¬ x = 13 → h9 x = h x
def lawE (h h9 : hp_) (k p : Nat) : Prop := h9 13 7 = nI k ∧ h9 13 8 = nI p ∧ h9 7 1 = h 7 1 ∧ ∀ x, ¬ x = 7 → ¬ x = 9 → ¬ x = 13 → h9 x = h x
theorem psum_er {c : Nat → Nat} {e : Nat} : ∀ l a k p, psum c e l a = .error (k, p) → 0 < k ∧ k < 4 := by
  have sg : ∀ X a k p, psign c e X a = .error (k, p) → 0 < k ∧ k < 4 := fun X a k p q => psign_er q
  have bb : ∀ {α β : Type} (m : Except (Nat × Nat) α) (f : α → Except (Nat × Nat) β) (k p : Nat), (∀ k p, m = .error (k, p) → 0 < k ∧ k < 4) → (∀ a k p, f a = .error (k, p) → 0 < k ∧ k < 4) → pb m f = .error (k, p) → 0 < k ∧ k < 4 := by
    intro α β m f k p h1 h2 h
    cases m with
    | error z => cases h; exact h1 k p rfl
    | ok a => exact h2 a k p h
  have one : ∀ S : Option (Nat → pC_), (∀ s, S = some s → ∀ a k p, s a = .error (k, p) → 0 < k ∧ k < 4) → ∀ a k p, pone S c e a = .error (k, p) → 0 < k ∧ k < 4 := by
    intro S hS a k p h
    have pr : ∀ how, ppair S c e how a = .error (k, p) → 0 < k ∧ k < 4 := by
      intro how h
      cases S with
      | none => cases h; decide
      | some s =>
        rw [pp_some] at h
        refine bb _ _ k p (sg _ _) (fun a k p h => ?_) h
        refine bb _ _ k p (hS s rfl _) (fun a k p h => ?_) h
        refine bb _ _ k p (sg _ _) (fun a k p h => ?_) h
        refine bb _ _ k p (hS s rfl _) (fun a k p h => ?_) h
        exact bb _ _ k p (sg _ _) (fun a k p h => by cases h) h
    unfold pone at h
    split at h
    · exact pr _ h
    · split at h
      · exact pr _ h
      · split at h
        · cases S with
          | none => cases h; decide
          | some s =>
            rw [pr_some] at h
            refine bb _ _ k p (hS s rfl _) (fun a k p h => ?_) h
            exact bb _ _ k p (sg _ _) (fun a k p h => by cases h) h
        · split at h
          · exact bb _ _ k p (fun k p q => pnum_er q) (fun a k p h => by cases h) h
          · cases h
  have lp : ∀ (P : Nat → pC_) (op : Nat → Nat), (∀ a k p, P a = .error (k, p) → 0 < k ∧ k < 4) → ∀ f L a k p, plp P op c e f L a = .error (k, p) → 0 < k ∧ k < 4 := by
    intro P op hP f
    induction f with
    | zero => intro L a k p h; cases h
    | succ f ih =>
      intro L a k p h
      rw [plp] at h
      split at h
      · cases h
      · exact bb _ _ k p (hP _) (fun z k p h => ih _ _ k p h) h
  have sm : ∀ S : Option (Nat → pC_), (∀ s, S = some s → ∀ a k p, s a = .error (k, p) → 0 < k ∧ k < 4) → ∀ a k p, psm S c e a = .error (k, p) → 0 < k ∧ k < 4 := by
    intro S hS a k p h
    have pd : ∀ a k p, pprod S c e a = .error (k, p) → 0 < k ∧ k < 4 := fun a k p h => bb _ _ k p (one S hS a) (fun z k p h => lp _ _ (one S hS) _ _ _ k p h) h
    exact bb _ _ k p (pd a) (fun z k p h => lp _ _ pd _ _ _ k p h) h
  intro l
  induction l with
  | zero => exact sm none (fun s q => by cases q)
  | succ l ih => exact sm (some (psum c e l)) (fun s q => by cases q; exact ih)
theorem plaw_er {c : Nat → Nat} {e k p : Nat} (h : plaw c e = .error (k, p)) : 0 < k ∧ k < 4 := by
  unfold plaw at h
  cases q : psum c e 6 (spn isB c e 0) with
  | error z => rw [pb_er q] at h; cases h; exact psum_er 6 _ _ _ q
  | ok z =>
    rw [pb_ok q] at h
    split at h
    · cases h
    · cases h; decide
set_option maxHeartbeats 2000000 in
theorem cl_law {c : Nat → Nat} {e D kc ks : Nat} {h : hp_} {g : Nat → Nat → Int64} {Q : jj_Rs → jj_St → Prop} (he : e ≤ 150) (hD : 33 ≤ D) (m : cst c e (spn isB c e 0) h) (h8 : h 13 8 = -1) (k1 : ∀ L h9, plaw c e = .ok L → lawT h h9 L → Q (.inl none) (jj_S, 782, h9, g)) (k2 : ∀ k p h9, plaw c e = .error (k, p) → lawE h h9 k p → Q (.inl none) (jj_S, 782, h9, g)) : jj_R mX4_readFrom D kc ks (jj_S, 782, h, g) 0 [(0, .ref 7), (1, .ref 13)] [] Q := by
  obtain ⟨d, rfl⟩ : ∃ d, D = d + 33 := ⟨D - 33, by omega⟩
  obtain ⟨h0, eh0⟩ : ∃ h0, h0 = h := ⟨h, rfl⟩
  refine rr_aload_n 0 rfl rfl dX4_readFrom_0 ?_
  refine rr_iconst 0 rfl dX4_readFrom_1 ?_
  refine rr_putI dX4_readFrom_2 fX4_45 ni4_3 lo_7 sh_7 rfl ?_
  rw [jj_rs_set0 (B := h) (o := 7) (r := (h 7)) rfl]
  refine jj_fl (fun h9 eh => ?_)
  obtain ⟨hB, ht, hf⟩ := m
  have m9 : clst c e 0 0 [] h9 (spn isB c e 0) h9 := by
    refine ⟨⟨?_, ?_, ?_⟩, ?_, Nat.zero_le _, rfl, fr_rf, fun _ _ => rfl, fun i z hi => by cases hi⟩
    · rw [eh]; exact hB
    · rw [eh]; exact ht
    · rw [eh]; exact hf
    · rw [eh]; exact jj_ueq rfl
  have z1 : h9 7 1 = h 7 1 := by rw [eh]; exact jj_une (by decide)
  have z2 : ∀ x, ¬ x = 7 → h9 x = h x := fun x q => by rw [eh]; exact rs_ne q
  have z3 : h9 13 8 = -1 := by rw [eh]; exact h8
  clear eh
  show jj_R _ _ kc ks (jj_S, 782, h9, g) 5 [(0, .ref 7), (1, .ref 13)] [] Q
  refine rr_aload_n 0 rfl rfl dX4_readFrom_5 ?_
  refine rr_aload_n 1 rfl rfl dX4_readFrom_6 ?_
  refine rr_iconst 0 rfl dX4_readFrom_7 ?_
  refine rr_callV (As := [.ref 13, .int 0]) (rest := []) (kc2 := 0) (ks2 := 0) dX4_readFrom_8 okX4_readSum lX4_48 lo_7 sh_7 rfl rfl (Nat.le_of_ble_eq_true rfl) (Nat.le_of_ble_eq_true rfl) rfl (by omega) (by simp [jj_rk]) (by simp [jj_rk]) ?_
  refine cs_lev he 6 0 rfl (by omega) rfl trivial m9 (fun L b h e1 hb m => ?_) (fun k p h e1 m => ?_)
  · skip
    show jj_R _ _ kc ks (jj_S, 782, h, g) 11 [(0, .ref 7), (1, .ref 13)] [.int 1] Q
    refine rr_if_eq dX4_readFrom_11 (fun c => absurd c (by decide)) (fun _ => ?_)
    refine rr_aload_n 1 rfl rfl dX4_readFrom_14 ?_
    refine rr_callV (As := []) (rest := []) (kc2 := 0) (ks2 := 0) dX4_readFrom_15 okX5_passEnd lX4_52 lo_13 sh_13 rfl rfl (Nat.le_of_ble_eq_true rfl) (Nat.le_of_ble_eq_true rfl) rfl (by omega) (by simp [jj_rk]) (by simp [jj_rk]) ?_
    refine cl_end (clst_R he) m (by omega) (fun q h m => ?_) (fun q h m => ?_)
    · skip
      show jj_R _ _ kc ks (jj_S, 782, h, g) 18 [(0, .ref 7), (1, .ref 13)] [.int 1] Q
      refine rr_if_eq dX4_readFrom_18 (fun c => absurd c (by decide)) (fun _ => ?_)
      refine rr_aload_n 0 rfl rfl dX4_readFrom_21 ?_
      refine rr_getR dX4_readFrom_22 fX4_15 lo_7 sh_7 rfl ?_
      refine rr_iconst 0 rfl dX4_readFrom_25 ?_
      refine rr_aload_n 0 rfl rfl dX4_readFrom_26 ?_
      refine rr_getR dX4_readFrom_27 fX4_9 lo_7 sh_7 rfl ?_
      refine rr_iconst 0 rfl dX4_readFrom_30 ?_
      refine rr_sipush 150 rfl dX4_readFrom_31 ?_
      refine rr_copy (st := []) dX4_readFrom_34 lX4_58 (Nat.le_of_ble_eq_true rfl) lo_9 lo_8 sh_9 sh_8 (by decide) (by decide) (by decide) (by decide) (by decide) ?_
      rw [← jj_rs_nil (B := h), jj_rs_cp (B := h) (L := []) (L2 := [(8, (va_cpy (h 9) (h 8) (0 : Int32).toNatClampNeg (0 : Int32).toNatClampNeg (150 : Int32).toNatClampNeg))]) (f := (h 9)) (r := (h 8)) rfl rfl rfl]
      refine rr_aload_n 0 rfl rfl dX4_readFrom_37 ?_
      refine rr_aload_n 0 rfl rfl dX4_readFrom_38 ?_
      refine rr_getI dX4_readFrom_39 fX4_45 lo_7 sh_7 rfl ?_
      rw [show (jj_rs h [(8, (va_cpy (h 9) (h 8) (0 : Int32).toNatClampNeg (0 : Int32).toNatClampNeg (150 : Int32).toNatClampNeg))]) 7 = h 7 from rfl]
      rw [show (h 7) 3 = (nI (L.length)) from (by have z9 := m.2.1; rw [List.nil_append] at z9; exact z9)]
      refine rr_putI dX4_readFrom_42 fX4_24 ni4_1 lo_7 sh_7 rfl ?_
      rw [jj_rs_set (B := h) (L := [(8, (va_cpy (h 9) (h 8) (0 : Int32).toNatClampNeg (0 : Int32).toNatClampNeg (150 : Int32).toNatClampNeg))]) (L2 := [(7, (upd (h 7) (1) (nI (L.length)))), (8, (va_cpy (h 9) (h 8) (0 : Int32).toNatClampNeg (0 : Int32).toNatClampNeg (150 : Int32).toNatClampNeg))]) (r := (h 7)) rfl rfl]
      refine rr_return dX4_readFrom_45 rfl ?_
      refine k1 L _ (by unfold plaw; rw [pb_ok e1, if_pos q]) ?_
      have hl := m.2.2.1
      have ha := m.1.2.1.1
      rw [List.nil_append] at m hl
      refine ⟨m.1.2.2, m.2.2.2.1.trans z3, jj_ueq rfl, by omega, fun i z hi => ?_, fun x x7 x8 x9 x13 => ?_⟩
      · have hi2 := (List.getElem?_eq_some_iff.mp hi).1
        show va_cpy (h 9) (h 8) 0 0 150 i = cel z
        unfold va_cpy
        rw [if_pos (by omega), show 0 + (i - 0) = i by omega]
        exact m.2.2.2.2.2.2 i z hi
      · have f := m.2.2.2.2.1.1 x (by simp [pK]; omega) x13
        have e7 : (x == 7) = false := by rw [beq_eq_false_iff_ne]; exact x7
        have e8 : (x == 8) = false := by rw [beq_eq_false_iff_ne]; exact x8
        simp only [jj_rs, List.lookup, e7, e8]
        exact f.trans (z2 x x7)
    · skip
      show jj_R _ _ kc ks (jj_S, 782, h, g) 18 [(0, .ref 7), (1, .ref 13)] [.int 0] Q
      refine rr_if_eq dX4_readFrom_18 (fun _ => ?_) (fun c => absurd (by decide) c)
      refine rr_return dX4_readFrom_45 rfl ?_
      refine k2 1 b _ (by unfold plaw; rw [pb_ok e1, if_neg q]) ⟨m.1, m.2.1, (m.2.2.2.2 1 (by decide)).trans z1, fun x x7 x9 x13 => ?_⟩
      exact (m.2.2.2.1.1 x (by simp [pK]; omega) x13).trans (z2 x x7)
  · skip
    show jj_R _ _ kc ks (jj_S, 782, h, g) 11 [(0, .ref 7), (1, .ref 13)] [.int 0] Q
    refine rr_if_eq dX4_readFrom_11 (fun _ => ?_) (fun c => absurd (by decide) c)
    refine rr_return dX4_readFrom_45 rfl ?_
    refine k2 k p _ (by unfold plaw; rw [pb_er e1]) ⟨m.1, m.2.1, (m.2.2.2.2 1 (by decide)).trans z1, fun x x7 x9 x13 => ?_⟩
    exact (m.2.2.2.1.1 x (by simp [pK]; omega) x13).trans (z2 x x7)
