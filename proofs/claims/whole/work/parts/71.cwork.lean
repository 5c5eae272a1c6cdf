/-! ===== the class reads a WORK ===== -/
def pV (x : Nat) : Bool := x == 21 || (x == 22 || (x == 23 || x == 24))
theorem pV_no {x : Nat} (p : pV x = false) : (x == 21) = false ∧ (x == 22) = false ∧ (x == 23) = false ∧ (x == 24) = false := by
  unfold pV at p
  rw [Bool.or_eq_false_iff, Bool.or_eq_false_iff, Bool.or_eq_false_iff] at p
  exact p
def crl (z : wE_) (a b d : Int32) : Prop := a = nI z.1 ∧ (∀ v, z.2.1 = some v → b = nI v) ∧ (∀ v, z.2.2.1 = some v → d = nI v) ∧ (z.1 = 6 → ∀ v, z.2.2.2 = some v → d = nI v)
def cwst (c : Nat → Nat) (e n s : Nat) (L : List wE_) (h0 : hp_) (a : Nat) (h : hp_) : Prop := cst c e a h ∧ h 21 4 = nI L.length ∧ 4 * L.length ≤ a + s ∧ h 13 8 = h0 13 8 ∧ fr 13 pV fC h0 h ∧ (∀ i, ¬ i = 4 → h 21 i = h0 21 i) ∧ h 21 5 = nI n ∧ ∀ i z, L[i]? = some z → crl z (h 22 i) (h 23 i) (h 24 i)
def cwer (h0 : hp_) (k p : Nat) (h : hp_) : Prop := h 13 7 = nI k ∧ h 13 8 = nI p ∧ fr 13 pV fC h0 h ∧ (∀ i, ¬ i = 4 → h 21 i = h0 21 i)
theorem cwst_R {c : Nat → Nat} {e n s : Nat} {L : List wE_} {h0 : hp_} : crd c e (cwst c e n s L h0) (cwer h0) := by
  refine ⟨fun a h m => m.1, fun a b h r m hab hr => ?_, fun a h r k p m hk hk2 hr => ?_⟩
  · obtain ⟨⟨m1, m1b, m1c⟩, m2, m3, m4, m5, m6, m7, m8⟩ := m
    obtain ⟨r1, r2, r3, r4⟩ := hr
    exact ⟨⟨m1, r1, r2.trans m1c⟩, m2, by omega, r3.trans m4, fr_tr m5 (fr_put (fun i p => by rw [fC_1 p]; exact r4)), m6, m7, m8⟩
  · obtain ⟨⟨m1, m1b, m1c⟩, m2, m3, m4, m5, m6, m7, m8⟩ := m
    exact ⟨hr.1, hr.2.1, fr_tr m5 (fr_put (fun i p => by rw [fC_1 p]; exact hr.2.2)), m6⟩
theorem cwst_s {c : Nat → Nat} {e n s s2 a : Nat} {L : List wE_} {h0 h : hp_} (m : cwst c e n s L h0 a h) (hx : 4 * L.length ≤ a + s2) : cwst c e n s2 L h0 a h := ⟨m.1, m.2.1, hx, m.2.2.2⟩
theorem fr_23 {h : hp_} {r : Nat → Int32} : fr 13 pV fC h (jj_rs h [(23, r)]) := ⟨fun x hx _ => by have := pV_no hx; simp [jj_rs, List.lookup, this.2.2.1], fun i p => rfl⟩
theorem fr_24 {h : hp_} {r : Nat → Int32} : fr 13 pV fC h (jj_rs h [(24, r)]) := ⟨fun x hx _ => by have := pV_no hx; simp [jj_rs, List.lookup, this.2.2.2], fun i p => rfl⟩
theorem cwer_23 {k p : Nat} {h0 h : hp_} {r : Nat → Int32} (m : cwer h0 k p h) : cwer h0 k p (jj_rs h [(23, r)]) := ⟨m.1, m.2.1, fr_tr m.2.2.1 fr_23, m.2.2.2⟩
theorem cwer_24 {k p : Nat} {h0 h : hp_} {r : Nat → Int32} (m : cwer h0 k p h) : cwer h0 k p (jj_rs h [(24, r)]) := ⟨m.1, m.2.1, fr_tr m.2.2.1 fr_24, m.2.2.2⟩
theorem cwst_new {c : Nat → Nat} {e n s s2 a K : Nat} {L : List wE_} {h0 h : hp_} {V : Int32} (he : e ≤ 150) (m : cwst c e n s L h0 a h) (hL : L.length < 38) (hx : 4 * (L.length + 1) ≤ a + s2) (eV : V = nI K) : cwst c e n s2 (L ++ [(K, none, none, none)]) h0 a (jj_rs h [(21, upd (h 21) 4 (nI L.length + 1)), (22, upd (h 22) (nI L.length).toNatClampNeg V)]) := by
  obtain ⟨m1, m2, m3, m4, m5, m6, m7, m8⟩ := m
  rw [nI_clamp (by omega)]
  refine ⟨m1, (jj_ueq rfl).trans (by rw [nI_1, List.length_append]; rfl), by rw [List.length_append, List.length_singleton]; exact hx, m4, fr_tr m5 ⟨fun x hx _ => by have := pV_no hx; simp [jj_rs, List.lookup, this.1, this.2.1], fun i p => rfl⟩, fun i hi => (jj_une hi).trans (m6 i hi), (jj_une (by decide)).trans m7, fun i z hi => ?_⟩
  show crl z (upd (h 22) L.length V i) (h 23 i) (h 24 i)
  by_cases q : i < L.length
  · rw [List.getElem?_append_left q] at hi
    rw [jj_une (by omega)]
    exact m8 i z hi
  · rw [List.getElem?_append_right (by omega)] at hi
    have hq : i - L.length = 0 := by
      rcases Nat.eq_zero_or_pos (i - L.length) with u | u
      · exact u
      · rw [List.getElem?_eq_none (by rw [List.length_singleton]; omega)] at hi; cases hi
    rw [hq] at hi
    have hz : z = (K, none, none, none) := by simpa using hi.symm
    rw [jj_ueq (by omega), hz, eV]
    exact ⟨rfl, fun v q => (by cases q), fun v q => (by cases q), fun _ v q => by cases q⟩
theorem cwst_23 {c : Nat → Nat} {e n s a w : Nat} {L L2 : List wE_} {z z2 : wE_} {h0 h : hp_} {V : Int32} (he : e ≤ 150) (m : cwst c e n s L h0 a h) (hL : L.length ≤ 38) (hw : L[w]? = some z) (e2 : L.set w z2 = L2) (hz : ∀ x y d, crl z x y d → crl z2 x V d) : cwst c e n s L2 h0 a (jj_rs h [(23, upd (h 23) (nI w).toNatClampNeg V)]) := by
  subst e2
  obtain ⟨m1, m2, m3, m4, m5, m6, m7, m8⟩ := m
  have hw2 : w < L.length := (List.getElem?_eq_some_iff.mp hw).1
  rw [nI_clamp (by omega)]
  refine ⟨m1, by rw [List.length_set]; exact m2, by rw [List.length_set]; exact m3, m4, fr_tr m5 fr_23, m6, m7, fun i y hi => ?_⟩
  show crl y (h 22 i) (upd (h 23) w V i) (h 24 i)
  by_cases q : i = w
  · subst q
    rw [List.getElem?_set_self hw2] at hi
    cases hi
    rw [jj_ueq rfl]
    exact hz _ _ _ (m8 i z hw)
  · rw [List.getElem?_set_ne (fun u => q u.symm)] at hi
    rw [jj_une q]
    exact m8 i y hi
theorem cwst_24 {c : Nat → Nat} {e n s a w : Nat} {L L2 : List wE_} {z z2 : wE_} {h0 h : hp_} {V : Int32} (he : e ≤ 150) (m : cwst c e n s L h0 a h) (hL : L.length ≤ 2000) (hw : L[w]? = some z) (e2 : L.set w z2 = L2) (hz : ∀ x y d, crl z x y d → crl z2 x y V) : cwst c e n s L2 h0 a (jj_rs h [(24, upd (h 24) (nI w).toNatClampNeg V)]) := by
  subst e2
  obtain ⟨m1, m2, m3, m4, m5, m6, m7, m8⟩ := m
  have hw2 : w < L.length := (List.getElem?_eq_some_iff.mp hw).1
  rw [nI_clamp (by omega)]
  refine ⟨m1, by rw [List.length_set]; exact m2, by rw [List.length_set]; exact m3, m4, fr_tr m5 fr_24, m6, m7, fun i y hi => ?_⟩
  show crl y (h 22 i) (h 23 i) (upd (h 24) w V i)
  by_cases q : i = w
  · subst q
    rw [List.getElem?_set_self hw2] at hi
    cases hi
    rw [jj_ueq rfl]
    exact hz _ _ _ (m8 i z hw)
  · rw [List.getElem?_set_ne (fun u => q u.symm)] at hi
    rw [jj_une q]
    exact m8 i y hi
theorem crl_1 {K v : Nat} {x y d : Int32} (h : crl (K, none, none, none) x y d) : crl (K, some v, none, none) x (nI v) d := ⟨h.1, fun u q => (by cases q; rfl), fun u q => (by cases q), fun _ u q => by cases q⟩
theorem crl_0 {K : Nat} {x y V d : Int32} (h : crl (K, none, none, none) x y d) : crl (K, none, none, none) x V d := ⟨h.1, fun u q => (by cases q), fun u q => (by cases q), fun _ u q => by cases q⟩
theorem crl_2 {K v w t : Nat} {x y d : Int32} (hK : ¬ K = 6) (h : crl (K, some v, none, none) x y d) : crl (K, some v, some w, some t) x y (nI w) := ⟨h.1, h.2.1, fun u q => (by cases q; rfl), fun q => absurd q hK⟩
theorem crl_n {K t : Nat} {f : Option Nat} {x y d V : Int32} (hK : ¬ K = 6) (h : crl (K, f, none, none) x y d) : crl (K, f, none, some t) x y V := ⟨h.1, h.2.1, fun u q => (by cases q), fun q => absurd q hK⟩
theorem crl_z {K : Nat} {f : Option Nat} {x y d V : Int32} (h : crl (K, f, none, none) x y d) : crl (K, f, none, none) x y V := ⟨h.1, h.2.1, fun u q => (by cases q), fun _ u q => by cases q⟩
theorem crl_6 {K t : Nat} {f : Option Nat} {x y d : Int32} (h : crl (K, f, none, none) x y d) : crl (K, f, none, some t) x y (nI t) := ⟨h.1, h.2.1, fun u q => (by cases q), fun _ u q => by cases q; rfl⟩
def cwspec (M : jj_Mt) (B : Nat) (ok : Nat → Prop) (par : Nat → Nat → pW_) (c : Nat → Nat) (e n o : Nat) : Prop := ∀ ⦃D kc ks a : Nat⦄ ⦃v : Int32⦄ ⦃L0 : List wE_⦄ ⦃h0 h : hp_⦄ ⦃g : Nat → Nat → Int64⦄ ⦃Q : jj_Rs → jj_St → Prop⦄, B ≤ D → v = nI o → ok a → cwst c e n 0 L0 h0 a h →
  (∀ L b h9, par L0.length a = .ok (L, b) → a ≤ b → cwst c e n 0 (L0 ++ L) h0 b h9 → Q (.inl (some (.int 1))) (jj_S, 782, h9, g)) →
  (∀ k p h9, par L0.length a = .error (k, p) → cwer h0 k p h9 → Q (.inl (some (.int 0))) (jj_S, 782, h9, g)) → jj_R M D kc ks (jj_S, 782, h, g) 0 [(0, .ref 21), (1, .ref 13), (2, .int v)] [] Q
set_option maxHeartbeats 2000000 in
theorem cw_loop {c : Nat → Nat} {e n o B : Nat} {P : Nat → Nat → pW_} (he : e ≤ 150) (hP : cwspec mX8_readStep B (fun a => kd c e a = 2) P c e n o) (hPg : ∀ row a L b, P row a = .ok (L, b) → a < b) (f : Nat) : ∀ {D kc ks a row i : Nat} {v : Int32} {L1 F : List wE_} {h0 h : hp_} {g : Nat → Nat → Int64} {Q : jj_Rs → jj_St → Prop}, B + 1 ≤ D → v = nI o → row = L1.length → e - a ≤ f → i + (e - a) ≤ 150 → cwst c e n 0 (L1 ++ F) h0 a h → (∀ B9 b h9, plw P c e row f F a = .ok (B9, b) → a ≤ b → cwst c e n 0 (L1 ++ B9) h0 b h9 → Q (.inl (some (.int 1))) (jj_S, 782, h9, g)) → (∀ k p h9, plw P c e row f F a = .error (k, p) → cwer h0 k p h9 → Q (.inl (some (.int 0))) (jj_S, 782, h9, g)) → jj_R mX8_readSteps D kc ks (jj_S, 782, h, g) 2 [(0, .ref 21), (1, .ref 13), (2, .int v), (3, .int (nI i))] [] Q := by
  induction f with
  | zero =>
    intro D0 kc ks a row i v L1 F h0 h g Q hD hv hrow hm hi m k1 k2
    obtain ⟨d, rfl⟩ : ∃ d, D0 = d + 1 := ⟨D0 - 1, by omega⟩
    have hae := m.1.2.1.1
    refine rr_iload_n 3 rfl rfl dX8_readSteps_2 ?_
    refine rr_sipush 150 rfl dX8_readSteps_3 ?_
    refine rr_icmp_ge dX8_readSteps_6 (fun c1 => ?_) (fun c1 => ?_)
    · skip
      have i5 : 150 ≤ i := (nI_leI (a := 150) (by decide) (by omega)).mp c1
      have k0 := kd_end (c := c) (e := e) (a := a)
      have hop : ¬ kd c e a = 2 := by rw [k0.mpr (by omega)]; decide
      refine rr_iconst 1 rfl dX8_readSteps_34 ?_
      refine rr_nreturn dX8_readSteps_35 rfl (by first | rfl | assumption) ?_
      exact k1 F a h (plw_0 hop _) (Nat.le_refl a) m
    · skip
      refine rr_aload_n 1 rfl rfl dX8_readSteps_9 ?_
      refine rr_getI dX8_readSteps_10 fX8_42 lo_13 sh_13 rfl ?_
      rw [show (h 13) 4 = (nI (kd c e a)) from m.1.2.1.2.2.2.2.1]
      refine rr_iconst 2 rfl dX8_readSteps_13 ?_
      refine rr_icmp_ne dX8_readSteps_14 (fun c2 => ?_) (fun c2 => ?_)
      · skip
        have hop : ¬ kd c e a = 2 := fun q => by
          rw [q] at c2
          exact c2 rfl
        refine rr_iconst 1 rfl dX8_readSteps_34 ?_
        refine rr_nreturn dX8_readSteps_35 rfl (by first | rfl | assumption) ?_
        exact k1 F a h (plw_0 hop _) (Nat.le_refl a) m
      · skip
        have k2x : kd c e a = 2 := (nI_eq (a := kd c e a) (b := 2) (by have := kd_lt (c := c) (e := e) (a := a); omega) (by decide)).mp c2
        have ae := kd_in (c := c) (e := e) (a := a) (by omega)
        exact absurd ae (by omega)
  | succ f ih =>
    intro D0 kc ks a row i v L1 F h0 h g Q hD hv hrow hm hi m k1 k2
    obtain ⟨d, rfl⟩ : ∃ d, D0 = d + 1 := ⟨D0 - 1, by omega⟩
    have hae := m.1.2.1.1
    refine rr_iload_n 3 rfl rfl dX8_readSteps_2 ?_
    refine rr_sipush 150 rfl dX8_readSteps_3 ?_
    refine rr_icmp_ge dX8_readSteps_6 (fun c1 => ?_) (fun c1 => ?_)
    · skip
      have i5 : 150 ≤ i := (nI_leI (a := 150) (by decide) (by omega)).mp c1
      have k0 := kd_end (c := c) (e := e) (a := a)
      have hop : ¬ kd c e a = 2 := by rw [k0.mpr (by omega)]; decide
      refine rr_iconst 1 rfl dX8_readSteps_34 ?_
      refine rr_nreturn dX8_readSteps_35 rfl (by first | rfl | assumption) ?_
      exact k1 F a h (plw_0 hop _) (Nat.le_refl a) m
    · skip
      refine rr_aload_n 1 rfl rfl dX8_readSteps_9 ?_
      refine rr_getI dX8_readSteps_10 fX8_42 lo_13 sh_13 rfl ?_
      rw [show (h 13) 4 = (nI (kd c e a)) from m.1.2.1.2.2.2.2.1]
      refine rr_iconst 2 rfl dX8_readSteps_13 ?_
      refine rr_icmp_ne dX8_readSteps_14 (fun c2 => ?_) (fun c2 => ?_)
      · skip
        have hop : ¬ kd c e a = 2 := fun q => by
          rw [q] at c2
          exact c2 rfl
        refine rr_iconst 1 rfl dX8_readSteps_34 ?_
        refine rr_nreturn dX8_readSteps_35 rfl (by first | rfl | assumption) ?_
        exact k1 F a h (plw_0 hop _) (Nat.le_refl a) m
      · skip
        have k2x : kd c e a = 2 := (nI_eq (a := kd c e a) (b := 2) (by have := kd_lt (c := c) (e := e) (a := a); omega) (by decide)).mp c2
        have ae := kd_in (c := c) (e := e) (a := a) (by omega)
        refine rr_aload_n 0 rfl rfl dX8_readSteps_17 ?_
        refine rr_aload_n 1 rfl rfl dX8_readSteps_18 ?_
        refine rr_iload_n 2 rfl rfl dX8_readSteps_19 ?_
        refine rr_callV (As := [.ref 13, .int v]) (rest := []) (kc2 := 0) (ks2 := 0) dX8_readSteps_20 okX8_readStep lX8_44 lo_21 sh_21 rfl rfl (Nat.le_of_ble_eq_true rfl) (Nat.le_of_ble_eq_true rfl) rfl (by omega) (by simp [jj_rk]) (by simp [jj_rk]) ?_
        refine hP (by omega) hv k2x m (fun L2 b2 h e1 hb2 m => ?_) (fun k p h e1 m => ?_)
        · skip
          rw [List.length_append, ← hrow] at e1
          rw [plw_s k2x, pb_ok e1] at k1 k2
          show jj_R _ _ kc ks (jj_S, 782, h, g) 23 [(0, .ref 21), (1, .ref 13), (2, .int v), (3, .int (nI i))] [.int 1] Q
          refine rr_if_ne dX8_readSteps_23 (fun _ => ?_) (fun c => absurd c (by decide))
          refine rr_iinc 3 1 [(0, .ref 21), (1, .ref 13), (2, .int v), (3, .int ((nI i) + 1))] dX8_readSteps_28 rfl rfl (by decide) rfl ?_
          refine rr_goto dX8_readSteps_31 ?_
          rw [nI_1]
          have m9 : cwst c e n 0 (L1 ++ (F ++ L2)) h0 b2 h := by simpa only [List.append_assoc] using m
          have hgt := hPg _ _ _ _ e1
          refine ih (F := F ++ L2) hD hv hrow (by omega) (by omega) m9 (fun B9 b9 h9 q1 q2 q3 => k1 B9 b9 h9 q1 (by omega) q3) k2
        · skip
          rw [List.length_append, ← hrow] at e1
          rw [plw_s k2x, pb_er e1] at k2
          show jj_R _ _ kc ks (jj_S, 782, h, g) 23 [(0, .ref 21), (1, .ref 13), (2, .int v), (3, .int (nI i))] [.int 0] Q
          refine rr_if_ne dX8_readSteps_23 (fun c => absurd c (by decide)) (fun _ => ?_)
          refine rr_iconst 0 rfl dX8_readSteps_26 ?_
          refine rr_nreturn dX8_readSteps_27 rfl (by first | rfl | assumption) ?_
          exact k2 k p h rfl m
theorem cw_steps {c : Nat → Nat} {e n o B : Nat} {P : Nat → Nat → pW_} (he : e ≤ 150) (hP : cwspec mX8_readStep B (fun a => kd c e a = 2) P c e n o) (hPg : ∀ row a L b, P row a = .ok (L, b) → a < b) : cwspec mX8_readSteps (B + 1) (fun _ => True) (fun row a => plw P c e row e [] a) c e n o := by
  intro D kc ks a v L0 h0 h g Q hD hv _ m k1 k2
  dsimp only at k1 k2
  refine rr_iconst 0 rfl dX8_readSteps_0 ?_
  refine rr_istore_n [(0, .ref 21), (1, .ref 13), (2, .int v), (3, .int 0)] dX8_readSteps_1 rfl (by decide) rfl ?_
  refine cw_loop (i := 0) (F := []) (L1 := L0) (row := L0.length) he hP hPg e hD hv rfl (by omega) (by omega) (by rw [List.append_nil]; exact m) k1 k2
theorem pb_inv {α β : Type} {m : Except (Nat × Nat) α} {f : α → Except (Nat × Nat) β} {z : β} (h : pb m f = .ok z) : ∃ a, m = .ok a ∧ f a = .ok z := by
  cases m with
  | error w => cases h
  | ok a => exact ⟨a, rfl, h⟩
theorem pz_ok {α : Type} {m : Except (Nat × Nat) Nat} {s : Nat → Except (Nat × Nat) (List wE_ × Nat)} {c : Nat → Nat} {e : Nat} {F : Nat → List wE_ → Except (Nat × Nat) α} {B : List wE_} {b : Nat} (h : (pb m fun b => pb (s b) fun w => pb (psign c e 93 w.2) fun b2 => (.ok (w.1, b2) : pW_)) = .ok (B, b)) : (pb m fun b => pb (s b) fun w => pb (psign c e 93 w.2) fun b2 => F b2 w.1) = F b B := by
  obtain ⟨x, q1, h⟩ := pb_inv h
  obtain ⟨y, q2, h⟩ := pb_inv h
  obtain ⟨w, q3, h⟩ := pb_inv h
  cases h
  rw [pb_ok q1, pb_ok q2, pb_ok q3]
theorem pz_er {α : Type} {m : Except (Nat × Nat) Nat} {s : Nat → Except (Nat × Nat) (List wE_ × Nat)} {c : Nat → Nat} {e : Nat} {F : Nat → List wE_ → Except (Nat × Nat) α} {z : Nat × Nat} (h : (pb m fun b => pb (s b) fun w => pb (psign c e 93 w.2) fun b2 => (.ok (w.1, b2) : pW_)) = .error z) : (pb m fun b => pb (s b) fun w => pb (psign c e 93 w.2) fun b2 => F b2 w.1) = .error z := by
  cases m with
  | error w => cases h; rfl
  | ok x =>
    have h1 : (pb (s x) fun w => pb (psign c e 93 w.2) fun b2 => (.ok (w.1, b2) : pW_)) = .error z := h
    show (pb (s x) fun w => pb (psign c e 93 w.2) fun b2 => F b2 w.1) = .error z
    clear h
    generalize s x = y at h1 ⊢
    cases y with
    | error w => cases h1; rfl
    | ok y =>
      have h2 : (pb (psign c e 93 y.2) fun b2 => (.ok (y.1, b2) : pW_)) = .error z := h1
      show (pb (psign c e 93 y.2) fun b2 => F b2 y.1) = .error z
      clear h1
      generalize psign c e 93 y.2 = u at h2 ⊢
      cases u with
      | error w => cases h2; rfl
      | ok u => cases h2
set_option maxHeartbeats 2000000 in
theorem cw_rep {c : Nat → Nat} {e n o B : Nat} {s : Nat → Nat → pW_} {D kc ks a v1 : Nat} {v : Int32} {L0 : List wE_} {h0 h : hp_} {g : Nat → Nat → Int64} {Q : jj_Rs → jj_St → Prop} (he : e ≤ 150) (hs : cwspec mX8_readSteps B (fun _ => True) s c e n (o + 1)) (hD : B + 1 ≤ D ∧ 3 ≤ D) (hv : v = nI o) (hL : L0.length < 38) (m : cwst c e n 0 (L0 ++ [(6, some v1, none, none)]) h0 a h) (k1 : ∀ B3 b h9, (pb (psign c e 91 a) fun b => pb (s (L0.length + 1) b) fun w => pb (psign c e 93 w.2) fun b2 => (.ok (w.1, b2) : pW_)) = .ok (B3, b) → a ≤ b → cwst c e n 0 (L0 ++ (6, some v1, none, some (L0.length + 1 + B3.length)) :: B3) h0 b h9 → Q (.inl (some (.int 1))) (jj_S, 782, h9, g)) (k2 : ∀ k p h9, (pb (psign c e 91 a) fun b => pb (s (L0.length + 1) b) fun w => pb (psign c e 93 w.2) fun b2 => (.ok (w.1, b2) : pW_)) = .error (k, p) → cwer h0 k p h9 → Q (.inl (some (.int 0))) (jj_S, 782, h9, g)) : jj_R mX8_readRepeated D kc ks (jj_S, 782, h, g) 0 [(0, .ref 21), (1, .ref 13), (2, .int v), (3, .int (nI L0.length))] [] Q := by
  have he6 : e ≤ 600 := by omega
  obtain ⟨d, rfl⟩ : ∃ d, D = d + 3 := ⟨D - 3, by omega⟩
  have ll1 : (L0 ++ [(6, some v1, none, none)] : List wE_).length = L0.length + 1 := by rw [List.length_append, List.length_cons, List.length_nil]
  refine rr_aload_n 1 rfl rfl dX8_readRepeated_0 ?_
  refine rr_bipush 91 rfl dX8_readRepeated_1 ?_
  refine rr_callV (As := [.int 91]) (rest := []) (kc2 := 0) (ks2 := 0) dX8_readRepeated_3 okX5_passSign lX8_65 lo_13 sh_13 rfl rfl (Nat.le_of_ble_eq_true rfl) (Nat.le_of_ble_eq_true rfl) rfl (by omega) (by simp [jj_rk]) (by simp [jj_rk]) ?_
  refine cl_sign (X := 91) cwst_R he6 (by decide) m (by omega) (fun b1 h e1 hb1 m => ?_) (fun k p h e1 m => ?_)
  · skip
    rw [pb_ok e1] at k1 k2
    show jj_R _ _ kc ks (jj_S, 782, h, g) 6 [(0, .ref 21), (1, .ref 13), (2, .int v), (3, .int (nI (L0.length)))] [.int 1] Q
    refine rr_if_eq dX8_readRepeated_6 (fun c => absurd c (by decide)) (fun _ => ?_)
    refine rr_aload_n 0 rfl rfl dX8_readRepeated_9 ?_
    refine rr_aload_n 1 rfl rfl dX8_readRepeated_10 ?_
    refine rr_iload_n 2 rfl rfl dX8_readRepeated_11 ?_
    refine rr_iconst 1 rfl dX8_readRepeated_12 ?_
    refine rr_iadd dX8_readRepeated_13 ?_
    refine rr_callV (As := [.ref 13, .int (v + 1)]) (rest := []) (kc2 := 0) (ks2 := 0) dX8_readRepeated_14 okX8_readSteps lX8_32 lo_21 sh_21 rfl rfl (Nat.le_of_ble_eq_true rfl) (Nat.le_of_ble_eq_true rfl) rfl (by omega) (by simp [jj_rk]) (by simp [jj_rk]) ?_
    refine hs (by omega) (by rw [hv, nI_1]) trivial m (fun B3 b3 h e1 hb3 m => ?_) (fun k p h e1 m => ?_)
    · skip
      rw [ll1] at e1
      rw [pb_ok e1] at k1 k2
      show jj_R _ _ kc ks (jj_S, 782, h, g) 17 [(0, .ref 21), (1, .ref 13), (2, .int v), (3, .int (nI (L0.length)))] [.int 1] Q
      refine rr_if_eq dX8_readRepeated_17 (fun c => absurd c (by decide)) (fun _ => ?_)
      refine rr_aload_n 1 rfl rfl dX8_readRepeated_20 ?_
      refine rr_bipush 93 rfl dX8_readRepeated_21 ?_
      refine rr_callV (As := [.int 93]) (rest := []) (kc2 := 0) (ks2 := 0) dX8_readRepeated_23 okX5_passSign lX8_65 lo_13 sh_13 rfl rfl (Nat.le_of_ble_eq_true rfl) (Nat.le_of_ble_eq_true rfl) rfl (by omega) (by simp [jj_rk]) (by simp [jj_rk]) ?_
      refine cl_sign (X := 93) cwst_R he6 (by decide) m (by omega) (fun b4 h e1 hb4 m => ?_) (fun k p h e1 m => ?_)
      · skip
        rw [pb_ok e1] at k1 k2
        have m8 : cwst c e n 0 (L0 ++ (6, some v1, none, none) :: B3) h0 b4 h := by simpa only [List.append_assoc, List.singleton_append] using m
        have hl9 := m8.2.2.1
        have hae := m8.1.2.1.1
        have hsz : h 21 4 = nI (L0.length + 1 + B3.length) := m8.2.1.trans (congrArg nI (by rw [List.length_append, List.length_cons]; omega))
        show jj_R _ _ kc ks (jj_S, 782, h, g) 26 [(0, .ref 21), (1, .ref 13), (2, .int v), (3, .int (nI (L0.length)))] [.int 1] Q
        refine rr_if_eq dX8_readRepeated_26 (fun c => absurd c (by decide)) (fun _ => ?_)
        refine rr_iconst 1 rfl dX8_readRepeated_29 ?_
        refine rr_goto dX8_readRepeated_30 ?_
        refine rr_istore [(0, .ref 21), (1, .ref 13), (2, .int v), (3, .int (nI (L0.length))), (4, .int 1)] dX8_readRepeated_34 (by decide) rfl ?_
        refine rr_aload_n 0 rfl rfl dX8_readRepeated_36 ?_
        refine rr_getR dX8_readRepeated_37 fX8_18 lo_21 sh_21 rfl ?_
        refine rr_iload_n 3 rfl rfl dX8_readRepeated_40 ?_
        refine rr_aload_n 0 rfl rfl dX8_readRepeated_41 ?_
        refine rr_getI dX8_readRepeated_42 fX8_25 lo_21 sh_21 rfl ?_
        rw [show (h 21) 4 = (nI (L0.length + 1 + B3.length)) from hsz]
        refine rr_iastore dX8_readRepeated_45 lo_24 sh_24 (vp_in_nI (by omega) (by decide)) ?_
        rw [jj_rs_set0 (B := h) (o := 24) (r := (h 24)) rfl]
        refine rr_iload 4 rfl dX8_readRepeated_46 ?_
        refine rr_nreturn dX8_readRepeated_48 rfl (by first | rfl | assumption) ?_
        refine k1 B3 b4 _ rfl (by omega) ?_
        exact cwst_24 he m8 (by omega) la_get la_set (fun x y d q => crl_6 q)
      · skip
        rw [pb_er e1] at k2
        show jj_R _ _ kc ks (jj_S, 782, h, g) 26 [(0, .ref 21), (1, .ref 13), (2, .int v), (3, .int (nI (L0.length)))] [.int 0] Q
        refine rr_if_eq dX8_readRepeated_26 (fun _ => ?_) (fun c => absurd (by decide) c)
        refine rr_iconst 0 rfl dX8_readRepeated_33 ?_
        refine rr_istore [(0, .ref 21), (1, .ref 13), (2, .int v), (3, .int (nI (L0.length))), (4, .int 0)] dX8_readRepeated_34 (by decide) rfl ?_
        refine rr_aload_n 0 rfl rfl dX8_readRepeated_36 ?_
        refine rr_getR dX8_readRepeated_37 fX8_18 lo_21 sh_21 rfl ?_
        refine rr_iload_n 3 rfl rfl dX8_readRepeated_40 ?_
        refine rr_aload_n 0 rfl rfl dX8_readRepeated_41 ?_
        refine rr_getI dX8_readRepeated_42 fX8_25 lo_21 sh_21 rfl ?_
        refine rr_iastore dX8_readRepeated_45 lo_24 sh_24 (vp_in_nI (by omega) (by decide)) ?_
        rw [jj_rs_set0 (B := h) (o := 24) (r := (h 24)) rfl]
        refine rr_iload 4 rfl dX8_readRepeated_46 ?_
        refine rr_nreturn dX8_readRepeated_48 rfl (by first | rfl | assumption) ?_
        exact k2 k p _ rfl (cwer_24 m)
    · skip
      rw [ll1] at e1
      rw [pb_er e1] at k2
      show jj_R _ _ kc ks (jj_S, 782, h, g) 17 [(0, .ref 21), (1, .ref 13), (2, .int v), (3, .int (nI (L0.length)))] [.int 0] Q
      refine rr_if_eq dX8_readRepeated_17 (fun _ => ?_) (fun c => absurd (by decide) c)
      refine rr_iconst 0 rfl dX8_readRepeated_33 ?_
      refine rr_istore [(0, .ref 21), (1, .ref 13), (2, .int v), (3, .int (nI (L0.length))), (4, .int 0)] dX8_readRepeated_34 (by decide) rfl ?_
      refine rr_aload_n 0 rfl rfl dX8_readRepeated_36 ?_
      refine rr_getR dX8_readRepeated_37 fX8_18 lo_21 sh_21 rfl ?_
      refine rr_iload_n 3 rfl rfl dX8_readRepeated_40 ?_
      refine rr_aload_n 0 rfl rfl dX8_readRepeated_41 ?_
      refine rr_getI dX8_readRepeated_42 fX8_25 lo_21 sh_21 rfl ?_
      refine rr_iastore dX8_readRepeated_45 lo_24 sh_24 (vp_in_nI (by omega) (by decide)) ?_
      rw [jj_rs_set0 (B := h) (o := 24) (r := (h 24)) rfl]
      refine rr_iload 4 rfl dX8_readRepeated_46 ?_
      refine rr_nreturn dX8_readRepeated_48 rfl (by first | rfl | assumption) ?_
      exact k2 k p _ rfl (cwer_24 m)
  · skip
    rw [pb_er e1] at k2
    show jj_R _ _ kc ks (jj_S, 782, h, g) 6 [(0, .ref 21), (1, .ref 13), (2, .int v), (3, .int (nI (L0.length)))] [.int 0] Q
    refine rr_if_eq dX8_readRepeated_6 (fun _ => ?_) (fun c => absurd (by decide) c)
    refine rr_iconst 0 rfl dX8_readRepeated_33 ?_
    refine rr_istore [(0, .ref 21), (1, .ref 13), (2, .int v), (3, .int (nI (L0.length))), (4, .int 0)] dX8_readRepeated_34 (by decide) rfl ?_
    refine rr_aload_n 0 rfl rfl dX8_readRepeated_36 ?_
    refine rr_getR dX8_readRepeated_37 fX8_18 lo_21 sh_21 rfl ?_
    refine rr_iload_n 3 rfl rfl dX8_readRepeated_40 ?_
    refine rr_aload_n 0 rfl rfl dX8_readRepeated_41 ?_
    refine rr_getI dX8_readRepeated_42 fX8_25 lo_21 sh_21 rfl ?_
    refine rr_iastore dX8_readRepeated_45 lo_24 sh_24 (vp_in_nI (by omega) (by decide)) ?_
    rw [jj_rs_set0 (B := h) (o := 24) (r := (h 24)) rfl]
    refine rr_iload 4 rfl dX8_readRepeated_46 ?_
    refine rr_nreturn dX8_readRepeated_48 rfl (by first | rfl | assumption) ?_
    exact k2 k p _ rfl (cwer_24 m)
set_option maxHeartbeats 4000000 in
theorem cw_step {c : Nat → Nat} {e n o B : Nat} {S : Option (Nat → Nat → pW_)} (he : e ≤ 150) (hn : n ≤ 8) (ho : o ≤ 6) (hN : S = none ↔ o = 6) (hB : 4 ≤ B) (hS : ∀ s, S = some s → cwspec mX8_readSteps B (fun _ => True) s c e n (o + 1)) : cwspec mX8_readStep (B + 2) (fun a => kd c e a = 2) (pstep S c e n) c e n o := by
  intro D kc ks a v L0 h0 h g Q hD hv hk2 m k1 k2
  obtain ⟨d, rfl⟩ : ∃ d, D = d + 6 := ⟨D - 6, by omega⟩
  have he6 : e ≤ 600 := by omega
  have hae := kd_in (c := c) (e := e) (a := a) (by rw [hk2]; decide)
  have hl0 := m.2.2.1
  refine rr_aload_n 1 rfl rfl dX8_readStep_0 ?_
  refine rr_callS (As := [.ref 13]) (rest := []) (kc2 := 0) (ks2 := 0) dX8_readStep_1 okX8_kindOf lX8_47 rfl (Nat.le_of_ble_eq_true rfl) (Nat.le_of_ble_eq_true rfl) rfl (by omega) (by simp [jj_rk]) (by simp [jj_rk]) ?_
  refine cl_kind cwst_R he6 m (by omega) ?_
  rcases sk_cs c e a with q | q | q | q | q | q | q | q
  · skip
    have hp : pstep S c e n L0.length a = .error (1, a) := by unfold pstep; rw [q, if_neg (by decide), if_neg (by decide), if_neg (by decide), if_neg (by decide), if_neg (by decide), if_neg (by decide), if_neg (by decide)]
    rw [hp] at k1 k2
    rw [q]
    show jj_R _ _ kc ks (jj_S, 782, h, g) 4 [(0, .ref 21), (1, .ref 13), (2, .int v)] [.int (-1)] Q
    refine rr_istore_n [(0, .ref 21), (1, .ref 13), (2, .int v), (3, .int (-1))] dX8_readStep_4 rfl (by decide) rfl ?_
    refine rr_aload_n 0 rfl rfl dX8_readStep_5 ?_
    refine rr_getI dX8_readStep_6 fX8_25 lo_21 sh_21 rfl ?_
    rw [show (h 21) 4 = (nI (L0.length)) from m.2.1]
    refine rr_istore [(0, .ref 21), (1, .ref 13), (2, .int v), (3, .int (-1)), (4, .int (nI (L0.length)))] dX8_readStep_9 (by decide) rfl ?_
    refine rr_iload_n 3 rfl rfl dX8_readStep_11 ?_
    refine rr_iconst (-1) rfl dX8_readStep_12 ?_
    refine rr_icmp_eq dX8_readStep_13 (fun _ => ?_) (fun c => absurd (by decide) c)
    refine rr_aload_n 1 rfl rfl dX8_readStep_23 ?_
    refine rr_iconst 1 rfl dX8_readStep_24 ?_
    refine rr_callV (As := [.int 1]) (rest := []) (kc2 := 0) (ks2 := 0) dX8_readStep_25 okX5_failed lX8_51 lo_13 sh_13 rfl rfl (Nat.le_of_ble_eq_true rfl) (Nat.le_of_ble_eq_true rfl) rfl (by omega) (by simp [jj_rk]) (by simp [jj_rk]) ?_
    refine cl_fail (K := 1) cwst_R m (by decide) (by decide) rfl (fun h m => ?_)
    show jj_R _ _ kc ks (jj_S, 782, h, g) 28 [(0, .ref 21), (1, .ref 13), (2, .int v), (3, .int (-1)), (4, .int (nI (L0.length)))] [.int (-1)] Q
    refine rr_pop rfl dX8_readStep_28 ?_
    refine rr_iconst 0 rfl dX8_readStep_29 ?_
    refine rr_nreturn dX8_readStep_30 rfl (by first | rfl | assumption) ?_
    exact k2 1 a _ rfl m
  · skip
    have hp : pstep S c e n L0.length a = ptwo c e n 0 L0.length a := by unfold pstep; rw [q, if_pos rfl]
    rw [hp] at k1 k2
    rw [q]
    have sk2 := sk_2 (c := c) (e := e) (a := a) (by rw [q]; decide)
    have ntn : nx c e a ≤ nt c e a := spn_ge
    unfold ptwo at k1 k2
    show jj_R _ _ kc ks (jj_S, 782, h, g) 4 [(0, .ref 21), (1, .ref 13), (2, .int v)] [.int 0] Q
    refine rr_istore_n [(0, .ref 21), (1, .ref 13), (2, .int v), (3, .int 0)] dX8_readStep_4 rfl (by decide) rfl ?_
    refine rr_aload_n 0 rfl rfl dX8_readStep_5 ?_
    refine rr_getI dX8_readStep_6 fX8_25 lo_21 sh_21 rfl ?_
    rw [show (h 21) 4 = (nI (L0.length)) from m.2.1]
    refine rr_istore [(0, .ref 21), (1, .ref 13), (2, .int v), (3, .int 0), (4, .int (nI (L0.length)))] dX8_readStep_9 (by decide) rfl ?_
    refine rr_iload_n 3 rfl rfl dX8_readStep_11 ?_
    refine rr_iconst (-1) rfl dX8_readStep_12 ?_
    refine rr_icmp_eq dX8_readStep_13 (fun c => absurd c (by decide)) (fun _ => ?_)
    refine rr_iload 4 rfl dX8_readStep_16 ?_
    refine rr_bipush 38 rfl dX8_readStep_18 ?_
    refine rr_icmp_lt dX8_readStep_20 (fun _ => ?_) (fun c => absurd (nI_lt (a := L0.length) (b := 38) (by omega) (by decide)) c)
    refine rr_iload_n 3 rfl rfl dX8_readStep_31 ?_
    refine rr_bipush 6 rfl dX8_readStep_32 ?_
    refine rr_icmp_ne dX8_readStep_34 (fun _ => ?_) (fun c => absurd c (by decide))
    refine rr_aload_n 1 rfl rfl dX8_readStep_51 ?_
    refine rr_callV (As := []) (rest := []) (kc2 := 0) (ks2 := 0) dX8_readStep_52 okX5_advance lX8_55 lo_13 sh_13 rfl rfl (Nat.le_of_ble_eq_true rfl) (Nat.le_of_ble_eq_true rfl) rfl (by omega) (by simp [jj_rk]) (by simp [jj_rk]) ?_
    refine cl_adv cwst_R he6 m (by omega) (fun h m => ?_)
    show jj_R _ _ kc ks (jj_S, 782, h, g) 55 [(0, .ref 21), (1, .ref 13), (2, .int v), (3, .int 0), (4, .int (nI (L0.length)))] [] Q
    refine rr_aload_n 0 rfl rfl dX8_readStep_55 ?_
    refine rr_dup rfl dX8_readStep_56 ?_
    refine rr_getI dX8_readStep_57 fX8_25 lo_21 sh_21 rfl ?_
    rw [show (h 21) 4 = (nI (L0.length)) from m.2.1]
    refine rr_iconst 1 rfl dX8_readStep_60 ?_
    refine rr_iadd dX8_readStep_61 ?_
    refine rr_putI dX8_readStep_62 fX8_25 ni8_4 lo_21 sh_21 rfl ?_
    rw [jj_rs_set0 (B := h) (o := 21) (r := (h 21)) rfl]
    refine rr_aload_n 0 rfl rfl dX8_readStep_65 ?_
    refine rr_getR dX8_readStep_66 fX8_11 lo_21 sh_21 rfl ?_
    refine rr_iload 4 rfl dX8_readStep_69 ?_
    refine rr_iload_n 3 rfl rfl dX8_readStep_71 ?_
    refine rr_iastore dX8_readStep_72 lo_22 sh_22 (vp_in_nI (by omega) (by decide)) ?_
    rw [jj_rs_set (B := h) (L := [(21, (upd (h 21) (4) ((nI (L0.length)) + 1)))]) (L2 := [(21, (upd (h 21) (4) ((nI (L0.length)) + 1))), (22, (upd (h 22) (((nI (L0.length)) : Int32).toNatClampNeg) 0))]) (r := (h 22)) rfl rfl]
    refine jj_fl (fun h9 eh => ?_)
    have m9 : cwst c e n 1 (L0 ++ [(0, none, none, none)]) h0 (nt c e a) h9 := by
      rw [eh]
      exact cwst_new he m (by omega) (by omega) rfl
    clear eh
    revert h9
    intro h m
    show jj_R _ _ kc ks (jj_S, 782, h, g) 73 [(0, .ref 21), (1, .ref 13), (2, .int v), (3, .int 0), (4, .int (nI (L0.length)))] [] Q
    refine rr_aload_n 0 rfl rfl dX8_readStep_73 ?_
    refine rr_getR dX8_readStep_74 fX8_15 lo_21 sh_21 rfl ?_
    refine rr_iload 4 rfl dX8_readStep_77 ?_
    refine rr_iload_n 3 rfl rfl dX8_readStep_79 ?_
    refine rr_iconst 5 rfl dX8_readStep_80 ?_
    refine rr_icmp_ne dX8_readStep_81 (fun _ => ?_) (fun c => absurd c (by decide))
    refine rr_aload_n 1 rfl rfl dX8_readStep_88 ?_
    refine rr_iload_n 3 rfl rfl dX8_readStep_89 ?_
    refine rr_bipush 6 rfl dX8_readStep_90 ?_
    refine rr_icmp_ne dX8_readStep_92 (fun _ => ?_) (fun c => absurd c (by decide))
    refine rr_aload_n 0 rfl rfl dX8_readStep_100 ?_
    refine rr_getI dX8_readStep_101 fX8_29 lo_21 sh_21 rfl ?_
    rw [show (h 21) 5 = (nI n) from m.2.2.2.2.2.2.1]
    refine rr_iconst 1 rfl dX8_readStep_104 ?_
    refine rr_isub dX8_readStep_105 ?_
    refine rr_callV (As := [.int ((nI n) - 1)]) (rest := [.int (nI (L0.length)), .ref 23]) (kc2 := 0) (ks2 := 0) dX8_readStep_106 okX5_number lX8_58 lo_13 sh_13 rfl rfl (Nat.le_of_ble_eq_true rfl) (Nat.le_of_ble_eq_true rfl) rfl (by omega) (by simp [jj_rk]) (by simp [jj_rk]) ?_
    refine cl_num (lim := n) cwst_R he6 m (by omega) rfl (by omega) (fun v1 b1 h e1 hv1 hb1 m => ?_) (fun k p h e1 m => ?_)
    · skip
      rw [pb_ok e1] at k1 k2
      have n1 : ¬ nI v1 = -1 := nI_ne1 (by omega)
      show jj_R _ _ kc ks (jj_S, 782, h, g) 109 [(0, .ref 21), (1, .ref 13), (2, .int v), (3, .int 0), (4, .int (nI (L0.length)))] [.int (nI v1), .int (nI (L0.length)), .ref 23] Q
      refine rr_iastore dX8_readStep_109 lo_23 sh_23 (vp_in_nI (by omega) (by decide)) ?_
      rw [jj_rs_set0 (B := h) (o := 23) (r := (h 23)) rfl]
      refine rr_aload_n 0 rfl rfl dX8_readStep_110 ?_
      refine rr_getR dX8_readStep_111 fX8_15 lo_21 sh_21 rfl ?_
      refine rr_iload 4 rfl dX8_readStep_114 ?_
      refine rr_iaload dX8_readStep_116 lo_23 sh_23 (vp_in_nI (by omega) (by decide)) ?_
      rw [show (jj_rs h [(23, (upd (h 23) (((nI (L0.length)) : Int32).toNatClampNeg) (nI v1)))]) 23 = (upd (h 23) (((nI (L0.length)) : Int32).toNatClampNeg) (nI v1)) from rfl]
      rw [show (upd (h 23) (((nI (L0.length)) : Int32).toNatClampNeg) (nI v1)) (((nI (L0.length)) : Int32).toNatClampNeg) = (nI v1) from jj_ueq rfl]
      refine rr_iconst (-1) rfl dX8_readStep_117 ?_
      refine rr_icmp_ne dX8_readStep_118 (fun _ => ?_) (fun c => absurd c n1)
      refine jj_fl (fun h9 eh => ?_)
      have m9 : cwst c e n 1 (L0 ++ [(0, some v1, none, none)]) h0 b1 h9 := by
        rw [eh]
        exact cwst_23 he m (by rw [List.length_append, List.length_cons, List.length_nil]; omega) la_get la_set (fun x y d q => crl_1 q)
      clear eh
      revert h9
      intro h m
      show jj_R _ _ kc ks (jj_S, 782, h, g) 123 [(0, .ref 21), (1, .ref 13), (2, .int v), (3, .int 0), (4, .int (nI (L0.length)))] [] Q
      refine rr_aload_n 0 rfl rfl dX8_readStep_123 ?_
      refine rr_getR dX8_readStep_124 fX8_18 lo_21 sh_21 rfl ?_
      refine rr_iload 4 rfl dX8_readStep_127 ?_
      refine rr_iload_n 3 rfl rfl dX8_readStep_129 ?_
      refine rr_if_eq dX8_readStep_130 (fun _ => ?_) (fun c => absurd (by decide) c)
      refine rr_aload_n 1 rfl rfl dX8_readStep_138 ?_
      refine rr_aload_n 0 rfl rfl dX8_readStep_139 ?_
      refine rr_getI dX8_readStep_140 fX8_29 lo_21 sh_21 rfl ?_
      rw [show (h 21) 5 = (nI n) from m.2.2.2.2.2.2.1]
      refine rr_iconst 1 rfl dX8_readStep_143 ?_
      refine rr_isub dX8_readStep_144 ?_
      refine rr_callV (As := [.int ((nI n) - 1)]) (rest := [.int (nI (L0.length)), .ref 24]) (kc2 := 0) (ks2 := 0) dX8_readStep_145 okX5_number lX8_58 lo_13 sh_13 rfl rfl (Nat.le_of_ble_eq_true rfl) (Nat.le_of_ble_eq_true rfl) rfl (by omega) (by simp [jj_rk]) (by simp [jj_rk]) ?_
      refine cl_num (lim := n) cwst_R he6 m (by omega) rfl (by omega) (fun v2 b2 h e1 hv2 hb2 m => ?_) (fun k p h e1 m => ?_)
      · skip
        rw [pb_ok e1] at k1 k2
        have n2 : ¬ nI v2 = -1 := nI_ne1 (by omega)
        show jj_R _ _ kc ks (jj_S, 782, h, g) 148 [(0, .ref 21), (1, .ref 13), (2, .int v), (3, .int 0), (4, .int (nI (L0.length)))] [.int (nI v2), .int (nI (L0.length)), .ref 24] Q
        refine rr_goto dX8_readStep_148 ?_
        refine rr_iastore dX8_readStep_152 lo_24 sh_24 (vp_in_nI (by omega) (by decide)) ?_
        rw [jj_rs_set0 (B := h) (o := 24) (r := (h 24)) rfl]
        refine rr_aload_n 0 rfl rfl dX8_readStep_153 ?_
        refine rr_getR dX8_readStep_154 fX8_18 lo_21 sh_21 rfl ?_
        refine rr_iload 4 rfl dX8_readStep_157 ?_
        refine rr_iaload dX8_readStep_159 lo_24 sh_24 (vp_in_nI (by omega) (by decide)) ?_
        rw [show (jj_rs h [(24, (upd (h 24) (((nI (L0.length)) : Int32).toNatClampNeg) (nI v2)))]) 24 = (upd (h 24) (((nI (L0.length)) : Int32).toNatClampNeg) (nI v2)) from rfl]
        rw [show (upd (h 24) (((nI (L0.length)) : Int32).toNatClampNeg) (nI v2)) (((nI (L0.length)) : Int32).toNatClampNeg) = (nI v2) from jj_ueq rfl]
        refine rr_iconst (-1) rfl dX8_readStep_160 ?_
        refine rr_icmp_eq dX8_readStep_161 (fun c => absurd c n2) (fun _ => ?_)
        refine rr_iload_n 3 rfl rfl dX8_readStep_164 ?_
        refine rr_bipush 6 rfl dX8_readStep_165 ?_
        refine rr_icmp_ne dX8_readStep_167 (fun _ => ?_) (fun c => absurd c (by decide))
        refine jj_fl (fun h9 eh => ?_)
        have m9 : cwst c e n 1 (L0 ++ [(0, some v1, some v2, some (L0.length + 1))]) h0 b2 h9 := by
          rw [eh]
          exact cwst_24 he m (by rw [List.length_append, List.length_cons, List.length_nil]; omega) la_get la_set (fun x y d q => crl_2 (by decide) q)
        clear eh
        revert h9
        intro h m
        have hl9 := m.2.2.1
        show jj_R _ _ kc ks (jj_S, 782, h, g) 183 [(0, .ref 21), (1, .ref 13), (2, .int v), (3, .int 0), (4, .int (nI (L0.length)))] [] Q
        refine rr_aload_n 1 rfl rfl dX8_readStep_183 ?_
        refine rr_bipush 59 rfl dX8_readStep_184 ?_
        refine rr_callV (As := [.int 59]) (rest := []) (kc2 := 0) (ks2 := 0) dX8_readStep_186 okX5_passSign lX8_65 lo_13 sh_13 rfl rfl (Nat.le_of_ble_eq_true rfl) (Nat.le_of_ble_eq_true rfl) rfl (by omega) (by simp [jj_rk]) (by simp [jj_rk]) ?_
        refine cl_sign (X := 59) cwst_R he6 (by decide) m (by omega) (fun b9 h e1 hb9 m => ?_) (fun k p h e1 m => ?_)
        · skip
          rw [pb_ok e1] at k1 k2
          show jj_R _ _ kc ks (jj_S, 782, h, g) 189 [(0, .ref 21), (1, .ref 13), (2, .int v), (3, .int 0), (4, .int (nI (L0.length)))] [.int 1] Q
          refine rr_nreturn dX8_readStep_189 rfl (by first | rfl | assumption) ?_
          exact k1 _ b9 _ rfl (by omega) (cwst_s m (by rw [List.length_append] at hl9 ⊢; simp only [List.length_cons, List.length_nil] at hl9 ⊢; omega))
        · skip
          rw [pb_er e1] at k2
          show jj_R _ _ kc ks (jj_S, 782, h, g) 189 [(0, .ref 21), (1, .ref 13), (2, .int v), (3, .int 0), (4, .int (nI (L0.length)))] [.int 0] Q
          refine rr_nreturn dX8_readStep_189 rfl (by first | rfl | assumption) ?_
          exact k2 k p _ rfl m
      · skip
        rw [pb_er e1] at k2
        show jj_R _ _ kc ks (jj_S, 782, h, g) 148 [(0, .ref 21), (1, .ref 13), (2, .int v), (3, .int 0), (4, .int (nI (L0.length)))] [.int (-1), .int (nI (L0.length)), .ref 24] Q
        refine rr_goto dX8_readStep_148 ?_
        refine rr_iastore dX8_readStep_152 lo_24 sh_24 (vp_in_nI (by omega) (by decide)) ?_
        rw [jj_rs_set0 (B := h) (o := 24) (r := (h 24)) rfl]
        refine rr_aload_n 0 rfl rfl dX8_readStep_153 ?_
        refine rr_getR dX8_readStep_154 fX8_18 lo_21 sh_21 rfl ?_
        refine rr_iload 4 rfl dX8_readStep_157 ?_
        refine rr_iaload dX8_readStep_159 lo_24 sh_24 (vp_in_nI (by omega) (by decide)) ?_
        rw [show (jj_rs h [(24, (upd (h 24) (((nI (L0.length)) : Int32).toNatClampNeg) (-1)))]) 24 = (upd (h 24) (((nI (L0.length)) : Int32).toNatClampNeg) (-1)) from rfl]
        rw [show (upd (h 24) (((nI (L0.length)) : Int32).toNatClampNeg) (-1)) (((nI (L0.length)) : Int32).toNatClampNeg) = (-1) from jj_ueq rfl]
        refine rr_iconst (-1) rfl dX8_readStep_160 ?_
        refine rr_icmp_eq dX8_readStep_161 (fun _ => ?_) (fun c => absurd (by decide) c)
        refine rr_iconst 0 rfl dX8_readStep_181 ?_
        refine rr_nreturn dX8_readStep_182 rfl (by first | rfl | assumption) ?_
        exact k2 k p _ rfl (cwer_24 m)
    · skip
      rw [pb_er e1] at k2
      show jj_R _ _ kc ks (jj_S, 782, h, g) 109 [(0, .ref 21), (1, .ref 13), (2, .int v), (3, .int 0), (4, .int (nI (L0.length)))] [.int (-1), .int (nI (L0.length)), .ref 23] Q
      refine rr_iastore dX8_readStep_109 lo_23 sh_23 (vp_in_nI (by omega) (by decide)) ?_
      rw [jj_rs_set0 (B := h) (o := 23) (r := (h 23)) rfl]
      refine rr_aload_n 0 rfl rfl dX8_readStep_110 ?_
      refine rr_getR dX8_readStep_111 fX8_15 lo_21 sh_21 rfl ?_
      refine rr_iload 4 rfl dX8_readStep_114 ?_
      refine rr_iaload dX8_readStep_116 lo_23 sh_23 (vp_in_nI (by omega) (by decide)) ?_
      rw [show (jj_rs h [(23, (upd (h 23) (((nI (L0.length)) : Int32).toNatClampNeg) (-1)))]) 23 = (upd (h 23) (((nI (L0.length)) : Int32).toNatClampNeg) (-1)) from rfl]
      rw [show (upd (h 23) (((nI (L0.length)) : Int32).toNatClampNeg) (-1)) (((nI (L0.length)) : Int32).toNatClampNeg) = (-1) from jj_ueq rfl]
      refine rr_iconst (-1) rfl dX8_readStep_117 ?_
      refine rr_icmp_ne dX8_readStep_118 (fun c => absurd c (by decide)) (fun _ => ?_)
      refine rr_iconst 0 rfl dX8_readStep_121 ?_
      refine rr_nreturn dX8_readStep_122 rfl (by first | rfl | assumption) ?_
      exact k2 k p _ rfl (cwer_23 m)
  · skip
    have hp : pstep S c e n L0.length a = ptwo c e n 1 L0.length a := by unfold pstep; rw [q, if_neg (by decide), if_pos rfl]
    rw [hp] at k1 k2
    rw [q]
    have sk2 := sk_2 (c := c) (e := e) (a := a) (by rw [q]; decide)
    have ntn : nx c e a ≤ nt c e a := spn_ge
    unfold ptwo at k1 k2
    show jj_R _ _ kc ks (jj_S, 782, h, g) 4 [(0, .ref 21), (1, .ref 13), (2, .int v)] [.int 1] Q
    refine rr_istore_n [(0, .ref 21), (1, .ref 13), (2, .int v), (3, .int 1)] dX8_readStep_4 rfl (by decide) rfl ?_
    refine rr_aload_n 0 rfl rfl dX8_readStep_5 ?_
    refine rr_getI dX8_readStep_6 fX8_25 lo_21 sh_21 rfl ?_
    rw [show (h 21) 4 = (nI (L0.length)) from m.2.1]
    refine rr_istore [(0, .ref 21), (1, .ref 13), (2, .int v), (3, .int 1), (4, .int (nI (L0.length)))] dX8_readStep_9 (by decide) rfl ?_
    refine rr_iload_n 3 rfl rfl dX8_readStep_11 ?_
    refine rr_iconst (-1) rfl dX8_readStep_12 ?_
    refine rr_icmp_eq dX8_readStep_13 (fun c => absurd c (by decide)) (fun _ => ?_)
    refine rr_iload 4 rfl dX8_readStep_16 ?_
    refine rr_bipush 38 rfl dX8_readStep_18 ?_
    refine rr_icmp_lt dX8_readStep_20 (fun _ => ?_) (fun c => absurd (nI_lt (a := L0.length) (b := 38) (by omega) (by decide)) c)
    refine rr_iload_n 3 rfl rfl dX8_readStep_31 ?_
    refine rr_bipush 6 rfl dX8_readStep_32 ?_
    refine rr_icmp_ne dX8_readStep_34 (fun _ => ?_) (fun c => absurd c (by decide))
    refine rr_aload_n 1 rfl rfl dX8_readStep_51 ?_
    refine rr_callV (As := []) (rest := []) (kc2 := 0) (ks2 := 0) dX8_readStep_52 okX5_advance lX8_55 lo_13 sh_13 rfl rfl (Nat.le_of_ble_eq_true rfl) (Nat.le_of_ble_eq_true rfl) rfl (by omega) (by simp [jj_rk]) (by simp [jj_rk]) ?_
    refine cl_adv cwst_R he6 m (by omega) (fun h m => ?_)
    show jj_R _ _ kc ks (jj_S, 782, h, g) 55 [(0, .ref 21), (1, .ref 13), (2, .int v), (3, .int 1), (4, .int (nI (L0.length)))] [] Q
    refine rr_aload_n 0 rfl rfl dX8_readStep_55 ?_
    refine rr_dup rfl dX8_readStep_56 ?_
    refine rr_getI dX8_readStep_57 fX8_25 lo_21 sh_21 rfl ?_
    rw [show (h 21) 4 = (nI (L0.length)) from m.2.1]
    refine rr_iconst 1 rfl dX8_readStep_60 ?_
    refine rr_iadd dX8_readStep_61 ?_
    refine rr_putI dX8_readStep_62 fX8_25 ni8_4 lo_21 sh_21 rfl ?_
    rw [jj_rs_set0 (B := h) (o := 21) (r := (h 21)) rfl]
    refine rr_aload_n 0 rfl rfl dX8_readStep_65 ?_
    refine rr_getR dX8_readStep_66 fX8_11 lo_21 sh_21 rfl ?_
    refine rr_iload 4 rfl dX8_readStep_69 ?_
    refine rr_iload_n 3 rfl rfl dX8_readStep_71 ?_
    refine rr_iastore dX8_readStep_72 lo_22 sh_22 (vp_in_nI (by omega) (by decide)) ?_
    rw [jj_rs_set (B := h) (L := [(21, (upd (h 21) (4) ((nI (L0.length)) + 1)))]) (L2 := [(21, (upd (h 21) (4) ((nI (L0.length)) + 1))), (22, (upd (h 22) (((nI (L0.length)) : Int32).toNatClampNeg) 1))]) (r := (h 22)) rfl rfl]
    refine jj_fl (fun h9 eh => ?_)
    have m9 : cwst c e n 1 (L0 ++ [(1, none, none, none)]) h0 (nt c e a) h9 := by
      rw [eh]
      exact cwst_new he m (by omega) (by omega) rfl
    clear eh
    revert h9
    intro h m
    show jj_R _ _ kc ks (jj_S, 782, h, g) 73 [(0, .ref 21), (1, .ref 13), (2, .int v), (3, .int 1), (4, .int (nI (L0.length)))] [] Q
    refine rr_aload_n 0 rfl rfl dX8_readStep_73 ?_
    refine rr_getR dX8_readStep_74 fX8_15 lo_21 sh_21 rfl ?_
    refine rr_iload 4 rfl dX8_readStep_77 ?_
    refine rr_iload_n 3 rfl rfl dX8_readStep_79 ?_
    refine rr_iconst 5 rfl dX8_readStep_80 ?_
    refine rr_icmp_ne dX8_readStep_81 (fun _ => ?_) (fun c => absurd c (by decide))
    refine rr_aload_n 1 rfl rfl dX8_readStep_88 ?_
    refine rr_iload_n 3 rfl rfl dX8_readStep_89 ?_
    refine rr_bipush 6 rfl dX8_readStep_90 ?_
    refine rr_icmp_ne dX8_readStep_92 (fun _ => ?_) (fun c => absurd c (by decide))
    refine rr_aload_n 0 rfl rfl dX8_readStep_100 ?_
    refine rr_getI dX8_readStep_101 fX8_29 lo_21 sh_21 rfl ?_
    rw [show (h 21) 5 = (nI n) from m.2.2.2.2.2.2.1]
    refine rr_iconst 1 rfl dX8_readStep_104 ?_
    refine rr_isub dX8_readStep_105 ?_
    refine rr_callV (As := [.int ((nI n) - 1)]) (rest := [.int (nI (L0.length)), .ref 23]) (kc2 := 0) (ks2 := 0) dX8_readStep_106 okX5_number lX8_58 lo_13 sh_13 rfl rfl (Nat.le_of_ble_eq_true rfl) (Nat.le_of_ble_eq_true rfl) rfl (by omega) (by simp [jj_rk]) (by simp [jj_rk]) ?_
    refine cl_num (lim := n) cwst_R he6 m (by omega) rfl (by omega) (fun v1 b1 h e1 hv1 hb1 m => ?_) (fun k p h e1 m => ?_)
    · skip
      rw [pb_ok e1] at k1 k2
      have n1 : ¬ nI v1 = -1 := nI_ne1 (by omega)
      show jj_R _ _ kc ks (jj_S, 782, h, g) 109 [(0, .ref 21), (1, .ref 13), (2, .int v), (3, .int 1), (4, .int (nI (L0.length)))] [.int (nI v1), .int (nI (L0.length)), .ref 23] Q
      refine rr_iastore dX8_readStep_109 lo_23 sh_23 (vp_in_nI (by omega) (by decide)) ?_
      rw [jj_rs_set0 (B := h) (o := 23) (r := (h 23)) rfl]
      refine rr_aload_n 0 rfl rfl dX8_readStep_110 ?_
      refine rr_getR dX8_readStep_111 fX8_15 lo_21 sh_21 rfl ?_
      refine rr_iload 4 rfl dX8_readStep_114 ?_
      refine rr_iaload dX8_readStep_116 lo_23 sh_23 (vp_in_nI (by omega) (by decide)) ?_
      rw [show (jj_rs h [(23, (upd (h 23) (((nI (L0.length)) : Int32).toNatClampNeg) (nI v1)))]) 23 = (upd (h 23) (((nI (L0.length)) : Int32).toNatClampNeg) (nI v1)) from rfl]
      rw [show (upd (h 23) (((nI (L0.length)) : Int32).toNatClampNeg) (nI v1)) (((nI (L0.length)) : Int32).toNatClampNeg) = (nI v1) from jj_ueq rfl]
      refine rr_iconst (-1) rfl dX8_readStep_117 ?_
      refine rr_icmp_ne dX8_readStep_118 (fun _ => ?_) (fun c => absurd c n1)
      refine jj_fl (fun h9 eh => ?_)
      have m9 : cwst c e n 1 (L0 ++ [(1, some v1, none, none)]) h0 b1 h9 := by
        rw [eh]
        exact cwst_23 he m (by rw [List.length_append, List.length_cons, List.length_nil]; omega) la_get la_set (fun x y d q => crl_1 q)
      clear eh
      revert h9
      intro h m
      show jj_R _ _ kc ks (jj_S, 782, h, g) 123 [(0, .ref 21), (1, .ref 13), (2, .int v), (3, .int 1), (4, .int (nI (L0.length)))] [] Q
      refine rr_aload_n 0 rfl rfl dX8_readStep_123 ?_
      refine rr_getR dX8_readStep_124 fX8_18 lo_21 sh_21 rfl ?_
      refine rr_iload 4 rfl dX8_readStep_127 ?_
      refine rr_iload_n 3 rfl rfl dX8_readStep_129 ?_
      refine rr_if_eq dX8_readStep_130 (fun c => absurd c (by decide)) (fun _ => ?_)
      refine rr_iload_n 3 rfl rfl dX8_readStep_133 ?_
      refine rr_iconst 1 rfl dX8_readStep_134 ?_
      refine rr_icmp_ne dX8_readStep_135 (fun c => absurd c (by decide)) (fun _ => ?_)
      refine rr_aload_n 1 rfl rfl dX8_readStep_138 ?_
      refine rr_aload_n 0 rfl rfl dX8_readStep_139 ?_
      refine rr_getI dX8_readStep_140 fX8_29 lo_21 sh_21 rfl ?_
      rw [show (h 21) 5 = (nI n) from m.2.2.2.2.2.2.1]
      refine rr_iconst 1 rfl dX8_readStep_143 ?_
      refine rr_isub dX8_readStep_144 ?_
      refine rr_callV (As := [.int ((nI n) - 1)]) (rest := [.int (nI (L0.length)), .ref 24]) (kc2 := 0) (ks2 := 0) dX8_readStep_145 okX5_number lX8_58 lo_13 sh_13 rfl rfl (Nat.le_of_ble_eq_true rfl) (Nat.le_of_ble_eq_true rfl) rfl (by omega) (by simp [jj_rk]) (by simp [jj_rk]) ?_
      refine cl_num (lim := n) cwst_R he6 m (by omega) rfl (by omega) (fun v2 b2 h e1 hv2 hb2 m => ?_) (fun k p h e1 m => ?_)
      · skip
        rw [pb_ok e1] at k1 k2
        have n2 : ¬ nI v2 = -1 := nI_ne1 (by omega)
        show jj_R _ _ kc ks (jj_S, 782, h, g) 148 [(0, .ref 21), (1, .ref 13), (2, .int v), (3, .int 1), (4, .int (nI (L0.length)))] [.int (nI v2), .int (nI (L0.length)), .ref 24] Q
        refine rr_goto dX8_readStep_148 ?_
        refine rr_iastore dX8_readStep_152 lo_24 sh_24 (vp_in_nI (by omega) (by decide)) ?_
        rw [jj_rs_set0 (B := h) (o := 24) (r := (h 24)) rfl]
        refine rr_aload_n 0 rfl rfl dX8_readStep_153 ?_
        refine rr_getR dX8_readStep_154 fX8_18 lo_21 sh_21 rfl ?_
        refine rr_iload 4 rfl dX8_readStep_157 ?_
        refine rr_iaload dX8_readStep_159 lo_24 sh_24 (vp_in_nI (by omega) (by decide)) ?_
        rw [show (jj_rs h [(24, (upd (h 24) (((nI (L0.length)) : Int32).toNatClampNeg) (nI v2)))]) 24 = (upd (h 24) (((nI (L0.length)) : Int32).toNatClampNeg) (nI v2)) from rfl]
        rw [show (upd (h 24) (((nI (L0.length)) : Int32).toNatClampNeg) (nI v2)) (((nI (L0.length)) : Int32).toNatClampNeg) = (nI v2) from jj_ueq rfl]
        refine rr_iconst (-1) rfl dX8_readStep_160 ?_
        refine rr_icmp_eq dX8_readStep_161 (fun c => absurd c n2) (fun _ => ?_)
        refine rr_iload_n 3 rfl rfl dX8_readStep_164 ?_
        refine rr_bipush 6 rfl dX8_readStep_165 ?_
        refine rr_icmp_ne dX8_readStep_167 (fun _ => ?_) (fun c => absurd c (by decide))
        refine jj_fl (fun h9 eh => ?_)
        have m9 : cwst c e n 1 (L0 ++ [(1, some v1, some v2, some (L0.length + 1))]) h0 b2 h9 := by
          rw [eh]
          exact cwst_24 he m (by rw [List.length_append, List.length_cons, List.length_nil]; omega) la_get la_set (fun x y d q => crl_2 (by decide) q)
        clear eh
        revert h9
        intro h m
        have hl9 := m.2.2.1
        show jj_R _ _ kc ks (jj_S, 782, h, g) 183 [(0, .ref 21), (1, .ref 13), (2, .int v), (3, .int 1), (4, .int (nI (L0.length)))] [] Q
        refine rr_aload_n 1 rfl rfl dX8_readStep_183 ?_
        refine rr_bipush 59 rfl dX8_readStep_184 ?_
        refine rr_callV (As := [.int 59]) (rest := []) (kc2 := 0) (ks2 := 0) dX8_readStep_186 okX5_passSign lX8_65 lo_13 sh_13 rfl rfl (Nat.le_of_ble_eq_true rfl) (Nat.le_of_ble_eq_true rfl) rfl (by omega) (by simp [jj_rk]) (by simp [jj_rk]) ?_
        refine cl_sign (X := 59) cwst_R he6 (by decide) m (by omega) (fun b9 h e1 hb9 m => ?_) (fun k p h e1 m => ?_)
        · skip
          rw [pb_ok e1] at k1 k2
          show jj_R _ _ kc ks (jj_S, 782, h, g) 189 [(0, .ref 21), (1, .ref 13), (2, .int v), (3, .int 1), (4, .int (nI (L0.length)))] [.int 1] Q
          refine rr_nreturn dX8_readStep_189 rfl (by first | rfl | assumption) ?_
          exact k1 _ b9 _ rfl (by omega) (cwst_s m (by rw [List.length_append] at hl9 ⊢; simp only [List.length_cons, List.length_nil] at hl9 ⊢; omega))
        · skip
          rw [pb_er e1] at k2
          show jj_R _ _ kc ks (jj_S, 782, h, g) 189 [(0, .ref 21), (1, .ref 13), (2, .int v), (3, .int 1), (4, .int (nI (L0.length)))] [.int 0] Q
          refine rr_nreturn dX8_readStep_189 rfl (by first | rfl | assumption) ?_
          exact k2 k p _ rfl m
      · skip
        rw [pb_er e1] at k2
        show jj_R _ _ kc ks (jj_S, 782, h, g) 148 [(0, .ref 21), (1, .ref 13), (2, .int v), (3, .int 1), (4, .int (nI (L0.length)))] [.int (-1), .int (nI (L0.length)), .ref 24] Q
        refine rr_goto dX8_readStep_148 ?_
        refine rr_iastore dX8_readStep_152 lo_24 sh_24 (vp_in_nI (by omega) (by decide)) ?_
        rw [jj_rs_set0 (B := h) (o := 24) (r := (h 24)) rfl]
        refine rr_aload_n 0 rfl rfl dX8_readStep_153 ?_
        refine rr_getR dX8_readStep_154 fX8_18 lo_21 sh_21 rfl ?_
        refine rr_iload 4 rfl dX8_readStep_157 ?_
        refine rr_iaload dX8_readStep_159 lo_24 sh_24 (vp_in_nI (by omega) (by decide)) ?_
        rw [show (jj_rs h [(24, (upd (h 24) (((nI (L0.length)) : Int32).toNatClampNeg) (-1)))]) 24 = (upd (h 24) (((nI (L0.length)) : Int32).toNatClampNeg) (-1)) from rfl]
        rw [show (upd (h 24) (((nI (L0.length)) : Int32).toNatClampNeg) (-1)) (((nI (L0.length)) : Int32).toNatClampNeg) = (-1) from jj_ueq rfl]
        refine rr_iconst (-1) rfl dX8_readStep_160 ?_
        refine rr_icmp_eq dX8_readStep_161 (fun _ => ?_) (fun c => absurd (by decide) c)
        refine rr_iconst 0 rfl dX8_readStep_181 ?_
        refine rr_nreturn dX8_readStep_182 rfl (by first | rfl | assumption) ?_
        exact k2 k p _ rfl (cwer_24 m)
    · skip
      rw [pb_er e1] at k2
      show jj_R _ _ kc ks (jj_S, 782, h, g) 109 [(0, .ref 21), (1, .ref 13), (2, .int v), (3, .int 1), (4, .int (nI (L0.length)))] [.int (-1), .int (nI (L0.length)), .ref 23] Q
      refine rr_iastore dX8_readStep_109 lo_23 sh_23 (vp_in_nI (by omega) (by decide)) ?_
      rw [jj_rs_set0 (B := h) (o := 23) (r := (h 23)) rfl]
      refine rr_aload_n 0 rfl rfl dX8_readStep_110 ?_
      refine rr_getR dX8_readStep_111 fX8_15 lo_21 sh_21 rfl ?_
      refine rr_iload 4 rfl dX8_readStep_114 ?_
      refine rr_iaload dX8_readStep_116 lo_23 sh_23 (vp_in_nI (by omega) (by decide)) ?_
      rw [show (jj_rs h [(23, (upd (h 23) (((nI (L0.length)) : Int32).toNatClampNeg) (-1)))]) 23 = (upd (h 23) (((nI (L0.length)) : Int32).toNatClampNeg) (-1)) from rfl]
      rw [show (upd (h 23) (((nI (L0.length)) : Int32).toNatClampNeg) (-1)) (((nI (L0.length)) : Int32).toNatClampNeg) = (-1) from jj_ueq rfl]
      refine rr_iconst (-1) rfl dX8_readStep_117 ?_
      refine rr_icmp_ne dX8_readStep_118 (fun c => absurd c (by decide)) (fun _ => ?_)
      refine rr_iconst 0 rfl dX8_readStep_121 ?_
      refine rr_nreturn dX8_readStep_122 rfl (by first | rfl | assumption) ?_
      exact k2 k p _ rfl (cwer_23 m)
  · skip
    have hp : pstep S c e n L0.length a = psgl c e n 2 L0.length a := by unfold pstep; rw [q, if_neg (by decide), if_neg (by decide), if_pos rfl]
    rw [hp] at k1 k2
    rw [q]
    have sk2 := sk_2 (c := c) (e := e) (a := a) (by rw [q]; decide)
    have ntn : nx c e a ≤ nt c e a := spn_ge
    unfold psgl at k1 k2
    show jj_R _ _ kc ks (jj_S, 782, h, g) 4 [(0, .ref 21), (1, .ref 13), (2, .int v)] [.int 2] Q
    refine rr_istore_n [(0, .ref 21), (1, .ref 13), (2, .int v), (3, .int 2)] dX8_readStep_4 rfl (by decide) rfl ?_
    refine rr_aload_n 0 rfl rfl dX8_readStep_5 ?_
    refine rr_getI dX8_readStep_6 fX8_25 lo_21 sh_21 rfl ?_
    rw [show (h 21) 4 = (nI (L0.length)) from m.2.1]
    refine rr_istore [(0, .ref 21), (1, .ref 13), (2, .int v), (3, .int 2), (4, .int (nI (L0.length)))] dX8_readStep_9 (by decide) rfl ?_
    refine rr_iload_n 3 rfl rfl dX8_readStep_11 ?_
    refine rr_iconst (-1) rfl dX8_readStep_12 ?_
    refine rr_icmp_eq dX8_readStep_13 (fun c => absurd c (by decide)) (fun _ => ?_)
    refine rr_iload 4 rfl dX8_readStep_16 ?_
    refine rr_bipush 38 rfl dX8_readStep_18 ?_
    refine rr_icmp_lt dX8_readStep_20 (fun _ => ?_) (fun c => absurd (nI_lt (a := L0.length) (b := 38) (by omega) (by decide)) c)
    refine rr_iload_n 3 rfl rfl dX8_readStep_31 ?_
    refine rr_bipush 6 rfl dX8_readStep_32 ?_
    refine rr_icmp_ne dX8_readStep_34 (fun _ => ?_) (fun c => absurd c (by decide))
    refine rr_aload_n 1 rfl rfl dX8_readStep_51 ?_
    refine rr_callV (As := []) (rest := []) (kc2 := 0) (ks2 := 0) dX8_readStep_52 okX5_advance lX8_55 lo_13 sh_13 rfl rfl (Nat.le_of_ble_eq_true rfl) (Nat.le_of_ble_eq_true rfl) rfl (by omega) (by simp [jj_rk]) (by simp [jj_rk]) ?_
    refine cl_adv cwst_R he6 m (by omega) (fun h m => ?_)
    show jj_R _ _ kc ks (jj_S, 782, h, g) 55 [(0, .ref 21), (1, .ref 13), (2, .int v), (3, .int 2), (4, .int (nI (L0.length)))] [] Q
    refine rr_aload_n 0 rfl rfl dX8_readStep_55 ?_
    refine rr_dup rfl dX8_readStep_56 ?_
    refine rr_getI dX8_readStep_57 fX8_25 lo_21 sh_21 rfl ?_
    rw [show (h 21) 4 = (nI (L0.length)) from m.2.1]
    refine rr_iconst 1 rfl dX8_readStep_60 ?_
    refine rr_iadd dX8_readStep_61 ?_
    refine rr_putI dX8_readStep_62 fX8_25 ni8_4 lo_21 sh_21 rfl ?_
    rw [jj_rs_set0 (B := h) (o := 21) (r := (h 21)) rfl]
    refine rr_aload_n 0 rfl rfl dX8_readStep_65 ?_
    refine rr_getR dX8_readStep_66 fX8_11 lo_21 sh_21 rfl ?_
    refine rr_iload 4 rfl dX8_readStep_69 ?_
    refine rr_iload_n 3 rfl rfl dX8_readStep_71 ?_
    refine rr_iastore dX8_readStep_72 lo_22 sh_22 (vp_in_nI (by omega) (by decide)) ?_
    rw [jj_rs_set (B := h) (L := [(21, (upd (h 21) (4) ((nI (L0.length)) + 1)))]) (L2 := [(21, (upd (h 21) (4) ((nI (L0.length)) + 1))), (22, (upd (h 22) (((nI (L0.length)) : Int32).toNatClampNeg) 2))]) (r := (h 22)) rfl rfl]
    refine jj_fl (fun h9 eh => ?_)
    have m9 : cwst c e n 1 (L0 ++ [(2, none, none, none)]) h0 (nt c e a) h9 := by
      rw [eh]
      exact cwst_new he m (by omega) (by omega) rfl
    clear eh
    revert h9
    intro h m
    show jj_R _ _ kc ks (jj_S, 782, h, g) 73 [(0, .ref 21), (1, .ref 13), (2, .int v), (3, .int 2), (4, .int (nI (L0.length)))] [] Q
    refine rr_aload_n 0 rfl rfl dX8_readStep_73 ?_
    refine rr_getR dX8_readStep_74 fX8_15 lo_21 sh_21 rfl ?_
    refine rr_iload 4 rfl dX8_readStep_77 ?_
    refine rr_iload_n 3 rfl rfl dX8_readStep_79 ?_
    refine rr_iconst 5 rfl dX8_readStep_80 ?_
    refine rr_icmp_ne dX8_readStep_81 (fun _ => ?_) (fun c => absurd c (by decide))
    refine rr_aload_n 1 rfl rfl dX8_readStep_88 ?_
    refine rr_iload_n 3 rfl rfl dX8_readStep_89 ?_
    refine rr_bipush 6 rfl dX8_readStep_90 ?_
    refine rr_icmp_ne dX8_readStep_92 (fun _ => ?_) (fun c => absurd c (by decide))
    refine rr_aload_n 0 rfl rfl dX8_readStep_100 ?_
    refine rr_getI dX8_readStep_101 fX8_29 lo_21 sh_21 rfl ?_
    rw [show (h 21) 5 = (nI n) from m.2.2.2.2.2.2.1]
    refine rr_iconst 1 rfl dX8_readStep_104 ?_
    refine rr_isub dX8_readStep_105 ?_
    refine rr_callV (As := [.int ((nI n) - 1)]) (rest := [.int (nI (L0.length)), .ref 23]) (kc2 := 0) (ks2 := 0) dX8_readStep_106 okX5_number lX8_58 lo_13 sh_13 rfl rfl (Nat.le_of_ble_eq_true rfl) (Nat.le_of_ble_eq_true rfl) rfl (by omega) (by simp [jj_rk]) (by simp [jj_rk]) ?_
    refine cl_num (lim := n) cwst_R he6 m (by omega) rfl (by omega) (fun v1 b1 h e1 hv1 hb1 m => ?_) (fun k p h e1 m => ?_)
    · skip
      rw [pb_ok e1] at k1 k2
      have n1 : ¬ nI v1 = -1 := nI_ne1 (by omega)
      show jj_R _ _ kc ks (jj_S, 782, h, g) 109 [(0, .ref 21), (1, .ref 13), (2, .int v), (3, .int 2), (4, .int (nI (L0.length)))] [.int (nI v1), .int (nI (L0.length)), .ref 23] Q
      refine rr_iastore dX8_readStep_109 lo_23 sh_23 (vp_in_nI (by omega) (by decide)) ?_
      rw [jj_rs_set0 (B := h) (o := 23) (r := (h 23)) rfl]
      refine rr_aload_n 0 rfl rfl dX8_readStep_110 ?_
      refine rr_getR dX8_readStep_111 fX8_15 lo_21 sh_21 rfl ?_
      refine rr_iload 4 rfl dX8_readStep_114 ?_
      refine rr_iaload dX8_readStep_116 lo_23 sh_23 (vp_in_nI (by omega) (by decide)) ?_
      rw [show (jj_rs h [(23, (upd (h 23) (((nI (L0.length)) : Int32).toNatClampNeg) (nI v1)))]) 23 = (upd (h 23) (((nI (L0.length)) : Int32).toNatClampNeg) (nI v1)) from rfl]
      rw [show (upd (h 23) (((nI (L0.length)) : Int32).toNatClampNeg) (nI v1)) (((nI (L0.length)) : Int32).toNatClampNeg) = (nI v1) from jj_ueq rfl]
      refine rr_iconst (-1) rfl dX8_readStep_117 ?_
      refine rr_icmp_ne dX8_readStep_118 (fun _ => ?_) (fun c => absurd c n1)
      refine jj_fl (fun h9 eh => ?_)
      have m9 : cwst c e n 1 (L0 ++ [(2, some v1, none, none)]) h0 b1 h9 := by
        rw [eh]
        exact cwst_23 he m (by rw [List.length_append, List.length_cons, List.length_nil]; omega) la_get la_set (fun x y d q => crl_1 q)
      clear eh
      revert h9
      intro h m
      show jj_R _ _ kc ks (jj_S, 782, h, g) 123 [(0, .ref 21), (1, .ref 13), (2, .int v), (3, .int 2), (4, .int (nI (L0.length)))] [] Q
      refine rr_aload_n 0 rfl rfl dX8_readStep_123 ?_
      refine rr_getR dX8_readStep_124 fX8_18 lo_21 sh_21 rfl ?_
      refine rr_iload 4 rfl dX8_readStep_127 ?_
      refine rr_iload_n 3 rfl rfl dX8_readStep_129 ?_
      refine rr_if_eq dX8_readStep_130 (fun c => absurd c (by decide)) (fun _ => ?_)
      refine rr_iload_n 3 rfl rfl dX8_readStep_133 ?_
      refine rr_iconst 1 rfl dX8_readStep_134 ?_
      refine rr_icmp_ne dX8_readStep_135 (fun _ => ?_) (fun c => absurd c (by decide))
      refine rr_iconst 0 rfl dX8_readStep_151 ?_
      refine rr_iastore dX8_readStep_152 lo_24 sh_24 (vp_in_nI (by omega) (by decide)) ?_
      rw [jj_rs_set0 (B := h) (o := 24) (r := (h 24)) rfl]
      refine rr_aload_n 0 rfl rfl dX8_readStep_153 ?_
      refine rr_getR dX8_readStep_154 fX8_18 lo_21 sh_21 rfl ?_
      refine rr_iload 4 rfl dX8_readStep_157 ?_
      refine rr_iaload dX8_readStep_159 lo_24 sh_24 (vp_in_nI (by omega) (by decide)) ?_
      rw [show (jj_rs h [(24, (upd (h 24) (((nI (L0.length)) : Int32).toNatClampNeg) 0))]) 24 = (upd (h 24) (((nI (L0.length)) : Int32).toNatClampNeg) 0) from rfl]
      rw [show (upd (h 24) (((nI (L0.length)) : Int32).toNatClampNeg) 0) (((nI (L0.length)) : Int32).toNatClampNeg) = 0 from jj_ueq rfl]
      refine rr_iconst (-1) rfl dX8_readStep_160 ?_
      refine rr_icmp_eq dX8_readStep_161 (fun c => absurd c (by decide)) (fun _ => ?_)
      refine rr_iload_n 3 rfl rfl dX8_readStep_164 ?_
      refine rr_bipush 6 rfl dX8_readStep_165 ?_
      refine rr_icmp_ne dX8_readStep_167 (fun _ => ?_) (fun c => absurd c (by decide))
      refine jj_fl (fun h9 eh => ?_)
      have m9 : cwst c e n 1 (L0 ++ [(2, some v1, none, some (L0.length + 1))]) h0 b1 h9 := by
        rw [eh]
        exact cwst_24 he m (by rw [List.length_append, List.length_cons, List.length_nil]; omega) la_get la_set (fun x y d q => crl_n (by decide) q)
      clear eh
      revert h9
      intro h m
      have hl9 := m.2.2.1
      show jj_R _ _ kc ks (jj_S, 782, h, g) 183 [(0, .ref 21), (1, .ref 13), (2, .int v), (3, .int 2), (4, .int (nI (L0.length)))] [] Q
      refine rr_aload_n 1 rfl rfl dX8_readStep_183 ?_
      refine rr_bipush 59 rfl dX8_readStep_184 ?_
      refine rr_callV (As := [.int 59]) (rest := []) (kc2 := 0) (ks2 := 0) dX8_readStep_186 okX5_passSign lX8_65 lo_13 sh_13 rfl rfl (Nat.le_of_ble_eq_true rfl) (Nat.le_of_ble_eq_true rfl) rfl (by omega) (by simp [jj_rk]) (by simp [jj_rk]) ?_
      refine cl_sign (X := 59) cwst_R he6 (by decide) m (by omega) (fun b9 h e1 hb9 m => ?_) (fun k p h e1 m => ?_)
      · skip
        rw [pb_ok e1] at k1 k2
        show jj_R _ _ kc ks (jj_S, 782, h, g) 189 [(0, .ref 21), (1, .ref 13), (2, .int v), (3, .int 2), (4, .int (nI (L0.length)))] [.int 1] Q
        refine rr_nreturn dX8_readStep_189 rfl (by first | rfl | assumption) ?_
        exact k1 _ b9 _ rfl (by omega) (cwst_s m (by rw [List.length_append] at hl9 ⊢; simp only [List.length_cons, List.length_nil] at hl9 ⊢; omega))
      · skip
        rw [pb_er e1] at k2
        show jj_R _ _ kc ks (jj_S, 782, h, g) 189 [(0, .ref 21), (1, .ref 13), (2, .int v), (3, .int 2), (4, .int (nI (L0.length)))] [.int 0] Q
        refine rr_nreturn dX8_readStep_189 rfl (by first | rfl | assumption) ?_
        exact k2 k p _ rfl m
    · skip
      rw [pb_er e1] at k2
      show jj_R _ _ kc ks (jj_S, 782, h, g) 109 [(0, .ref 21), (1, .ref 13), (2, .int v), (3, .int 2), (4, .int (nI (L0.length)))] [.int (-1), .int (nI (L0.length)), .ref 23] Q
      refine rr_iastore dX8_readStep_109 lo_23 sh_23 (vp_in_nI (by omega) (by decide)) ?_
      rw [jj_rs_set0 (B := h) (o := 23) (r := (h 23)) rfl]
      refine rr_aload_n 0 rfl rfl dX8_readStep_110 ?_
      refine rr_getR dX8_readStep_111 fX8_15 lo_21 sh_21 rfl ?_
      refine rr_iload 4 rfl dX8_readStep_114 ?_
      refine rr_iaload dX8_readStep_116 lo_23 sh_23 (vp_in_nI (by omega) (by decide)) ?_
      rw [show (jj_rs h [(23, (upd (h 23) (((nI (L0.length)) : Int32).toNatClampNeg) (-1)))]) 23 = (upd (h 23) (((nI (L0.length)) : Int32).toNatClampNeg) (-1)) from rfl]
      rw [show (upd (h 23) (((nI (L0.length)) : Int32).toNatClampNeg) (-1)) (((nI (L0.length)) : Int32).toNatClampNeg) = (-1) from jj_ueq rfl]
      refine rr_iconst (-1) rfl dX8_readStep_117 ?_
      refine rr_icmp_ne dX8_readStep_118 (fun c => absurd c (by decide)) (fun _ => ?_)
      refine rr_iconst 0 rfl dX8_readStep_121 ?_
      refine rr_nreturn dX8_readStep_122 rfl (by first | rfl | assumption) ?_
      exact k2 k p _ rfl (cwer_23 m)
  · skip
    have hp : pstep S c e n L0.length a = psgl c e n 3 L0.length a := by unfold pstep; rw [q, if_neg (by decide), if_neg (by decide), if_neg (by decide), if_pos rfl]
    rw [hp] at k1 k2
    rw [q]
    have sk2 := sk_2 (c := c) (e := e) (a := a) (by rw [q]; decide)
    have ntn : nx c e a ≤ nt c e a := spn_ge
    unfold psgl at k1 k2
    show jj_R _ _ kc ks (jj_S, 782, h, g) 4 [(0, .ref 21), (1, .ref 13), (2, .int v)] [.int 3] Q
    refine rr_istore_n [(0, .ref 21), (1, .ref 13), (2, .int v), (3, .int 3)] dX8_readStep_4 rfl (by decide) rfl ?_
    refine rr_aload_n 0 rfl rfl dX8_readStep_5 ?_
    refine rr_getI dX8_readStep_6 fX8_25 lo_21 sh_21 rfl ?_
    rw [show (h 21) 4 = (nI (L0.length)) from m.2.1]
    refine rr_istore [(0, .ref 21), (1, .ref 13), (2, .int v), (3, .int 3), (4, .int (nI (L0.length)))] dX8_readStep_9 (by decide) rfl ?_
    refine rr_iload_n 3 rfl rfl dX8_readStep_11 ?_
    refine rr_iconst (-1) rfl dX8_readStep_12 ?_
    refine rr_icmp_eq dX8_readStep_13 (fun c => absurd c (by decide)) (fun _ => ?_)
    refine rr_iload 4 rfl dX8_readStep_16 ?_
    refine rr_bipush 38 rfl dX8_readStep_18 ?_
    refine rr_icmp_lt dX8_readStep_20 (fun _ => ?_) (fun c => absurd (nI_lt (a := L0.length) (b := 38) (by omega) (by decide)) c)
    refine rr_iload_n 3 rfl rfl dX8_readStep_31 ?_
    refine rr_bipush 6 rfl dX8_readStep_32 ?_
    refine rr_icmp_ne dX8_readStep_34 (fun _ => ?_) (fun c => absurd c (by decide))
    refine rr_aload_n 1 rfl rfl dX8_readStep_51 ?_
    refine rr_callV (As := []) (rest := []) (kc2 := 0) (ks2 := 0) dX8_readStep_52 okX5_advance lX8_55 lo_13 sh_13 rfl rfl (Nat.le_of_ble_eq_true rfl) (Nat.le_of_ble_eq_true rfl) rfl (by omega) (by simp [jj_rk]) (by simp [jj_rk]) ?_
    refine cl_adv cwst_R he6 m (by omega) (fun h m => ?_)
    show jj_R _ _ kc ks (jj_S, 782, h, g) 55 [(0, .ref 21), (1, .ref 13), (2, .int v), (3, .int 3), (4, .int (nI (L0.length)))] [] Q
    refine rr_aload_n 0 rfl rfl dX8_readStep_55 ?_
    refine rr_dup rfl dX8_readStep_56 ?_
    refine rr_getI dX8_readStep_57 fX8_25 lo_21 sh_21 rfl ?_
    rw [show (h 21) 4 = (nI (L0.length)) from m.2.1]
    refine rr_iconst 1 rfl dX8_readStep_60 ?_
    refine rr_iadd dX8_readStep_61 ?_
    refine rr_putI dX8_readStep_62 fX8_25 ni8_4 lo_21 sh_21 rfl ?_
    rw [jj_rs_set0 (B := h) (o := 21) (r := (h 21)) rfl]
    refine rr_aload_n 0 rfl rfl dX8_readStep_65 ?_
    refine rr_getR dX8_readStep_66 fX8_11 lo_21 sh_21 rfl ?_
    refine rr_iload 4 rfl dX8_readStep_69 ?_
    refine rr_iload_n 3 rfl rfl dX8_readStep_71 ?_
    refine rr_iastore dX8_readStep_72 lo_22 sh_22 (vp_in_nI (by omega) (by decide)) ?_
    rw [jj_rs_set (B := h) (L := [(21, (upd (h 21) (4) ((nI (L0.length)) + 1)))]) (L2 := [(21, (upd (h 21) (4) ((nI (L0.length)) + 1))), (22, (upd (h 22) (((nI (L0.length)) : Int32).toNatClampNeg) 3))]) (r := (h 22)) rfl rfl]
    refine jj_fl (fun h9 eh => ?_)
    have m9 : cwst c e n 1 (L0 ++ [(3, none, none, none)]) h0 (nt c e a) h9 := by
      rw [eh]
      exact cwst_new he m (by omega) (by omega) rfl
    clear eh
    revert h9
    intro h m
    show jj_R _ _ kc ks (jj_S, 782, h, g) 73 [(0, .ref 21), (1, .ref 13), (2, .int v), (3, .int 3), (4, .int (nI (L0.length)))] [] Q
    refine rr_aload_n 0 rfl rfl dX8_readStep_73 ?_
    refine rr_getR dX8_readStep_74 fX8_15 lo_21 sh_21 rfl ?_
    refine rr_iload 4 rfl dX8_readStep_77 ?_
    refine rr_iload_n 3 rfl rfl dX8_readStep_79 ?_
    refine rr_iconst 5 rfl dX8_readStep_80 ?_
    refine rr_icmp_ne dX8_readStep_81 (fun _ => ?_) (fun c => absurd c (by decide))
    refine rr_aload_n 1 rfl rfl dX8_readStep_88 ?_
    refine rr_iload_n 3 rfl rfl dX8_readStep_89 ?_
    refine rr_bipush 6 rfl dX8_readStep_90 ?_
    refine rr_icmp_ne dX8_readStep_92 (fun _ => ?_) (fun c => absurd c (by decide))
    refine rr_aload_n 0 rfl rfl dX8_readStep_100 ?_
    refine rr_getI dX8_readStep_101 fX8_29 lo_21 sh_21 rfl ?_
    rw [show (h 21) 5 = (nI n) from m.2.2.2.2.2.2.1]
    refine rr_iconst 1 rfl dX8_readStep_104 ?_
    refine rr_isub dX8_readStep_105 ?_
    refine rr_callV (As := [.int ((nI n) - 1)]) (rest := [.int (nI (L0.length)), .ref 23]) (kc2 := 0) (ks2 := 0) dX8_readStep_106 okX5_number lX8_58 lo_13 sh_13 rfl rfl (Nat.le_of_ble_eq_true rfl) (Nat.le_of_ble_eq_true rfl) rfl (by omega) (by simp [jj_rk]) (by simp [jj_rk]) ?_
    refine cl_num (lim := n) cwst_R he6 m (by omega) rfl (by omega) (fun v1 b1 h e1 hv1 hb1 m => ?_) (fun k p h e1 m => ?_)
    · skip
      rw [pb_ok e1] at k1 k2
      have n1 : ¬ nI v1 = -1 := nI_ne1 (by omega)
      show jj_R _ _ kc ks (jj_S, 782, h, g) 109 [(0, .ref 21), (1, .ref 13), (2, .int v), (3, .int 3), (4, .int (nI (L0.length)))] [.int (nI v1), .int (nI (L0.length)), .ref 23] Q
      refine rr_iastore dX8_readStep_109 lo_23 sh_23 (vp_in_nI (by omega) (by decide)) ?_
      rw [jj_rs_set0 (B := h) (o := 23) (r := (h 23)) rfl]
      refine rr_aload_n 0 rfl rfl dX8_readStep_110 ?_
      refine rr_getR dX8_readStep_111 fX8_15 lo_21 sh_21 rfl ?_
      refine rr_iload 4 rfl dX8_readStep_114 ?_
      refine rr_iaload dX8_readStep_116 lo_23 sh_23 (vp_in_nI (by omega) (by decide)) ?_
      rw [show (jj_rs h [(23, (upd (h 23) (((nI (L0.length)) : Int32).toNatClampNeg) (nI v1)))]) 23 = (upd (h 23) (((nI (L0.length)) : Int32).toNatClampNeg) (nI v1)) from rfl]
      rw [show (upd (h 23) (((nI (L0.length)) : Int32).toNatClampNeg) (nI v1)) (((nI (L0.length)) : Int32).toNatClampNeg) = (nI v1) from jj_ueq rfl]
      refine rr_iconst (-1) rfl dX8_readStep_117 ?_
      refine rr_icmp_ne dX8_readStep_118 (fun _ => ?_) (fun c => absurd c n1)
      refine jj_fl (fun h9 eh => ?_)
      have m9 : cwst c e n 1 (L0 ++ [(3, some v1, none, none)]) h0 b1 h9 := by
        rw [eh]
        exact cwst_23 he m (by rw [List.length_append, List.length_cons, List.length_nil]; omega) la_get la_set (fun x y d q => crl_1 q)
      clear eh
      revert h9
      intro h m
      show jj_R _ _ kc ks (jj_S, 782, h, g) 123 [(0, .ref 21), (1, .ref 13), (2, .int v), (3, .int 3), (4, .int (nI (L0.length)))] [] Q
      refine rr_aload_n 0 rfl rfl dX8_readStep_123 ?_
      refine rr_getR dX8_readStep_124 fX8_18 lo_21 sh_21 rfl ?_
      refine rr_iload 4 rfl dX8_readStep_127 ?_
      refine rr_iload_n 3 rfl rfl dX8_readStep_129 ?_
      refine rr_if_eq dX8_readStep_130 (fun c => absurd c (by decide)) (fun _ => ?_)
      refine rr_iload_n 3 rfl rfl dX8_readStep_133 ?_
      refine rr_iconst 1 rfl dX8_readStep_134 ?_
      refine rr_icmp_ne dX8_readStep_135 (fun _ => ?_) (fun c => absurd c (by decide))
      refine rr_iconst 0 rfl dX8_readStep_151 ?_
      refine rr_iastore dX8_readStep_152 lo_24 sh_24 (vp_in_nI (by omega) (by decide)) ?_
      rw [jj_rs_set0 (B := h) (o := 24) (r := (h 24)) rfl]
      refine rr_aload_n 0 rfl rfl dX8_readStep_153 ?_
      refine rr_getR dX8_readStep_154 fX8_18 lo_21 sh_21 rfl ?_
      refine rr_iload 4 rfl dX8_readStep_157 ?_
      refine rr_iaload dX8_readStep_159 lo_24 sh_24 (vp_in_nI (by omega) (by decide)) ?_
      rw [show (jj_rs h [(24, (upd (h 24) (((nI (L0.length)) : Int32).toNatClampNeg) 0))]) 24 = (upd (h 24) (((nI (L0.length)) : Int32).toNatClampNeg) 0) from rfl]
      rw [show (upd (h 24) (((nI (L0.length)) : Int32).toNatClampNeg) 0) (((nI (L0.length)) : Int32).toNatClampNeg) = 0 from jj_ueq rfl]
      refine rr_iconst (-1) rfl dX8_readStep_160 ?_
      refine rr_icmp_eq dX8_readStep_161 (fun c => absurd c (by decide)) (fun _ => ?_)
      refine rr_iload_n 3 rfl rfl dX8_readStep_164 ?_
      refine rr_bipush 6 rfl dX8_readStep_165 ?_
      refine rr_icmp_ne dX8_readStep_167 (fun _ => ?_) (fun c => absurd c (by decide))
      refine jj_fl (fun h9 eh => ?_)
      have m9 : cwst c e n 1 (L0 ++ [(3, some v1, none, some (L0.length + 1))]) h0 b1 h9 := by
        rw [eh]
        exact cwst_24 he m (by rw [List.length_append, List.length_cons, List.length_nil]; omega) la_get la_set (fun x y d q => crl_n (by decide) q)
      clear eh
      revert h9
      intro h m
      have hl9 := m.2.2.1
      show jj_R _ _ kc ks (jj_S, 782, h, g) 183 [(0, .ref 21), (1, .ref 13), (2, .int v), (3, .int 3), (4, .int (nI (L0.length)))] [] Q
      refine rr_aload_n 1 rfl rfl dX8_readStep_183 ?_
      refine rr_bipush 59 rfl dX8_readStep_184 ?_
      refine rr_callV (As := [.int 59]) (rest := []) (kc2 := 0) (ks2 := 0) dX8_readStep_186 okX5_passSign lX8_65 lo_13 sh_13 rfl rfl (Nat.le_of_ble_eq_true rfl) (Nat.le_of_ble_eq_true rfl) rfl (by omega) (by simp [jj_rk]) (by simp [jj_rk]) ?_
      refine cl_sign (X := 59) cwst_R he6 (by decide) m (by omega) (fun b9 h e1 hb9 m => ?_) (fun k p h e1 m => ?_)
      · skip
        rw [pb_ok e1] at k1 k2
        show jj_R _ _ kc ks (jj_S, 782, h, g) 189 [(0, .ref 21), (1, .ref 13), (2, .int v), (3, .int 3), (4, .int (nI (L0.length)))] [.int 1] Q
        refine rr_nreturn dX8_readStep_189 rfl (by first | rfl | assumption) ?_
        exact k1 _ b9 _ rfl (by omega) (cwst_s m (by rw [List.length_append] at hl9 ⊢; simp only [List.length_cons, List.length_nil] at hl9 ⊢; omega))
      · skip
        rw [pb_er e1] at k2
        show jj_R _ _ kc ks (jj_S, 782, h, g) 189 [(0, .ref 21), (1, .ref 13), (2, .int v), (3, .int 3), (4, .int (nI (L0.length)))] [.int 0] Q
        refine rr_nreturn dX8_readStep_189 rfl (by first | rfl | assumption) ?_
        exact k2 k p _ rfl m
    · skip
      rw [pb_er e1] at k2
      show jj_R _ _ kc ks (jj_S, 782, h, g) 109 [(0, .ref 21), (1, .ref 13), (2, .int v), (3, .int 3), (4, .int (nI (L0.length)))] [.int (-1), .int (nI (L0.length)), .ref 23] Q
      refine rr_iastore dX8_readStep_109 lo_23 sh_23 (vp_in_nI (by omega) (by decide)) ?_
      rw [jj_rs_set0 (B := h) (o := 23) (r := (h 23)) rfl]
      refine rr_aload_n 0 rfl rfl dX8_readStep_110 ?_
      refine rr_getR dX8_readStep_111 fX8_15 lo_21 sh_21 rfl ?_
      refine rr_iload 4 rfl dX8_readStep_114 ?_
      refine rr_iaload dX8_readStep_116 lo_23 sh_23 (vp_in_nI (by omega) (by decide)) ?_
      rw [show (jj_rs h [(23, (upd (h 23) (((nI (L0.length)) : Int32).toNatClampNeg) (-1)))]) 23 = (upd (h 23) (((nI (L0.length)) : Int32).toNatClampNeg) (-1)) from rfl]
      rw [show (upd (h 23) (((nI (L0.length)) : Int32).toNatClampNeg) (-1)) (((nI (L0.length)) : Int32).toNatClampNeg) = (-1) from jj_ueq rfl]
      refine rr_iconst (-1) rfl dX8_readStep_117 ?_
      refine rr_icmp_ne dX8_readStep_118 (fun c => absurd c (by decide)) (fun _ => ?_)
      refine rr_iconst 0 rfl dX8_readStep_121 ?_
      refine rr_nreturn dX8_readStep_122 rfl (by first | rfl | assumption) ?_
      exact k2 k p _ rfl (cwer_23 m)
  · skip
    have hp : pstep S c e n L0.length a = psgl c e n 4 L0.length a := by unfold pstep; rw [q, if_neg (by decide), if_neg (by decide), if_neg (by decide), if_neg (by decide), if_pos rfl]
    rw [hp] at k1 k2
    rw [q]
    have sk2 := sk_2 (c := c) (e := e) (a := a) (by rw [q]; decide)
    have ntn : nx c e a ≤ nt c e a := spn_ge
    unfold psgl at k1 k2
    show jj_R _ _ kc ks (jj_S, 782, h, g) 4 [(0, .ref 21), (1, .ref 13), (2, .int v)] [.int 4] Q
    refine rr_istore_n [(0, .ref 21), (1, .ref 13), (2, .int v), (3, .int 4)] dX8_readStep_4 rfl (by decide) rfl ?_
    refine rr_aload_n 0 rfl rfl dX8_readStep_5 ?_
    refine rr_getI dX8_readStep_6 fX8_25 lo_21 sh_21 rfl ?_
    rw [show (h 21) 4 = (nI (L0.length)) from m.2.1]
    refine rr_istore [(0, .ref 21), (1, .ref 13), (2, .int v), (3, .int 4), (4, .int (nI (L0.length)))] dX8_readStep_9 (by decide) rfl ?_
    refine rr_iload_n 3 rfl rfl dX8_readStep_11 ?_
    refine rr_iconst (-1) rfl dX8_readStep_12 ?_
    refine rr_icmp_eq dX8_readStep_13 (fun c => absurd c (by decide)) (fun _ => ?_)
    refine rr_iload 4 rfl dX8_readStep_16 ?_
    refine rr_bipush 38 rfl dX8_readStep_18 ?_
    refine rr_icmp_lt dX8_readStep_20 (fun _ => ?_) (fun c => absurd (nI_lt (a := L0.length) (b := 38) (by omega) (by decide)) c)
    refine rr_iload_n 3 rfl rfl dX8_readStep_31 ?_
    refine rr_bipush 6 rfl dX8_readStep_32 ?_
    refine rr_icmp_ne dX8_readStep_34 (fun _ => ?_) (fun c => absurd c (by decide))
    refine rr_aload_n 1 rfl rfl dX8_readStep_51 ?_
    refine rr_callV (As := []) (rest := []) (kc2 := 0) (ks2 := 0) dX8_readStep_52 okX5_advance lX8_55 lo_13 sh_13 rfl rfl (Nat.le_of_ble_eq_true rfl) (Nat.le_of_ble_eq_true rfl) rfl (by omega) (by simp [jj_rk]) (by simp [jj_rk]) ?_
    refine cl_adv cwst_R he6 m (by omega) (fun h m => ?_)
    show jj_R _ _ kc ks (jj_S, 782, h, g) 55 [(0, .ref 21), (1, .ref 13), (2, .int v), (3, .int 4), (4, .int (nI (L0.length)))] [] Q
    refine rr_aload_n 0 rfl rfl dX8_readStep_55 ?_
    refine rr_dup rfl dX8_readStep_56 ?_
    refine rr_getI dX8_readStep_57 fX8_25 lo_21 sh_21 rfl ?_
    rw [show (h 21) 4 = (nI (L0.length)) from m.2.1]
    refine rr_iconst 1 rfl dX8_readStep_60 ?_
    refine rr_iadd dX8_readStep_61 ?_
    refine rr_putI dX8_readStep_62 fX8_25 ni8_4 lo_21 sh_21 rfl ?_
    rw [jj_rs_set0 (B := h) (o := 21) (r := (h 21)) rfl]
    refine rr_aload_n 0 rfl rfl dX8_readStep_65 ?_
    refine rr_getR dX8_readStep_66 fX8_11 lo_21 sh_21 rfl ?_
    refine rr_iload 4 rfl dX8_readStep_69 ?_
    refine rr_iload_n 3 rfl rfl dX8_readStep_71 ?_
    refine rr_iastore dX8_readStep_72 lo_22 sh_22 (vp_in_nI (by omega) (by decide)) ?_
    rw [jj_rs_set (B := h) (L := [(21, (upd (h 21) (4) ((nI (L0.length)) + 1)))]) (L2 := [(21, (upd (h 21) (4) ((nI (L0.length)) + 1))), (22, (upd (h 22) (((nI (L0.length)) : Int32).toNatClampNeg) 4))]) (r := (h 22)) rfl rfl]
    refine jj_fl (fun h9 eh => ?_)
    have m9 : cwst c e n 1 (L0 ++ [(4, none, none, none)]) h0 (nt c e a) h9 := by
      rw [eh]
      exact cwst_new he m (by omega) (by omega) rfl
    clear eh
    revert h9
    intro h m
    show jj_R _ _ kc ks (jj_S, 782, h, g) 73 [(0, .ref 21), (1, .ref 13), (2, .int v), (3, .int 4), (4, .int (nI (L0.length)))] [] Q
    refine rr_aload_n 0 rfl rfl dX8_readStep_73 ?_
    refine rr_getR dX8_readStep_74 fX8_15 lo_21 sh_21 rfl ?_
    refine rr_iload 4 rfl dX8_readStep_77 ?_
    refine rr_iload_n 3 rfl rfl dX8_readStep_79 ?_
    refine rr_iconst 5 rfl dX8_readStep_80 ?_
    refine rr_icmp_ne dX8_readStep_81 (fun _ => ?_) (fun c => absurd c (by decide))
    refine rr_aload_n 1 rfl rfl dX8_readStep_88 ?_
    refine rr_iload_n 3 rfl rfl dX8_readStep_89 ?_
    refine rr_bipush 6 rfl dX8_readStep_90 ?_
    refine rr_icmp_ne dX8_readStep_92 (fun _ => ?_) (fun c => absurd c (by decide))
    refine rr_aload_n 0 rfl rfl dX8_readStep_100 ?_
    refine rr_getI dX8_readStep_101 fX8_29 lo_21 sh_21 rfl ?_
    rw [show (h 21) 5 = (nI n) from m.2.2.2.2.2.2.1]
    refine rr_iconst 1 rfl dX8_readStep_104 ?_
    refine rr_isub dX8_readStep_105 ?_
    refine rr_callV (As := [.int ((nI n) - 1)]) (rest := [.int (nI (L0.length)), .ref 23]) (kc2 := 0) (ks2 := 0) dX8_readStep_106 okX5_number lX8_58 lo_13 sh_13 rfl rfl (Nat.le_of_ble_eq_true rfl) (Nat.le_of_ble_eq_true rfl) rfl (by omega) (by simp [jj_rk]) (by simp [jj_rk]) ?_
    refine cl_num (lim := n) cwst_R he6 m (by omega) rfl (by omega) (fun v1 b1 h e1 hv1 hb1 m => ?_) (fun k p h e1 m => ?_)
    · skip
      rw [pb_ok e1] at k1 k2
      have n1 : ¬ nI v1 = -1 := nI_ne1 (by omega)
      show jj_R _ _ kc ks (jj_S, 782, h, g) 109 [(0, .ref 21), (1, .ref 13), (2, .int v), (3, .int 4), (4, .int (nI (L0.length)))] [.int (nI v1), .int (nI (L0.length)), .ref 23] Q
      refine rr_iastore dX8_readStep_109 lo_23 sh_23 (vp_in_nI (by omega) (by decide)) ?_
      rw [jj_rs_set0 (B := h) (o := 23) (r := (h 23)) rfl]
      refine rr_aload_n 0 rfl rfl dX8_readStep_110 ?_
      refine rr_getR dX8_readStep_111 fX8_15 lo_21 sh_21 rfl ?_
      refine rr_iload 4 rfl dX8_readStep_114 ?_
      refine rr_iaload dX8_readStep_116 lo_23 sh_23 (vp_in_nI (by omega) (by decide)) ?_
      rw [show (jj_rs h [(23, (upd (h 23) (((nI (L0.length)) : Int32).toNatClampNeg) (nI v1)))]) 23 = (upd (h 23) (((nI (L0.length)) : Int32).toNatClampNeg) (nI v1)) from rfl]
      rw [show (upd (h 23) (((nI (L0.length)) : Int32).toNatClampNeg) (nI v1)) (((nI (L0.length)) : Int32).toNatClampNeg) = (nI v1) from jj_ueq rfl]
      refine rr_iconst (-1) rfl dX8_readStep_117 ?_
      refine rr_icmp_ne dX8_readStep_118 (fun _ => ?_) (fun c => absurd c n1)
      refine jj_fl (fun h9 eh => ?_)
      have m9 : cwst c e n 1 (L0 ++ [(4, some v1, none, none)]) h0 b1 h9 := by
        rw [eh]
        exact cwst_23 he m (by rw [List.length_append, List.length_cons, List.length_nil]; omega) la_get la_set (fun x y d q => crl_1 q)
      clear eh
      revert h9
      intro h m
      show jj_R _ _ kc ks (jj_S, 782, h, g) 123 [(0, .ref 21), (1, .ref 13), (2, .int v), (3, .int 4), (4, .int (nI (L0.length)))] [] Q
      refine rr_aload_n 0 rfl rfl dX8_readStep_123 ?_
      refine rr_getR dX8_readStep_124 fX8_18 lo_21 sh_21 rfl ?_
      refine rr_iload 4 rfl dX8_readStep_127 ?_
      refine rr_iload_n 3 rfl rfl dX8_readStep_129 ?_
      refine rr_if_eq dX8_readStep_130 (fun c => absurd c (by decide)) (fun _ => ?_)
      refine rr_iload_n 3 rfl rfl dX8_readStep_133 ?_
      refine rr_iconst 1 rfl dX8_readStep_134 ?_
      refine rr_icmp_ne dX8_readStep_135 (fun _ => ?_) (fun c => absurd c (by decide))
      refine rr_iconst 0 rfl dX8_readStep_151 ?_
      refine rr_iastore dX8_readStep_152 lo_24 sh_24 (vp_in_nI (by omega) (by decide)) ?_
      rw [jj_rs_set0 (B := h) (o := 24) (r := (h 24)) rfl]
      refine rr_aload_n 0 rfl rfl dX8_readStep_153 ?_
      refine rr_getR dX8_readStep_154 fX8_18 lo_21 sh_21 rfl ?_
      refine rr_iload 4 rfl dX8_readStep_157 ?_
      refine rr_iaload dX8_readStep_159 lo_24 sh_24 (vp_in_nI (by omega) (by decide)) ?_
      rw [show (jj_rs h [(24, (upd (h 24) (((nI (L0.length)) : Int32).toNatClampNeg) 0))]) 24 = (upd (h 24) (((nI (L0.length)) : Int32).toNatClampNeg) 0) from rfl]
      rw [show (upd (h 24) (((nI (L0.length)) : Int32).toNatClampNeg) 0) (((nI (L0.length)) : Int32).toNatClampNeg) = 0 from jj_ueq rfl]
      refine rr_iconst (-1) rfl dX8_readStep_160 ?_
      refine rr_icmp_eq dX8_readStep_161 (fun c => absurd c (by decide)) (fun _ => ?_)
      refine rr_iload_n 3 rfl rfl dX8_readStep_164 ?_
      refine rr_bipush 6 rfl dX8_readStep_165 ?_
      refine rr_icmp_ne dX8_readStep_167 (fun _ => ?_) (fun c => absurd c (by decide))
      refine jj_fl (fun h9 eh => ?_)
      have m9 : cwst c e n 1 (L0 ++ [(4, some v1, none, some (L0.length + 1))]) h0 b1 h9 := by
        rw [eh]
        exact cwst_24 he m (by rw [List.length_append, List.length_cons, List.length_nil]; omega) la_get la_set (fun x y d q => crl_n (by decide) q)
      clear eh
      revert h9
      intro h m
      have hl9 := m.2.2.1
      show jj_R _ _ kc ks (jj_S, 782, h, g) 183 [(0, .ref 21), (1, .ref 13), (2, .int v), (3, .int 4), (4, .int (nI (L0.length)))] [] Q
      refine rr_aload_n 1 rfl rfl dX8_readStep_183 ?_
      refine rr_bipush 59 rfl dX8_readStep_184 ?_
      refine rr_callV (As := [.int 59]) (rest := []) (kc2 := 0) (ks2 := 0) dX8_readStep_186 okX5_passSign lX8_65 lo_13 sh_13 rfl rfl (Nat.le_of_ble_eq_true rfl) (Nat.le_of_ble_eq_true rfl) rfl (by omega) (by simp [jj_rk]) (by simp [jj_rk]) ?_
      refine cl_sign (X := 59) cwst_R he6 (by decide) m (by omega) (fun b9 h e1 hb9 m => ?_) (fun k p h e1 m => ?_)
      · skip
        rw [pb_ok e1] at k1 k2
        show jj_R _ _ kc ks (jj_S, 782, h, g) 189 [(0, .ref 21), (1, .ref 13), (2, .int v), (3, .int 4), (4, .int (nI (L0.length)))] [.int 1] Q
        refine rr_nreturn dX8_readStep_189 rfl (by first | rfl | assumption) ?_
        exact k1 _ b9 _ rfl (by omega) (cwst_s m (by rw [List.length_append] at hl9 ⊢; simp only [List.length_cons, List.length_nil] at hl9 ⊢; omega))
      · skip
        rw [pb_er e1] at k2
        show jj_R _ _ kc ks (jj_S, 782, h, g) 189 [(0, .ref 21), (1, .ref 13), (2, .int v), (3, .int 4), (4, .int (nI (L0.length)))] [.int 0] Q
        refine rr_nreturn dX8_readStep_189 rfl (by first | rfl | assumption) ?_
        exact k2 k p _ rfl m
    · skip
      rw [pb_er e1] at k2
      show jj_R _ _ kc ks (jj_S, 782, h, g) 109 [(0, .ref 21), (1, .ref 13), (2, .int v), (3, .int 4), (4, .int (nI (L0.length)))] [.int (-1), .int (nI (L0.length)), .ref 23] Q
      refine rr_iastore dX8_readStep_109 lo_23 sh_23 (vp_in_nI (by omega) (by decide)) ?_
      rw [jj_rs_set0 (B := h) (o := 23) (r := (h 23)) rfl]
      refine rr_aload_n 0 rfl rfl dX8_readStep_110 ?_
      refine rr_getR dX8_readStep_111 fX8_15 lo_21 sh_21 rfl ?_
      refine rr_iload 4 rfl dX8_readStep_114 ?_
      refine rr_iaload dX8_readStep_116 lo_23 sh_23 (vp_in_nI (by omega) (by decide)) ?_
      rw [show (jj_rs h [(23, (upd (h 23) (((nI (L0.length)) : Int32).toNatClampNeg) (-1)))]) 23 = (upd (h 23) (((nI (L0.length)) : Int32).toNatClampNeg) (-1)) from rfl]
      rw [show (upd (h 23) (((nI (L0.length)) : Int32).toNatClampNeg) (-1)) (((nI (L0.length)) : Int32).toNatClampNeg) = (-1) from jj_ueq rfl]
      refine rr_iconst (-1) rfl dX8_readStep_117 ?_
      refine rr_icmp_ne dX8_readStep_118 (fun c => absurd c (by decide)) (fun _ => ?_)
      refine rr_iconst 0 rfl dX8_readStep_121 ?_
      refine rr_nreturn dX8_readStep_122 rfl (by first | rfl | assumption) ?_
      exact k2 k p _ rfl (cwer_23 m)
  · skip
    have hp : pstep S c e n L0.length a = pb (psign c e 59 (nt c e a)) fun b => .ok ([(5, none, none, some (L0.length + 1))], b) := by unfold pstep; rw [q, if_neg (by decide), if_neg (by decide), if_neg (by decide), if_neg (by decide), if_neg (by decide), if_pos rfl]
    rw [hp] at k1 k2
    rw [q]
    have sk2 := sk_2 (c := c) (e := e) (a := a) (by rw [q]; decide)
    have ntn : nx c e a ≤ nt c e a := spn_ge
    show jj_R _ _ kc ks (jj_S, 782, h, g) 4 [(0, .ref 21), (1, .ref 13), (2, .int v)] [.int 5] Q
    refine rr_istore_n [(0, .ref 21), (1, .ref 13), (2, .int v), (3, .int 5)] dX8_readStep_4 rfl (by decide) rfl ?_
    refine rr_aload_n 0 rfl rfl dX8_readStep_5 ?_
    refine rr_getI dX8_readStep_6 fX8_25 lo_21 sh_21 rfl ?_
    rw [show (h 21) 4 = (nI (L0.length)) from m.2.1]
    refine rr_istore [(0, .ref 21), (1, .ref 13), (2, .int v), (3, .int 5), (4, .int (nI (L0.length)))] dX8_readStep_9 (by decide) rfl ?_
    refine rr_iload_n 3 rfl rfl dX8_readStep_11 ?_
    refine rr_iconst (-1) rfl dX8_readStep_12 ?_
    refine rr_icmp_eq dX8_readStep_13 (fun c => absurd c (by decide)) (fun _ => ?_)
    refine rr_iload 4 rfl dX8_readStep_16 ?_
    refine rr_bipush 38 rfl dX8_readStep_18 ?_
    refine rr_icmp_lt dX8_readStep_20 (fun _ => ?_) (fun c => absurd (nI_lt (a := L0.length) (b := 38) (by omega) (by decide)) c)
    refine rr_iload_n 3 rfl rfl dX8_readStep_31 ?_
    refine rr_bipush 6 rfl dX8_readStep_32 ?_
    refine rr_icmp_ne dX8_readStep_34 (fun _ => ?_) (fun c => absurd c (by decide))
    refine rr_aload_n 1 rfl rfl dX8_readStep_51 ?_
    refine rr_callV (As := []) (rest := []) (kc2 := 0) (ks2 := 0) dX8_readStep_52 okX5_advance lX8_55 lo_13 sh_13 rfl rfl (Nat.le_of_ble_eq_true rfl) (Nat.le_of_ble_eq_true rfl) rfl (by omega) (by simp [jj_rk]) (by simp [jj_rk]) ?_
    refine cl_adv cwst_R he6 m (by omega) (fun h m => ?_)
    show jj_R _ _ kc ks (jj_S, 782, h, g) 55 [(0, .ref 21), (1, .ref 13), (2, .int v), (3, .int 5), (4, .int (nI (L0.length)))] [] Q
    refine rr_aload_n 0 rfl rfl dX8_readStep_55 ?_
    refine rr_dup rfl dX8_readStep_56 ?_
    refine rr_getI dX8_readStep_57 fX8_25 lo_21 sh_21 rfl ?_
    rw [show (h 21) 4 = (nI (L0.length)) from m.2.1]
    refine rr_iconst 1 rfl dX8_readStep_60 ?_
    refine rr_iadd dX8_readStep_61 ?_
    refine rr_putI dX8_readStep_62 fX8_25 ni8_4 lo_21 sh_21 rfl ?_
    rw [jj_rs_set0 (B := h) (o := 21) (r := (h 21)) rfl]
    refine rr_aload_n 0 rfl rfl dX8_readStep_65 ?_
    refine rr_getR dX8_readStep_66 fX8_11 lo_21 sh_21 rfl ?_
    refine rr_iload 4 rfl dX8_readStep_69 ?_
    refine rr_iload_n 3 rfl rfl dX8_readStep_71 ?_
    refine rr_iastore dX8_readStep_72 lo_22 sh_22 (vp_in_nI (by omega) (by decide)) ?_
    rw [jj_rs_set (B := h) (L := [(21, (upd (h 21) (4) ((nI (L0.length)) + 1)))]) (L2 := [(21, (upd (h 21) (4) ((nI (L0.length)) + 1))), (22, (upd (h 22) (((nI (L0.length)) : Int32).toNatClampNeg) 5))]) (r := (h 22)) rfl rfl]
    refine jj_fl (fun h9 eh => ?_)
    have m9 : cwst c e n 1 (L0 ++ [(5, none, none, none)]) h0 (nt c e a) h9 := by
      rw [eh]
      exact cwst_new he m (by omega) (by omega) rfl
    clear eh
    revert h9
    intro h m
    show jj_R _ _ kc ks (jj_S, 782, h, g) 73 [(0, .ref 21), (1, .ref 13), (2, .int v), (3, .int 5), (4, .int (nI (L0.length)))] [] Q
    refine rr_aload_n 0 rfl rfl dX8_readStep_73 ?_
    refine rr_getR dX8_readStep_74 fX8_15 lo_21 sh_21 rfl ?_
    refine rr_iload 4 rfl dX8_readStep_77 ?_
    refine rr_iload_n 3 rfl rfl dX8_readStep_79 ?_
    refine rr_iconst 5 rfl dX8_readStep_80 ?_
    refine rr_icmp_ne dX8_readStep_81 (fun c => absurd c (by decide)) (fun _ => ?_)
    refine rr_iconst 0 rfl dX8_readStep_84 ?_
    refine rr_goto dX8_readStep_85 ?_
    refine rr_iastore dX8_readStep_109 lo_23 sh_23 (vp_in_nI (by omega) (by decide)) ?_
    rw [jj_rs_set0 (B := h) (o := 23) (r := (h 23)) rfl]
    refine rr_aload_n 0 rfl rfl dX8_readStep_110 ?_
    refine rr_getR dX8_readStep_111 fX8_15 lo_21 sh_21 rfl ?_
    refine rr_iload 4 rfl dX8_readStep_114 ?_
    refine rr_iaload dX8_readStep_116 lo_23 sh_23 (vp_in_nI (by omega) (by decide)) ?_
    rw [show (jj_rs h [(23, (upd (h 23) (((nI (L0.length)) : Int32).toNatClampNeg) 0))]) 23 = (upd (h 23) (((nI (L0.length)) : Int32).toNatClampNeg) 0) from rfl]
    rw [show (upd (h 23) (((nI (L0.length)) : Int32).toNatClampNeg) 0) (((nI (L0.length)) : Int32).toNatClampNeg) = 0 from jj_ueq rfl]
    refine rr_iconst (-1) rfl dX8_readStep_117 ?_
    refine rr_icmp_ne dX8_readStep_118 (fun _ => ?_) (fun c => absurd c (by decide))
    refine jj_fl (fun h9 eh => ?_)
    have m9 : cwst c e n 1 (L0 ++ [(5, none, none, none)]) h0 (nt c e a) h9 := by
      rw [eh]
      exact cwst_23 he m (by rw [List.length_append, List.length_cons, List.length_nil]; omega) la_get la_set (fun x y d q => crl_0 q)
    clear eh
    revert h9
    intro h m
    show jj_R _ _ kc ks (jj_S, 782, h, g) 123 [(0, .ref 21), (1, .ref 13), (2, .int v), (3, .int 5), (4, .int (nI (L0.length)))] [] Q
    refine rr_aload_n 0 rfl rfl dX8_readStep_123 ?_
    refine rr_getR dX8_readStep_124 fX8_18 lo_21 sh_21 rfl ?_
    refine rr_iload 4 rfl dX8_readStep_127 ?_
    refine rr_iload_n 3 rfl rfl dX8_readStep_129 ?_
    refine rr_if_eq dX8_readStep_130 (fun c => absurd c (by decide)) (fun _ => ?_)
    refine rr_iload_n 3 rfl rfl dX8_readStep_133 ?_
    refine rr_iconst 1 rfl dX8_readStep_134 ?_
    refine rr_icmp_ne dX8_readStep_135 (fun _ => ?_) (fun c => absurd c (by decide))
    refine rr_iconst 0 rfl dX8_readStep_151 ?_
    refine rr_iastore dX8_readStep_152 lo_24 sh_24 (vp_in_nI (by omega) (by decide)) ?_
    rw [jj_rs_set0 (B := h) (o := 24) (r := (h 24)) rfl]
    refine rr_aload_n 0 rfl rfl dX8_readStep_153 ?_
    refine rr_getR dX8_readStep_154 fX8_18 lo_21 sh_21 rfl ?_
    refine rr_iload 4 rfl dX8_readStep_157 ?_
    refine rr_iaload dX8_readStep_159 lo_24 sh_24 (vp_in_nI (by omega) (by decide)) ?_
    rw [show (jj_rs h [(24, (upd (h 24) (((nI (L0.length)) : Int32).toNatClampNeg) 0))]) 24 = (upd (h 24) (((nI (L0.length)) : Int32).toNatClampNeg) 0) from rfl]
    rw [show (upd (h 24) (((nI (L0.length)) : Int32).toNatClampNeg) 0) (((nI (L0.length)) : Int32).toNatClampNeg) = 0 from jj_ueq rfl]
    refine rr_iconst (-1) rfl dX8_readStep_160 ?_
    refine rr_icmp_eq dX8_readStep_161 (fun c => absurd c (by decide)) (fun _ => ?_)
    refine rr_iload_n 3 rfl rfl dX8_readStep_164 ?_
    refine rr_bipush 6 rfl dX8_readStep_165 ?_
    refine rr_icmp_ne dX8_readStep_167 (fun _ => ?_) (fun c => absurd c (by decide))
    refine jj_fl (fun h9 eh => ?_)
    have m9 : cwst c e n 1 (L0 ++ [(5, none, none, some (L0.length + 1))]) h0 (nt c e a) h9 := by
      rw [eh]
      exact cwst_24 he m (by rw [List.length_append, List.length_cons, List.length_nil]; omega) la_get la_set (fun x y d q => crl_n (by decide) q)
    clear eh
    revert h9
    intro h m
    have hl9 := m.2.2.1
    show jj_R _ _ kc ks (jj_S, 782, h, g) 183 [(0, .ref 21), (1, .ref 13), (2, .int v), (3, .int 5), (4, .int (nI (L0.length)))] [] Q
    refine rr_aload_n 1 rfl rfl dX8_readStep_183 ?_
    refine rr_bipush 59 rfl dX8_readStep_184 ?_
    refine rr_callV (As := [.int 59]) (rest := []) (kc2 := 0) (ks2 := 0) dX8_readStep_186 okX5_passSign lX8_65 lo_13 sh_13 rfl rfl (Nat.le_of_ble_eq_true rfl) (Nat.le_of_ble_eq_true rfl) rfl (by omega) (by simp [jj_rk]) (by simp [jj_rk]) ?_
    refine cl_sign (X := 59) cwst_R he6 (by decide) m (by omega) (fun b9 h e1 hb9 m => ?_) (fun k p h e1 m => ?_)
    · skip
      rw [pb_ok e1] at k1 k2
      show jj_R _ _ kc ks (jj_S, 782, h, g) 189 [(0, .ref 21), (1, .ref 13), (2, .int v), (3, .int 5), (4, .int (nI (L0.length)))] [.int 1] Q
      refine rr_nreturn dX8_readStep_189 rfl (by first | rfl | assumption) ?_
      exact k1 _ b9 _ rfl (by omega) (cwst_s m (by rw [List.length_append] at hl9 ⊢; simp only [List.length_cons, List.length_nil] at hl9 ⊢; omega))
    · skip
      rw [pb_er e1] at k2
      show jj_R _ _ kc ks (jj_S, 782, h, g) 189 [(0, .ref 21), (1, .ref 13), (2, .int v), (3, .int 5), (4, .int (nI (L0.length)))] [.int 0] Q
      refine rr_nreturn dX8_readStep_189 rfl (by first | rfl | assumption) ?_
      exact k2 k p _ rfl m
  · skip
    have hp : pstep S c e n L0.length a = pagain S c e L0.length a := by unfold pstep; rw [q, if_neg (by decide), if_neg (by decide), if_neg (by decide), if_neg (by decide), if_neg (by decide), if_neg (by decide), if_pos rfl]
    rw [hp] at k1 k2
    rw [q]
    have sk2 := sk_2 (c := c) (e := e) (a := a) (by rw [q]; decide)
    have ntn : nx c e a ≤ nt c e a := spn_ge
    show jj_R _ _ kc ks (jj_S, 782, h, g) 4 [(0, .ref 21), (1, .ref 13), (2, .int v)] [.int 6] Q
    refine rr_istore_n [(0, .ref 21), (1, .ref 13), (2, .int v), (3, .int 6)] dX8_readStep_4 rfl (by decide) rfl ?_
    refine rr_aload_n 0 rfl rfl dX8_readStep_5 ?_
    refine rr_getI dX8_readStep_6 fX8_25 lo_21 sh_21 rfl ?_
    rw [show (h 21) 4 = (nI (L0.length)) from m.2.1]
    refine rr_istore [(0, .ref 21), (1, .ref 13), (2, .int v), (3, .int 6), (4, .int (nI (L0.length)))] dX8_readStep_9 (by decide) rfl ?_
    refine rr_iload_n 3 rfl rfl dX8_readStep_11 ?_
    refine rr_iconst (-1) rfl dX8_readStep_12 ?_
    refine rr_icmp_eq dX8_readStep_13 (fun c => absurd c (by decide)) (fun _ => ?_)
    refine rr_iload 4 rfl dX8_readStep_16 ?_
    refine rr_bipush 38 rfl dX8_readStep_18 ?_
    refine rr_icmp_lt dX8_readStep_20 (fun _ => ?_) (fun c => absurd (nI_lt (a := L0.length) (b := 38) (by omega) (by decide)) c)
    refine rr_iload_n 3 rfl rfl dX8_readStep_31 ?_
    refine rr_bipush 6 rfl dX8_readStep_32 ?_
    refine rr_icmp_ne dX8_readStep_34 (fun c => absurd c (by decide)) (fun _ => ?_)
    refine rr_iload_n 2 rfl rfl dX8_readStep_37 ?_
    refine rr_bipush 6 rfl dX8_readStep_38 ?_
    refine rr_icmp_lt dX8_readStep_40 (fun c1 => ?_) (fun c1 => ?_)
    · skip
      have o6 : ¬ o = 6 := fun q9 => by
        subst q9
        rw [hv] at c1
        exact absurd c1 (by decide)
      obtain ⟨s, rfl⟩ : ∃ s, S = some s := by
        cases S with
        | none => exact absurd (hN.mp rfl) o6
        | some s => exact ⟨s, rfl⟩
      have hR := fun {D kc ks a f1 : Nat} {v : Int32} {L1 : List wE_} {h0 h : hp_} {g : Nat → Nat → Int64} {Q : jj_Rs → jj_St → Prop} => cw_rep (D := D) (kc := kc) (ks := ks) (a := a) (v := v) (L0 := L1) (v1 := f1) (h0 := h0) (h := h) (g := g) (Q := Q) he (hS s rfl)
      have hv1 : v = nI o := hv
      rw [pa_some] at k1 k2
      refine rr_aload_n 1 rfl rfl dX8_readStep_51 ?_
      refine rr_callV (As := []) (rest := []) (kc2 := 0) (ks2 := 0) dX8_readStep_52 okX5_advance lX8_55 lo_13 sh_13 rfl rfl (Nat.le_of_ble_eq_true rfl) (Nat.le_of_ble_eq_true rfl) rfl (by omega) (by simp [jj_rk]) (by simp [jj_rk]) ?_
      refine cl_adv cwst_R he6 m (by omega) (fun h m => ?_)
      show jj_R _ _ kc ks (jj_S, 782, h, g) 55 [(0, .ref 21), (1, .ref 13), (2, .int v), (3, .int 6), (4, .int (nI (L0.length)))] [] Q
      refine rr_aload_n 0 rfl rfl dX8_readStep_55 ?_
      refine rr_dup rfl dX8_readStep_56 ?_
      refine rr_getI dX8_readStep_57 fX8_25 lo_21 sh_21 rfl ?_
      rw [show (h 21) 4 = (nI (L0.length)) from m.2.1]
      refine rr_iconst 1 rfl dX8_readStep_60 ?_
      refine rr_iadd dX8_readStep_61 ?_
      refine rr_putI dX8_readStep_62 fX8_25 ni8_4 lo_21 sh_21 rfl ?_
      rw [jj_rs_set0 (B := h) (o := 21) (r := (h 21)) rfl]
      refine rr_aload_n 0 rfl rfl dX8_readStep_65 ?_
      refine rr_getR dX8_readStep_66 fX8_11 lo_21 sh_21 rfl ?_
      refine rr_iload 4 rfl dX8_readStep_69 ?_
      refine rr_iload_n 3 rfl rfl dX8_readStep_71 ?_
      refine rr_iastore dX8_readStep_72 lo_22 sh_22 (vp_in_nI (by omega) (by decide)) ?_
      rw [jj_rs_set (B := h) (L := [(21, (upd (h 21) (4) ((nI (L0.length)) + 1)))]) (L2 := [(21, (upd (h 21) (4) ((nI (L0.length)) + 1))), (22, (upd (h 22) (((nI (L0.length)) : Int32).toNatClampNeg) 6))]) (r := (h 22)) rfl rfl]
      refine jj_fl (fun h9 eh => ?_)
      have m9 : cwst c e n 1 (L0 ++ [(6, none, none, none)]) h0 (nt c e a) h9 := by
        rw [eh]
        exact cwst_new he m (by omega) (by omega) rfl
      clear eh
      revert h9
      intro h m
      show jj_R _ _ kc ks (jj_S, 782, h, g) 73 [(0, .ref 21), (1, .ref 13), (2, .int v), (3, .int 6), (4, .int (nI (L0.length)))] [] Q
      refine rr_aload_n 0 rfl rfl dX8_readStep_73 ?_
      refine rr_getR dX8_readStep_74 fX8_15 lo_21 sh_21 rfl ?_
      refine rr_iload 4 rfl dX8_readStep_77 ?_
      refine rr_iload_n 3 rfl rfl dX8_readStep_79 ?_
      refine rr_iconst 5 rfl dX8_readStep_80 ?_
      refine rr_icmp_ne dX8_readStep_81 (fun _ => ?_) (fun c => absurd c (by decide))
      refine rr_aload_n 1 rfl rfl dX8_readStep_88 ?_
      refine rr_iload_n 3 rfl rfl dX8_readStep_89 ?_
      refine rr_bipush 6 rfl dX8_readStep_90 ?_
      refine rr_icmp_ne dX8_readStep_92 (fun c => absurd c (by decide)) (fun _ => ?_)
      refine rr_bipush 60 rfl dX8_readStep_95 ?_
      refine rr_goto dX8_readStep_97 ?_
      refine rr_callV (As := [.int 60]) (rest := [.int (nI (L0.length)), .ref 23]) (kc2 := 0) (ks2 := 0) dX8_readStep_106 okX5_number lX8_58 lo_13 sh_13 rfl rfl (Nat.le_of_ble_eq_true rfl) (Nat.le_of_ble_eq_true rfl) rfl (by omega) (by simp [jj_rk]) (by simp [jj_rk]) ?_
      refine cl_num (lim := 61) cwst_R he6 m (by omega) (by decide) (by omega) (fun v1 b1 h e1 hv1 hb1 m => ?_) (fun k p h e1 m => ?_)
      · skip
        rw [pb_ok e1] at k1 k2
        have n1 : ¬ nI v1 = -1 := nI_ne1 (by omega)
        show jj_R _ _ kc ks (jj_S, 782, h, g) 109 [(0, .ref 21), (1, .ref 13), (2, .int v), (3, .int 6), (4, .int (nI (L0.length)))] [.int (nI v1), .int (nI (L0.length)), .ref 23] Q
        refine rr_iastore dX8_readStep_109 lo_23 sh_23 (vp_in_nI (by omega) (by decide)) ?_
        rw [jj_rs_set0 (B := h) (o := 23) (r := (h 23)) rfl]
        refine rr_aload_n 0 rfl rfl dX8_readStep_110 ?_
        refine rr_getR dX8_readStep_111 fX8_15 lo_21 sh_21 rfl ?_
        refine rr_iload 4 rfl dX8_readStep_114 ?_
        refine rr_iaload dX8_readStep_116 lo_23 sh_23 (vp_in_nI (by omega) (by decide)) ?_
        rw [show (jj_rs h [(23, (upd (h 23) (((nI (L0.length)) : Int32).toNatClampNeg) (nI v1)))]) 23 = (upd (h 23) (((nI (L0.length)) : Int32).toNatClampNeg) (nI v1)) from rfl]
        rw [show (upd (h 23) (((nI (L0.length)) : Int32).toNatClampNeg) (nI v1)) (((nI (L0.length)) : Int32).toNatClampNeg) = (nI v1) from jj_ueq rfl]
        refine rr_iconst (-1) rfl dX8_readStep_117 ?_
        refine rr_icmp_ne dX8_readStep_118 (fun _ => ?_) (fun c => absurd c n1)
        refine jj_fl (fun h9 eh => ?_)
        have m9 : cwst c e n 1 (L0 ++ [(6, some v1, none, none)]) h0 b1 h9 := by
          rw [eh]
          exact cwst_23 he m (by rw [List.length_append, List.length_cons, List.length_nil]; omega) la_get la_set (fun x y d q => crl_1 q)
        clear eh
        revert h9
        intro h m
        show jj_R _ _ kc ks (jj_S, 782, h, g) 123 [(0, .ref 21), (1, .ref 13), (2, .int v), (3, .int 6), (4, .int (nI (L0.length)))] [] Q
        refine rr_aload_n 0 rfl rfl dX8_readStep_123 ?_
        refine rr_getR dX8_readStep_124 fX8_18 lo_21 sh_21 rfl ?_
        refine rr_iload 4 rfl dX8_readStep_127 ?_
        refine rr_iload_n 3 rfl rfl dX8_readStep_129 ?_
        refine rr_if_eq dX8_readStep_130 (fun c => absurd c (by decide)) (fun _ => ?_)
        refine rr_iload_n 3 rfl rfl dX8_readStep_133 ?_
        refine rr_iconst 1 rfl dX8_readStep_134 ?_
        refine rr_icmp_ne dX8_readStep_135 (fun _ => ?_) (fun c => absurd c (by decide))
        refine rr_iconst 0 rfl dX8_readStep_151 ?_
        refine rr_iastore dX8_readStep_152 lo_24 sh_24 (vp_in_nI (by omega) (by decide)) ?_
        rw [jj_rs_set0 (B := h) (o := 24) (r := (h 24)) rfl]
        refine rr_aload_n 0 rfl rfl dX8_readStep_153 ?_
        refine rr_getR dX8_readStep_154 fX8_18 lo_21 sh_21 rfl ?_
        refine rr_iload 4 rfl dX8_readStep_157 ?_
        refine rr_iaload dX8_readStep_159 lo_24 sh_24 (vp_in_nI (by omega) (by decide)) ?_
        rw [show (jj_rs h [(24, (upd (h 24) (((nI (L0.length)) : Int32).toNatClampNeg) 0))]) 24 = (upd (h 24) (((nI (L0.length)) : Int32).toNatClampNeg) 0) from rfl]
        rw [show (upd (h 24) (((nI (L0.length)) : Int32).toNatClampNeg) 0) (((nI (L0.length)) : Int32).toNatClampNeg) = 0 from jj_ueq rfl]
        refine rr_iconst (-1) rfl dX8_readStep_160 ?_
        refine rr_icmp_eq dX8_readStep_161 (fun c => absurd c (by decide)) (fun _ => ?_)
        refine rr_iload_n 3 rfl rfl dX8_readStep_164 ?_
        refine rr_bipush 6 rfl dX8_readStep_165 ?_
        refine rr_icmp_ne dX8_readStep_167 (fun c => absurd c (by decide)) (fun _ => ?_)
        refine jj_fl (fun h9 eh => ?_)
        have m9 : cwst c e n 1 (L0 ++ [(6, some v1, none, none)]) h0 b1 h9 := by
          rw [eh]
          exact cwst_24 he m (by rw [List.length_append, List.length_cons, List.length_nil]; omega) la_get la_set (fun x y d q => crl_z q)
        clear eh
        revert h9
        intro h m
        show jj_R _ _ kc ks (jj_S, 782, h, g) 170 [(0, .ref 21), (1, .ref 13), (2, .int v), (3, .int 6), (4, .int (nI (L0.length)))] [] Q
        refine rr_aload_n 0 rfl rfl dX8_readStep_170 ?_
        refine rr_aload_n 1 rfl rfl dX8_readStep_171 ?_
        refine rr_iload_n 2 rfl rfl dX8_readStep_172 ?_
        refine rr_iload 4 rfl dX8_readStep_173 ?_
        refine rr_callV (As := [.ref 13, .int v, .int (nI (L0.length))]) (rest := []) (kc2 := 0) (ks2 := 0) dX8_readStep_175 okX8_readRepeated lX8_61 lo_21 sh_21 rfl rfl (Nat.le_of_ble_eq_true rfl) (Nat.le_of_ble_eq_true rfl) rfl (by omega) (by simp [jj_rk]) (by simp [jj_rk]) ?_
        refine hR (by omega) hv (by omega) (cwst_s m (by rw [List.length_append, List.length_cons, List.length_nil]; omega)) (fun B3 b3 h e3 hb3 m => ?_) (fun k p h e3 m => ?_)
        · skip
          dsimp only at k1 k2
          rw [pz_ok (F := fun b2 l => pb (psign c e 59 b2) fun b3 => (.ok ((6, some v1, none, some (L0.length + 1 + l.length)) :: l, b3) : pW_)) e3] at k1 k2
          show jj_R _ _ kc ks (jj_S, 782, h, g) 178 [(0, .ref 21), (1, .ref 13), (2, .int v), (3, .int 6), (4, .int (nI (L0.length)))] [.int 1] Q
          refine rr_if_ne dX8_readStep_178 (fun _ => ?_) (fun c => absurd c (by decide))
          have hl9 := m.2.2.1
          refine rr_aload_n 1 rfl rfl dX8_readStep_183 ?_
          refine rr_bipush 59 rfl dX8_readStep_184 ?_
          refine rr_callV (As := [.int 59]) (rest := []) (kc2 := 0) (ks2 := 0) dX8_readStep_186 okX5_passSign lX8_65 lo_13 sh_13 rfl rfl (Nat.le_of_ble_eq_true rfl) (Nat.le_of_ble_eq_true rfl) rfl (by omega) (by simp [jj_rk]) (by simp [jj_rk]) ?_
          refine cl_sign (X := 59) cwst_R he6 (by decide) m (by omega) (fun b9 h e1 hb9 m => ?_) (fun k p h e1 m => ?_)
          · skip
            rw [pb_ok e1] at k1 k2
            show jj_R _ _ kc ks (jj_S, 782, h, g) 189 [(0, .ref 21), (1, .ref 13), (2, .int v), (3, .int 6), (4, .int (nI (L0.length)))] [.int 1] Q
            refine rr_nreturn dX8_readStep_189 rfl (by first | rfl | assumption) ?_
            exact k1 _ b9 _ rfl (by omega) (cwst_s m (by rw [List.length_append] at hl9 ⊢; simp only [List.length_cons, List.length_nil] at hl9 ⊢; omega))
          · skip
            rw [pb_er e1] at k2
            show jj_R _ _ kc ks (jj_S, 782, h, g) 189 [(0, .ref 21), (1, .ref 13), (2, .int v), (3, .int 6), (4, .int (nI (L0.length)))] [.int 0] Q
            refine rr_nreturn dX8_readStep_189 rfl (by first | rfl | assumption) ?_
            exact k2 k p _ rfl m
        · skip
          dsimp only at k2
          rw [pz_er (F := fun b2 l => pb (psign c e 59 b2) fun b3 => (.ok ((6, some v1, none, some (L0.length + 1 + l.length)) :: l, b3) : pW_)) e3] at k2
          show jj_R _ _ kc ks (jj_S, 782, h, g) 178 [(0, .ref 21), (1, .ref 13), (2, .int v), (3, .int 6), (4, .int (nI (L0.length)))] [.int 0] Q
          refine rr_if_ne dX8_readStep_178 (fun c => absurd c (by decide)) (fun _ => ?_)
          refine rr_iconst 0 rfl dX8_readStep_181 ?_
          refine rr_nreturn dX8_readStep_182 rfl (by first | rfl | assumption) ?_
          exact k2 k p _ rfl m
      · skip
        rw [pb_er e1] at k2
        show jj_R _ _ kc ks (jj_S, 782, h, g) 109 [(0, .ref 21), (1, .ref 13), (2, .int v), (3, .int 6), (4, .int (nI (L0.length)))] [.int (-1), .int (nI (L0.length)), .ref 23] Q
        refine rr_iastore dX8_readStep_109 lo_23 sh_23 (vp_in_nI (by omega) (by decide)) ?_
        rw [jj_rs_set0 (B := h) (o := 23) (r := (h 23)) rfl]
        refine rr_aload_n 0 rfl rfl dX8_readStep_110 ?_
        refine rr_getR dX8_readStep_111 fX8_15 lo_21 sh_21 rfl ?_
        refine rr_iload 4 rfl dX8_readStep_114 ?_
        refine rr_iaload dX8_readStep_116 lo_23 sh_23 (vp_in_nI (by omega) (by decide)) ?_
        rw [show (jj_rs h [(23, (upd (h 23) (((nI (L0.length)) : Int32).toNatClampNeg) (-1)))]) 23 = (upd (h 23) (((nI (L0.length)) : Int32).toNatClampNeg) (-1)) from rfl]
        rw [show (upd (h 23) (((nI (L0.length)) : Int32).toNatClampNeg) (-1)) (((nI (L0.length)) : Int32).toNatClampNeg) = (-1) from jj_ueq rfl]
        refine rr_iconst (-1) rfl dX8_readStep_117 ?_
        refine rr_icmp_ne dX8_readStep_118 (fun c => absurd c (by decide)) (fun _ => ?_)
        refine rr_iconst 0 rfl dX8_readStep_121 ?_
        refine rr_nreturn dX8_readStep_122 rfl (by first | rfl | assumption) ?_
        exact k2 k p _ rfl (cwer_23 m)
    · skip
      have o6 : o = 6 := by
        rcases Nat.lt_or_ge o 6 with q9 | q9
        · exact absurd (nI_lt q9 (by decide)) (by rw [← hv]; exact c1)
        · omega
      have eS := hN.mpr o6
      subst eS
      rw [pa_none] at k2
      refine rr_aload_n 1 rfl rfl dX8_readStep_43 ?_
      refine rr_iconst 3 rfl dX8_readStep_44 ?_
      refine rr_callV (As := [.int 3]) (rest := []) (kc2 := 0) (ks2 := 0) dX8_readStep_45 okX5_failed lX8_51 lo_13 sh_13 rfl rfl (Nat.le_of_ble_eq_true rfl) (Nat.le_of_ble_eq_true rfl) rfl (by omega) (by simp [jj_rk]) (by simp [jj_rk]) ?_
      refine cl_fail (K := 3) cwst_R m (by decide) (by decide) rfl (fun h m => ?_)
      show jj_R _ _ kc ks (jj_S, 782, h, g) 48 [(0, .ref 21), (1, .ref 13), (2, .int v), (3, .int 6), (4, .int (nI (L0.length)))] [.int (-1)] Q
      refine rr_pop rfl dX8_readStep_48 ?_
      refine rr_iconst 0 rfl dX8_readStep_49 ?_
      refine rr_nreturn dX8_readStep_50 rfl (by first | rfl | assumption) ?_
      exact k2 3 a _ rfl m
