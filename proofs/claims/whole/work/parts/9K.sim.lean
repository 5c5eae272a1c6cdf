/-! ===== a WORK at work, both in step ===== -/
abbrev cS_ : Type := (Nat → Int32) × (Nat → Int32) × (Nat → Int32) × (Nat → Int32) × (Nat → Int32) × (Nat → Int32)
abbrev mS_ : Type := (Nat → Int32) × (Nat → Int32)
def sR (z : Nat → Int32) (A : cS_) (M : mS_) : Prop := (A.1 7 = M.1 36 ∧ A.1 8 = M.1 37 ∧ A.1 9 = M.1 33) ∧ (∀ i, ¬ i = 33 → ¬ i = 36 → ¬ i = 37 → M.1 i = z i) ∧ nn A.2.1 A.2.2.1 A.2.2.2.1 A.2.2.2.2.1 A.2.2.2.2.2 M.2
/-- V stands in W at p -/
def atW (W : List wE_) (p : Nat) (V : List wE_) : Prop := ∀ i, i < V.length → W[p + i]? = V[i]?
theorem atW_tl {W V : List wE_} {p : Nat} {z : wE_} (h : atW W p (z :: V)) : atW W (p + 1) V := fun i hi => by
  have := h (i + 1) (by rw [List.length_cons]; omega)
  rw [List.getElem?_cons_succ] at this
  rw [← this]
  exact congrArg (fun j => W[j]?) (by omega)
theorem atW_hd {W V : List wE_} {p : Nat} {z : wE_} (h : atW W p (z :: V)) : W[p]? = some z := h 0 (by rw [List.length_cons]; omega)
theorem atW_l {W A B : List wE_} {p : Nat} (h : atW W p (A ++ B)) : atW W p A := fun i hi => by
  have := h i (by rw [List.length_append]; omega)
  rw [List.getElem?_append_left hi] at this
  exact this
theorem atW_r {W A B : List wE_} {p : Nat} (h : atW W p (A ++ B)) : atW W (p + A.length) B := fun i hi => by
  have := h (A.length + i) (by rw [List.length_append]; omega)
  rw [List.getElem?_append_right (by omega), Nat.add_sub_cancel_left] at this
  rw [← this]
  exact congrArg (fun j => W[j]?) (by omega)
theorem cnt_0 {z r21 r49 : Nat → Int32} (s : r21 7 = r49 36 ∧ r21 8 = r49 37 ∧ r21 9 = r49 33) (f : ∀ i, ¬ i = 33 → ¬ i = 36 → ¬ i = 37 → r49 i = z i) : (rX8_countStep_21 (upd r21 7 (r21 7 + 1)) 0 7 = upd (upd (upd r49 36 (r49 36 + 1)) 37 (r49 37 + 0)) 33 (r49 33 + 1) 36 ∧ rX8_countStep_21 (upd r21 7 (r21 7 + 1)) 0 8 = upd (upd (upd r49 36 (r49 36 + 1)) 37 (r49 37 + 0)) 33 (r49 33 + 1) 37 ∧ rX8_countStep_21 (upd r21 7 (r21 7 + 1)) 0 9 = upd (upd (upd r49 36 (r49 36 + 1)) 37 (r49 37 + 0)) 33 (r49 33 + 1) 33) ∧ ∀ i, ¬ i = 33 → ¬ i = 36 → ¬ i = 37 → upd (upd (upd r49 36 (r49 36 + 1)) 37 (r49 37 + 0)) 33 (r49 33 + 1) i = z i := by
  unfold rX8_countStep_21
  rw [if_pos rfl]
  refine ⟨⟨?_, ?_, ?_⟩, fun i q1 q2 q3 => by rw [jj_une q1, jj_une q3, jj_une q2]; exact f i q1 q2 q3⟩
  · rw [jj_une (by decide), jj_ueq rfl, jj_une (by decide), jj_une (by decide), jj_ueq rfl, s.1]
  · rw [jj_une (by decide), jj_une (by decide), jj_une (by decide), jj_ueq rfl, s.2.1, Int32.add_zero]
  · rw [jj_ueq rfl, jj_ueq rfl, jj_une (by decide), s.2.2]
theorem cnt_1 {z r21 r49 : Nat → Int32} {v : Int32} (hv : ¬ v = 0) (s : r21 7 = r49 36 ∧ r21 8 = r49 37 ∧ r21 9 = r49 33) (f : ∀ i, ¬ i = 33 → ¬ i = 36 → ¬ i = 37 → r49 i = z i) : (rX8_countStep_21 (upd r21 7 (r21 7 + 1)) v 7 = upd (upd (upd r49 36 (r49 36 + 1)) 37 (r49 37 + 1)) 33 (r49 33 + 0) 36 ∧ rX8_countStep_21 (upd r21 7 (r21 7 + 1)) v 8 = upd (upd (upd r49 36 (r49 36 + 1)) 37 (r49 37 + 1)) 33 (r49 33 + 0) 37 ∧ rX8_countStep_21 (upd r21 7 (r21 7 + 1)) v 9 = upd (upd (upd r49 36 (r49 36 + 1)) 37 (r49 37 + 1)) 33 (r49 33 + 0) 33) ∧ ∀ i, ¬ i = 33 → ¬ i = 36 → ¬ i = 37 → upd (upd (upd r49 36 (r49 36 + 1)) 37 (r49 37 + 1)) 33 (r49 33 + 0) i = z i := by
  unfold rX8_countStep_21
  rw [if_neg hv]
  refine ⟨⟨?_, ?_, ?_⟩, fun i q1 q2 q3 => by rw [jj_une q1, jj_une q3, jj_une q2]; exact f i q1 q2 q3⟩
  · rw [jj_une (by decide), jj_ueq rfl, jj_une (by decide), jj_une (by decide), jj_ueq rfl, s.1]
  · rw [jj_ueq rfl, jj_une (by decide), jj_une (by decide), jj_ueq rfl, s.2.1]
  · rw [jj_une (by decide), jj_une (by decide), jj_ueq rfl, s.2.2, Int32.add_zero]
abbrev cK_ : Type := Int32 → Int32 → (Nat → Int32) → (Nat → Int32) → (Nat → Int32) → (Nat → Int32) → (Nat → Int32) → (Nat → Int32) → (Nat → Int32) × (Nat → Int32) × (Nat → Int32) × (Nat → Int32) × (Nat → Int32) × (Nat → Int32)
abbrev mK_ : Type := Int32 → Int32 → (Nat → Int32) → (Nat → Int32) → (Nat → Int32) × (Nat → Int32)
/-- both call for the repeated alike -/
def sK (z : Nat → Int32) (K : cK_) (G : mK_) (f t : Int32) : Prop := ∀ (A : cS_) (M : mS_), sR z A M → sR z (K f t A.1 A.2.1 A.2.2.1 A.2.2.2.1 A.2.2.2.2.1 A.2.2.2.2.2) (G f t M.1 M.2)
section
variable {r2 r3 r4 r5 r6 r8 r22 r23 r24 r73 z : Nat → Int32} {g64 g417 : Nat → Nat → Int32} {n m : Nat} {W : List wE_}
theorem sim2 {K : cK_} {G : mK_} {a : Int32 × cS_} {b : Int32 × mS_} {p q : Nat} {A : cS_} {M : mS_} {e : Int32} (ea : a.1 = nI p) (eb : b.1 = nI p) (hp : p < 80) (e1 : r24 p = e) (e2 : g417 p 3 = e) (HK : sK z K G (nI p + 1) e) (h : sR z A M) : sr (fun (x : cS_) (y : mS_) => sR z x y) (fun (x : cS_) (y : mS_) => sR z x y) (jj_fx (frs1_2 r24 K a) q A) (jj_fx (fgo1_2 g417 G b) q M) := by
  refine fx_rel (R := fun _ (x : cS_) (y : mS_) => sR z x y) (E := fun (x : cS_) (y : mS_) => sR z x y) q A M h (fun k x y _ hxy => ?_)
  unfold frs1_2 fgo1_2
  rw [ea, eb, nI_clamp (by omega), e1, e2]
  have s1 := hxy.1.1
  by_cases c : 200 ≤ x.1 7
  · have cb : 200 ≤ y.1 36 := by rw [← s1]; exact c
    rw [if_pos c, if_pos cb]
    exact hxy
  · have cb : ¬ 200 ≤ y.1 36 := by rw [← s1]; exact c
    rw [if_neg c, if_neg cb]
    exact HK x y hxy
theorem sim1 {lev Z FU : Nat} {K : cK_} {G : mK_} (hn : n ≤ 8) (hW : W.length ≤ 38) (hc : ∀ i w, W[i]? = some w → crl w (r22 i) (r23 i) (r24 i)) (hw : ∀ i w, W[i]? = some w → wrl w (g417 i)) (hs : srl n r2 r3 r4 r5 r6 r73 g64) (HK : ∀ l row f C, lev = l + 1 → wl n f l row C → atW W row C → row + C.length ≤ W.length → C.length < Z → sK z K G (nI row) (nI (row + C.length))) {row f : Nat} {B : List wE_} {A : cS_} {M : mS_} (hB : wl n f lev row B) (hat : atW W row B) (hlen : row + B.length ≤ W.length) (hZ : B.length ≤ Z) (h : sR z A M) : sr (fun (x : Int32 × cS_) (y : Int32 × mS_) => sR z x.2 y.2) (fun (x : Int32 × cS_) (y : Int32 × mS_) => sR z x.2 y.2) (jj_fx (frs1_1 r2 r3 r6 r8 r22 r23 r24 n m K (nI (row + B.length))) FU (nI row, A)) (jj_fx (fgo1_1 r8 r73 g64 g417 n m G (nI (row + B.length))) FU (nI row, M)) := by
  have key := fx_rel (R := fun _ (a : Int32 × cS_) (b : Int32 × mS_) => (∃ p f' V, a.1 = nI p ∧ b.1 = nI p ∧ wl n f' lev p V ∧ atW W p V ∧ p + V.length = row + B.length ∧ V.length ≤ Z) ∧ sR z a.2 b.2) (E := fun (x : Int32 × cS_) (y : Int32 × mS_) => sR z x.2 y.2) (f := frs1_1 r2 r3 r6 r8 r22 r23 r24 n m K (nI (row + B.length))) (g := fgo1_1 r8 r73 g64 g417 n m G (nI (row + B.length))) FU (nI row, A) (nI row, M) ⟨⟨row, f, B, rfl, rfl, hB, hat, rfl, hZ⟩, h⟩ (fun k a b _ hab => ?_)
  · revert key
    cases jj_fx (frs1_1 r2 r3 r6 r8 r22 r23 r24 n m K (nI (row + B.length))) FU (nI row, A) <;> cases jj_fx (fgo1_1 r8 r73 g64 g417 n m G (nI (row + B.length))) FU (nI row, M) <;> intro key
    · exact key.2
    · exact key.elim
    · exact key.elim
    · exact key
  obtain ⟨⟨p, f', V, e1, e2, hV, hVat, hVe, hVZ⟩, hR⟩ := hab
  have s1 := hR.1.1
  unfold frs1_1 fgo1_1
  rw [e1, e2]
  by_cases c0 : nI (row + B.length) ≤ nI p
  · rw [if_pos c0, if_pos c0]; exact hR
  · rw [if_neg c0, if_neg c0]
    have hp : p < row + B.length := by
      rcases Nat.lt_or_ge p (row + B.length) with q | q
      · exact q
      · exact absurd (nI_le q (by omega)) c0
    rw [if_neg (show ¬ (38 : Int32) ≤ nI p from nI_ge (b := 38) (by omega) (by decide))]
    by_cases c1 : 200 ≤ a.2.1 7
    · have c1b : 200 ≤ b.2.1 36 := by rw [← s1]; exact c1
      rw [if_pos c1, if_pos c1b]; exact hR
    · have c1b : ¬ 200 ≤ b.2.1 36 := by rw [← s1]; exact c1
      rw [if_neg c1, if_neg c1b, nI_clamp (by omega)]
      cases f' with
      | zero =>
        have : V = [] := hV
        rw [this, List.length_nil] at hVe; omega
      | succ f' =>
        rcases hV with hV | ⟨w, V2, rfl, hsm, hV2⟩ | ⟨q, l, C, V2, hl, hq, rfl, hC, hV2⟩
        · rw [hV, List.length_nil] at hVe; omega
        · have hat0 := atW_hd hVat
          rw [List.length_cons] at hVe hVZ
          obtain ⟨x1, x2, x3, x4, x5⟩ := e_step (m := m) (r8 := r8) hsm (by omega) (hc p w hat0) (hw p w hat0) hR.2.2 hs hn
          rw [if_neg x3, if_neg x4, x5, x1, nI_1]
          by_cases v0 : vX8_runStep r2 r3 r6 r8 a.2.2.1 a.2.2.2.1 a.2.2.2.2.1 a.2.2.2.2.2.1 a.2.2.2.2.2.2 n m (r22 p) (r23 p) (r24 p) = 0
          · rw [if_pos v0, v0]
            obtain ⟨y1, y2⟩ := cnt_0 hR.1 hR.2.1
            exact ⟨⟨p + 1, f', V2, rfl, rfl, hV2, atW_tl hVat, by omega, by omega⟩, y1, y2, x2⟩
          · rw [if_neg v0]
            obtain ⟨y1, y2⟩ := cnt_1 v0 hR.1 hR.2.1
            exact ⟨⟨p + 1, f', V2, rfl, rfl, hV2, atW_tl hVat, by omega, by omega⟩, y1, y2, x2⟩
        · have hat0 := atW_hd hVat
          rw [List.length_cons, List.length_append] at hVe hVZ
          obtain ⟨cc1, cc2, cc3, cc4⟩ := hc p _ hat0
          obtain ⟨ww1, ww2, ww3, ww4⟩ := hw p _ hat0
          have cc1 : r22 p = 6 := cc1
          have ww1 : g417 p 0 = 6 := ww1
          have cc4 : r24 p = nI (p + 1 + C.length) := cc4 rfl _ rfl
          have ww4 : g417 p 3 = nI (p + 1 + C.length) := ww4 _ rfl
          have cc2 : r23 p = nI q := cc2 q rfl
          have ww2 : g417 p 1 = nI q := ww2 q rfl
          rw [if_pos cc1, if_pos ww1, cc2, ww2, nI_clamp (show q < 2 ^ 31 by omega), cc4, ww4]
          have hHK : sK z K G (nI p + 1) (nI (p + 1 + C.length)) := by
            rw [nI_1]
            exact HK l (p + 1) f' C hl hC (atW_l (atW_tl hVat)) (by omega) (by omega)
          have hR2 : sR z (upd a.2.1 7 (a.2.1 7 + 1), a.2.2.1, a.2.2.2.1, a.2.2.2.2.1, a.2.2.2.2.2.1, a.2.2.2.2.2.2) (upd b.2.1 36 (b.2.1 36 + 1), b.2.2) := by
            obtain ⟨⟨u1, u2, u3⟩, u4, u5⟩ := hR
            refine ⟨⟨?_, ?_, ?_⟩, fun i q1 q2 q3 => ?_, u5⟩
            · have q1 : upd a.2.1 7 (a.2.1 7 + 1) 7 = a.2.1 7 + 1 := jj_ueq rfl
              have q2 : upd b.2.1 36 (b.2.1 36 + 1) 36 = b.2.1 36 + 1 := jj_ueq rfl
              exact q1.trans ((congrArg (fun x => x + 1) u1).trans q2.symm)
            · show upd a.2.1 7 (a.2.1 7 + 1) 8 = upd b.2.1 36 (b.2.1 36 + 1) 37
              rw [jj_une (by decide), jj_une (by decide)]; exact u2
            · show upd a.2.1 7 (a.2.1 7 + 1) 9 = upd b.2.1 36 (b.2.1 36 + 1) 33
              rw [jj_une (by decide), jj_une (by decide)]; exact u3
            · show upd b.2.1 36 (b.2.1 36 + 1) i = z i
              rw [jj_une q2]; exact u4 i q1 q2 q3
          have inner := sim2 (q := q) e1 e2 (by omega) cc4 ww4 hHK hR2
          have nxt : (if nI p + 1 < nI (p + 1 + C.length) then nI (p + 1 + C.length) else nI p + 1) = nI (p + 1 + C.length) := by
            rw [nI_1]
            by_cases z0 : C.length = 0
            · rw [z0]; split <;> rfl
            · rw [if_pos (nI_lt (by omega) (by omega))]
          rw [nxt]
          revert inner
          cases jj_fx (frs1_2 r24 K a) q (upd a.2.1 7 (a.2.1 7 + 1), a.2.2.1, a.2.2.2.1, a.2.2.2.2.1, a.2.2.2.2.2.1, a.2.2.2.2.2.2) <;> cases jj_fx (fgo1_2 g417 G b) q (upd b.2.1 36 (b.2.1 36 + 1), b.2.2) <;> intro inner
          · exact ⟨⟨p + 1 + C.length, f', V2, rfl, rfl, hV2, atW_r (atW_tl hVat), by omega, by omega⟩, inner⟩
          · exact inner.elim
          · exact inner.elim
          · exact ⟨⟨p + 1 + C.length, f', V2, rfl, rfl, hV2, atW_r (atW_tl hVat), by omega, by omega⟩, inner⟩
theorem fx_0 {α β : Type} {F : Nat → α → Sum α β} {a : α} {x : β} (h : F 0 a = .inr x) : ∀ k, jj_fx F (k + 1) a = .inr x
  | 0 => h
  | k + 1 => by
    show Sum.elim (fun b => F (k + 1) b) (fun r => .inr r) (jj_fx F (k + 1) a) = _
    rw [fx_0 h k]
    rfl
theorem sim {lev : Nat} (hn : n ≤ 8) (hW : W.length ≤ 38) (hc : ∀ i w, W[i]? = some w → crl w (r22 i) (r23 i) (r24 i)) (hw : ∀ i w, W[i]? = some w → wrl w (g417 i)) (hs : srl n r2 r3 r4 r5 r6 r73 g64) : ∀ {row f j : Nat} {B : List wE_}, wl n f lev row B → atW W row B → row + B.length ≤ W.length → B.length ≤ j → sK z (rs r2 r3 r6 r8 r22 r23 r24 n m (lev + 1)) (go r8 r73 g64 g417 n m j) (nI row) (nI (row + B.length)) := by
  induction lev with
  | zero =>
    intro row f j B hB hat hlen hj A M h
    cases j with
    | zero =>
      have e : B = [] := List.length_eq_zero_iff.mp (by omega)
      subst e
      have e0 : jj_fx (frs1_1 r2 r3 r6 r8 r22 r23 r24 n m (rs r2 r3 r6 r8 r22 r23 r24 n m 0) (nI (row + ([] : List wE_).length))) 201 (nI row, A.1, A.2.1, A.2.2.1, A.2.2.2.1, A.2.2.2.2.1, A.2.2.2.2.2) = .inr (nI row, A.1, A.2.1, A.2.2.1, A.2.2.2.1, A.2.2.2.2.1, A.2.2.2.2.2) := fx_0 (by unfold frs1_1; rw [if_pos (nI_le (by rw [List.length_nil]; omega) (by omega))]) 200
      show sR z (rrs1_21 _ _ _ _ _ _ _ _ _ _ _ _ _ _ _ _ _ _, rrs1_38 _ _ _ _ _ _ _ _ _ _ _ _ _ _ _ _ _ _, rrs1_39 _ _ _ _ _ _ _ _ _ _ _ _ _ _ _ _ _ _, rrs1_40 _ _ _ _ _ _ _ _ _ _ _ _ _ _ _ _ _ _, rrs1_41 _ _ _ _ _ _ _ _ _ _ _ _ _ _ _ _ _ _, rrs1_42 _ _ _ _ _ _ _ _ _ _ _ _ _ _ _ _ _ _) (M.1, M.2)
      unfold rrs1_21 rrs1_38 rrs1_39 rrs1_40 rrs1_41 rrs1_42
      rw [e0]
      exact h
    | succ j =>
      show sR z (rrs1_21 _ _ _ _ _ _ _ _ _ _ _ _ _ _ _ _ _ _, rrs1_38 _ _ _ _ _ _ _ _ _ _ _ _ _ _ _ _ _ _, rrs1_39 _ _ _ _ _ _ _ _ _ _ _ _ _ _ _ _ _ _, rrs1_40 _ _ _ _ _ _ _ _ _ _ _ _ _ _ _ _ _ _, rrs1_41 _ _ _ _ _ _ _ _ _ _ _ _ _ _ _ _ _ _, rrs1_42 _ _ _ _ _ _ _ _ _ _ _ _ _ _ _ _ _ _) (rgo1_49 _ _ _ _ _ _ _ _ _ _ _, rgo1_497 _ _ _ _ _ _ _ _ _ _ _)
      unfold rrs1_21 rrs1_38 rrs1_39 rrs1_40 rrs1_41 rrs1_42 rgo1_49 rgo1_497
      generalize 201 = FU
      have key := sim1 (lev := 0) (FU := FU) (m := m) (r8 := r8) (K := rs r2 r3 r6 r8 r22 r23 r24 n m 0) (G := go r8 r73 g64 g417 n m j) (Z := j + 1) hn hW hc hw hs (fun l row f C e => absurd e (by omega)) hB hat hlen hj h
      revert key
      show sr _ _ (jj_fx (frs1_1 r2 r3 r6 r8 r22 r23 r24 n m (rs r2 r3 r6 r8 r22 r23 r24 n m 0) (nI (row + B.length))) FU (nI row, A.1, A.2.1, A.2.2.1, A.2.2.2.1, A.2.2.2.2.1, A.2.2.2.2.2)) (jj_fx (fgo1_1 r8 r73 g64 g417 n m (go r8 r73 g64 g417 n m j) (nI (row + B.length))) FU (nI row, M.1, M.2)) → _
      cases jj_fx (frs1_1 r2 r3 r6 r8 r22 r23 r24 n m (rs r2 r3 r6 r8 r22 r23 r24 n m 0) (nI (row + B.length))) FU (nI row, A.1, A.2.1, A.2.2.1, A.2.2.2.1, A.2.2.2.2.1, A.2.2.2.2.2) <;> cases jj_fx (fgo1_1 r8 r73 g64 g417 n m (go r8 r73 g64 g417 n m j) (nI (row + B.length))) FU (nI row, M.1, M.2) <;> intro key
      · exact key
      · exact key.elim
      · exact key.elim
      · exact key
  | succ lev ih =>
    intro row f j B hB hat hlen hj A M h
    cases j with
    | zero =>
      have e : B = [] := List.length_eq_zero_iff.mp (by omega)
      subst e
      have e0 : jj_fx (frs1_1 r2 r3 r6 r8 r22 r23 r24 n m (rs r2 r3 r6 r8 r22 r23 r24 n m (lev + 1)) (nI (row + ([] : List wE_).length))) 201 (nI row, A.1, A.2.1, A.2.2.1, A.2.2.2.1, A.2.2.2.2.1, A.2.2.2.2.2) = .inr (nI row, A.1, A.2.1, A.2.2.1, A.2.2.2.1, A.2.2.2.2.1, A.2.2.2.2.2) := fx_0 (by unfold frs1_1; rw [if_pos (nI_le (by rw [List.length_nil]; omega) (by omega))]) 200
      show sR z (rrs1_21 _ _ _ _ _ _ _ _ _ _ _ _ _ _ _ _ _ _, rrs1_38 _ _ _ _ _ _ _ _ _ _ _ _ _ _ _ _ _ _, rrs1_39 _ _ _ _ _ _ _ _ _ _ _ _ _ _ _ _ _ _, rrs1_40 _ _ _ _ _ _ _ _ _ _ _ _ _ _ _ _ _ _, rrs1_41 _ _ _ _ _ _ _ _ _ _ _ _ _ _ _ _ _ _, rrs1_42 _ _ _ _ _ _ _ _ _ _ _ _ _ _ _ _ _ _) (M.1, M.2)
      unfold rrs1_21 rrs1_38 rrs1_39 rrs1_40 rrs1_41 rrs1_42
      rw [e0]
      exact h
    | succ j =>
      show sR z (rrs1_21 _ _ _ _ _ _ _ _ _ _ _ _ _ _ _ _ _ _, rrs1_38 _ _ _ _ _ _ _ _ _ _ _ _ _ _ _ _ _ _, rrs1_39 _ _ _ _ _ _ _ _ _ _ _ _ _ _ _ _ _ _, rrs1_40 _ _ _ _ _ _ _ _ _ _ _ _ _ _ _ _ _ _, rrs1_41 _ _ _ _ _ _ _ _ _ _ _ _ _ _ _ _ _ _, rrs1_42 _ _ _ _ _ _ _ _ _ _ _ _ _ _ _ _ _ _) (rgo1_49 _ _ _ _ _ _ _ _ _ _ _, rgo1_497 _ _ _ _ _ _ _ _ _ _ _)
      unfold rrs1_21 rrs1_38 rrs1_39 rrs1_40 rrs1_41 rrs1_42 rgo1_49 rgo1_497
      generalize 201 = FU
      have key := sim1 (lev := lev + 1) (FU := FU) (m := m) (r8 := r8) (K := rs r2 r3 r6 r8 r22 r23 r24 n m (lev + 1)) (G := go r8 r73 g64 g417 n m j) (Z := j + 1) hn hW hc hw hs (fun l row f C e hC1 hC2 hC3 hC4 => by
        obtain rfl : l = lev := by omega
        exact ih hC1 hC2 hC3 (by omega)) hB hat hlen hj h
      revert key
      show sr _ _ (jj_fx (frs1_1 r2 r3 r6 r8 r22 r23 r24 n m (rs r2 r3 r6 r8 r22 r23 r24 n m (lev + 1)) (nI (row + B.length))) FU (nI row, A.1, A.2.1, A.2.2.1, A.2.2.2.1, A.2.2.2.2.1, A.2.2.2.2.2)) (jj_fx (fgo1_1 r8 r73 g64 g417 n m (go r8 r73 g64 g417 n m j) (nI (row + B.length))) FU (nI row, M.1, M.2)) → _
      cases jj_fx (frs1_1 r2 r3 r6 r8 r22 r23 r24 n m (rs r2 r3 r6 r8 r22 r23 r24 n m (lev + 1)) (nI (row + B.length))) FU (nI row, A.1, A.2.1, A.2.2.1, A.2.2.2.1, A.2.2.2.2.1, A.2.2.2.2.2) <;> cases jj_fx (fgo1_1 r8 r73 g64 g417 n m (go r8 r73 g64 g417 n m j) (nI (row + B.length))) FU (nI row, M.1, M.2) <;> intro key
      · exact key
      · exact key.elim
      · exact key.elim
      · exact key
end
