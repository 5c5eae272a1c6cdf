/-! ===== faults of WORK and STREET; Work.readFrom ===== -/
def pwork (c : Nat → Nat) (e n : Nat) : Except (Nat × Nat) (List wE_) := pb (pstps c e n 6 0 (spn isB c e 0)) fun z => if e ≤ z.2 then .ok z.1 else .error (1, z.2)
def e4 {α : Type} (m : Except (Nat × Nat) α) : Prop := ∀ k p, m = .error (k, p) → 0 < k ∧ k < 4
theorem e4_ok {α : Type} {a : α} : e4 (.ok a : Except (Nat × Nat) α) := fun k p q => by cases q
theorem e4_er {α : Type} {k p : Nat} (h : 0 < k ∧ k < 4) : e4 (.error (k, p) : Except (Nat × Nat) α) := fun k2 p2 q => by cases q; exact h
theorem e4_b {α β : Type} {m : Except (Nat × Nat) α} {f : α → Except (Nat × Nat) β} (h1 : e4 m) (h2 : ∀ a, e4 (f a)) : e4 (pb m f) := by
  intro k p h
  cases m with
  | error z => cases h; exact h1 k p rfl
  | ok a => exact h2 a k p h
theorem e4_n {c : Nat → Nat} {e lim a : Nat} : e4 (pnum c e lim a) := fun k p q => pnum_er q
theorem e4_s {c : Nat → Nat} {e x a : Nat} : e4 (psign c e x a) := fun k p q => psign_er q
theorem e4_step {S : Option (Nat → Nat → pW_)} {c : Nat → Nat} {e n row a : Nat} (hS : ∀ s, S = some s → ∀ row a, e4 (s row a)) : e4 (pstep S c e n row a) := by
  have two : ∀ k, e4 (ptwo c e n k row a) := fun k => e4_b e4_n (fun z => e4_b e4_n (fun z2 => e4_b e4_s (fun b => e4_ok)))
  have sgl : ∀ k, e4 (psgl c e n k row a) := fun k => e4_b e4_n (fun z => e4_b e4_s (fun b => e4_ok))
  unfold pstep
  split
  · exact two _
  · split
    · exact two _
    · split
      · exact sgl _
      · split
        · exact sgl _
        · split
          · exact sgl _
          · split
            · exact e4_b e4_s (fun b => e4_ok)
            · split
              · cases S with
                | none => exact e4_er (by decide)
                | some s => exact e4_b e4_n (fun z => e4_b e4_s (fun b => e4_b (hS s rfl _ _) (fun w => e4_b e4_s (fun b2 => e4_b e4_s (fun b3 => e4_ok)))))
              · exact e4_er (by decide)
theorem e4_plw {P : Nat → Nat → pW_} {c : Nat → Nat} {e row : Nat} (hP : ∀ row a, e4 (P row a)) : ∀ f L a, e4 (plw P c e row f L a)
  | 0, L, a => e4_ok
  | f + 1, L, a => by
    rw [plw]
    split
    · exact e4_b (hP _ _) (fun z => e4_plw hP f _ _)
    · exact e4_ok
theorem e4_S {c : Nat → Nat} {e n : Nat} : ∀ l s, pS_ c e n l = some s → ∀ row a, e4 (s row a)
  | 0, s, h => by cases h
  | l + 1, s, h => by
    cases h
    intro row a
    rw [pstps_eq]
    exact e4_plw (fun row a => e4_step (e4_S l)) _ _ _
theorem pwork_er {c : Nat → Nat} {e n k p : Nat} (h : pwork c e n = .error (k, p)) : 0 < k ∧ k < 4 := by
  have : e4 (pwork c e n) := by
    unfold pwork
    rw [pstps_eq]
    refine e4_b (e4_plw (fun row a => e4_step (e4_S 6)) _ _ _) (fun z => ?_)
    split
    · exact e4_ok
    · exact e4_er (by decide)
  exact this k p h
theorem e4_cl {c : Nat → Nat} {e j a : Nat} {S : sT_} : e4 (pclause c e j S a) := by
  unfold pclause
  split
  · split
    · exact e4_er (by decide)
    · exact e4_b e4_n (fun z => e4_b e4_n (fun z => e4_b e4_n (fun z => e4_b e4_n (fun z => e4_b e4_s (fun b => e4_ok)))))
  · split
    · split
      · exact e4_er (by decide)
      · refine e4_b (e4_b e4_n (fun z => e4_b e4_n (fun z2 => ?_))) (fun z => e4_b e4_s (fun b => e4_ok))
        split
        · exact e4_er (by decide)
        · exact e4_ok
    · split
      · split
        · exact e4_er (by decide)
        · exact e4_b e4_n (fun z => e4_b e4_s (fun b => e4_ok))
      · exact e4_er (by decide)
theorem e4_pls {c : Nat → Nat} {e : Nat} : ∀ f j S a, e4 (pls c e f j S a)
  | 0, j, S, a => e4_ok
  | f + 1, j, S, a => by
    rw [pls]
    split
    · exact e4_b e4_cl (fun z => e4_pls f _ _ _)
    · exact e4_ok
theorem pstreet_er {c : Nat → Nat} {e k p : Nat} (h : pstreet c e = .error (k, p)) : 0 < k ∧ k < 4 := by
  have : e4 (pstreet c e) := by
    unfold pstreet
    refine e4_b (e4_pls _ _ _ _) (fun z => ?_)
    split
    · exact e4_ok
    · exact e4_er (by decide)
  exact this k p h
def wrkT (h h9 : hp_) (n : Nat) (L : List wE_) : Prop := h9 13 7 = 0 ∧ h9 13 8 = -1 ∧ h9 21 4 = nI L.length ∧ 4 * L.length ≤ 150 ∧ h9 21 5 = nI n ∧ (∀ i z, L[i]? = some z → crl z (h9 22 i) (h9 23 i) (h9 24 i)) ∧ (∀ i, ¬ i = 4 → ¬ i = 5 → h9 21 i = h 21 i) ∧ ∀ x, pV x = false → ¬ x = 13 → h9 x = h x
def wrkE (h h9 : hp_) (k p : Nat) : Prop := h9 13 7 = nI k ∧ h9 13 8 = nI p ∧ ∀ x, pV x = false → ¬ x = 13 → h9 x = h x
set_option maxHeartbeats 2000000 in
theorem cl_work {c : Nat → Nat} {e n D kc ks : Nat} {h : hp_} {g : Nat → Nat → Int64} {Q : jj_Rs → jj_St → Prop} (he : e ≤ 150) (hn : n ≤ 8) (hD : 26 ≤ D) (m : cst c e (spn isB c e 0) h) (h8 : h 13 8 = -1) (k1 : ∀ L h9, pwork c e n = .ok L → wrkT h h9 n L → Q (.inl none) (jj_S, 782, h9, g)) (k2 : ∀ k p h9, pwork c e n = .error (k, p) → wrkE h h9 k p → Q (.inl none) (jj_S, 782, h9, g)) : jj_R mX8_readFrom D kc ks (jj_S, 782, h, g) 0 [(0, .ref 21), (1, .ref 13), (2, .int (nI n))] [] Q := by
  obtain ⟨d, rfl⟩ : ∃ d, D = d + 26 := ⟨D - 26, by omega⟩
  refine rr_aload_n 0 rfl rfl dX8_readFrom_0 ?_
  refine rr_iconst 0 rfl dX8_readFrom_1 ?_
  refine rr_putI dX8_readFrom_2 fX8_25 ni8_4 lo_21 sh_21 rfl ?_
  rw [jj_rs_set0 (B := h) (o := 21) (r := (h 21)) rfl]
  refine rr_aload_n 0 rfl rfl dX8_readFrom_5 ?_
  refine rr_iload_n 2 rfl rfl dX8_readFrom_6 ?_
  refine rr_putI dX8_readFrom_7 fX8_29 ni8_5 lo_21 sh_21 rfl ?_
  rw [jj_rs_set (B := h) (L := [(21, (upd (h 21) (4) 0))]) (L2 := [(21, (upd (upd (h 21) (4) 0) (5) (nI n)))]) (r := (upd (h 21) (4) 0)) rfl rfl]
  refine jj_fl (fun h9 eh => ?_)
  obtain ⟨hB, ht, hf⟩ := m
  have m9 : cwst c e n 0 [] h9 (spn isB c e 0) h9 := by
    refine ⟨⟨?_, ?_, ?_⟩, ?_, Nat.zero_le _, rfl, fr_rf, fun _ _ => rfl, ?_, fun i z hi => (by cases hi)⟩
    · rw [eh]; exact hB
    · rw [eh]; exact ht
    · rw [eh]; exact hf
    · rw [eh]; rfl
    · rw [eh]; rfl
  have z1 : ∀ i, ¬ i = 4 → ¬ i = 5 → h9 21 i = h 21 i := fun i q q2 => by rw [eh]; exact (jj_une q2).trans (jj_une q)
  have z2 : ∀ x, ¬ x = 21 → h9 x = h x := fun x q => by rw [eh]; exact rs_ne q
  have z3 : h9 13 8 = -1 := by rw [eh]; exact h8
  clear eh
  show jj_R _ _ kc ks (jj_S, 782, h9, g) 10 [(0, .ref 21), (1, .ref 13), (2, .int (nI n))] [] Q
  refine rr_aload_n 0 rfl rfl dX8_readFrom_10 ?_
  refine rr_aload_n 1 rfl rfl dX8_readFrom_11 ?_
  refine rr_iconst 0 rfl dX8_readFrom_12 ?_
  refine rr_callV (As := [.ref 13, .int 0]) (rest := []) (kc2 := 0) (ks2 := 0) dX8_readFrom_13 okX8_readSteps lX8_32 lo_21 sh_21 rfl rfl (Nat.le_of_ble_eq_true rfl) (Nat.le_of_ble_eq_true rfl) rfl (by omega) (by simp [jj_rk]) (by simp [jj_rk]) ?_
  refine cw_lev he hn 6 0 rfl (by omega) rfl trivial m9 (fun L b h e1 hb m => ?_) (fun k p h e1 m => ?_)
  · skip
    rw [List.nil_append] at m
    rw [List.length_nil] at e1
    show jj_R _ _ kc ks (jj_S, 782, h, g) 16 [(0, .ref 21), (1, .ref 13), (2, .int (nI n))] [.int 1] Q
    refine rr_if_eq dX8_readFrom_16 (fun c => absurd c (by decide)) (fun _ => ?_)
    refine rr_aload_n 1 rfl rfl dX8_readFrom_19 ?_
    refine rr_callV (As := []) (rest := []) (kc2 := 0) (ks2 := 0) dX8_readFrom_20 okX5_passEnd lX8_36 lo_13 sh_13 rfl rfl (Nat.le_of_ble_eq_true rfl) (Nat.le_of_ble_eq_true rfl) rfl (by omega) (by simp [jj_rk]) (by simp [jj_rk]) ?_
    refine cl_end cwst_R m (by omega) (fun q h m => ?_) (fun q h m => ?_)
    · skip
      show jj_R _ _ kc ks (jj_S, 782, h, g) 23 [(0, .ref 21), (1, .ref 13), (2, .int (nI n))] [.int 1] Q
      refine rr_pop rfl dX8_readFrom_23 ?_
      refine rr_return dX8_readFrom_24 rfl ?_
      obtain ⟨m1, m2, m3, m4, m5, m6, m7, m8⟩ := m
      have ha := m1.2.1.1
      exact k1 L h (by unfold pwork; rw [pb_ok e1, if_pos q]) ⟨m1.2.2, m4.trans z3, m2, by omega, m7, m8, fun i q q2 => (m6 i q).trans (z1 i q q2), fun x hx hx3 => (m5.1 x hx hx3).trans (z2 x (fun z => by rw [z] at hx; exact absurd hx (by decide)))⟩
    · skip
      show jj_R _ _ kc ks (jj_S, 782, h, g) 23 [(0, .ref 21), (1, .ref 13), (2, .int (nI n))] [.int 0] Q
      refine rr_pop rfl dX8_readFrom_23 ?_
      refine rr_return dX8_readFrom_24 rfl ?_
      exact k2 1 b h (by unfold pwork; rw [pb_ok e1, if_neg q]) ⟨m.1, m.2.1, fun x hx hx3 => (m.2.2.1.1 x hx hx3).trans (z2 x (fun z => by rw [z] at hx; exact absurd hx (by decide)))⟩
  · skip
    rw [List.length_nil] at e1
    show jj_R _ _ kc ks (jj_S, 782, h, g) 16 [(0, .ref 21), (1, .ref 13), (2, .int (nI n))] [.int 0] Q
    refine rr_if_eq dX8_readFrom_16 (fun _ => ?_) (fun c => absurd (by decide) c)
    refine rr_return dX8_readFrom_24 rfl ?_
    exact k2 k p h (by unfold pwork; rw [pb_er e1]) ⟨m.1, m.2.1, fun x hx hx3 => (m.2.2.1.1 x hx hx3).trans (z2 x (fun z => by rw [z] at hx; exact absurd hx (by decide)))⟩
