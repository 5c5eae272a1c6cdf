/-! ===== fields and rows ===== -/
theorem jj_clx {P : Nat → vw_C → Prop} (h : ∀ i : Nat, ∀ q : vw_C, jj_cl[i]? = some q → i < 11 → P i q) : ∀ (i : Nat) (q : vw_C), jj_cl[i]? = some q → P i q := fun i q hq => h i q hq (by
  have := (List.getElem?_eq_some_iff.mp hq).1
  exact this)
set_option maxRecDepth 100000 in
theorem jj_uin0 : jj_cl.all (fun q => (u_ws q.1 q.2.1 q.2.2).all (fun w => jj_tg.contains w)) = true := by decide +kernel
theorem jj_uin {i : Nat} {C : String} {T : u_T} {N : Nat} (h : jj_cl[i]? = some (C, T, N)) : ∀ w ∈ u_ws C T N, w ∈ jj_tg := by
  have h1 := List.all_eq_true.mp jj_uin0 _ (List.mem_of_getElem? h)
  intro w hw
  have h2 := List.all_eq_true.mp h1 w hw
  exact List.contains_iff_mem.mp h2
theorem jj_tyok {i : Nat} {C : String} {T : u_T} {N : Nat} (h : jj_cl[i]? = some (C, T, N)) : ∃ ty : Nat → FieldType, ∀ k, k < N → parseFieldDescriptor (T k).2.2.1 = some (ty k) := by
  have hi : i < 11 := (List.getElem?_eq_some_iff.mp h).1
  have hc : i = 0 ∨ i = 1 ∨ i = 2 ∨ i = 3 ∨ i = 4 ∨ i = 5 ∨ i = 6 ∨ i = 7 ∨ i = 8 ∨ i = 9 ∨ i = 10 := by omega
  rcases hc with rfl | rfl | rfl | rfl | rfl | rfl | rfl | rfl | rfl | rfl | rfl <;> cases h
  · exact ⟨_, tyX0_ok⟩
  · exact ⟨_, tyX1_ok⟩
  · exact ⟨_, tyX2_ok⟩
  · exact ⟨_, tyX3_ok⟩
  · exact ⟨_, tyX4_ok⟩
  · exact ⟨_, tyX5_ok⟩
  · exact ⟨_, tyX6_ok⟩
  · exact ⟨_, tyX7_ok⟩
  · exact ⟨_, tyX8_ok⟩
  · exact ⟨_, tyX9_ok⟩
  · exact ⟨_, tyX10_ok⟩
theorem jj_nmok {i : Nat} {C : String} {T : u_T} {N : Nat} (h : jj_cl[i]? = some (C, T, N)) : ∀ a, a < N → ∀ b, b < N → a ≠ b → (T a).2.1 ≠ (T b).2.1 := by
  have hi : i < 11 := (List.getElem?_eq_some_iff.mp h).1
  have hc : i = 0 ∨ i = 1 ∨ i = 2 ∨ i = 3 ∨ i = 4 ∨ i = 5 ∨ i = 6 ∨ i = 7 ∨ i = 8 ∨ i = 9 ∨ i = 10 := by omega
  rcases hc with rfl | rfl | rfl | rfl | rfl | rfl | rfl | rfl | rfl | rfl | rfl <;> cases h
  · exact nmX0
  · exact nmX1
  · exact nmX2
  · exact nmX3
  · exact nmX4
  · exact nmX5
  · exact nmX6
  · exact nmX7
  · exact nmX8
  · exact nmX9
  · exact nmX10
/-- the entry idx of own's file is slot k of class ci -/
def jj_F (own : String) (idx ci k : Nat) : Prop := ∃ (C : String) (T : u_T) (N : Nat), jj_cl[ci]? = some (C, T, N) ∧ k < N ∧ Cond.fieldLink own idx (T k).1 (T k).2.1 (T k).2.2.1 ∈ jj_tg
/-- it isn't final, and an int -/
def jj_Fi (ci k : Nat) : Prop := ∀ (C : String) (T : u_T) (N : Nat), jj_cl[ci]? = some (C, T, N) → (T k).2.2.2 = false ∧ parseFieldDescriptor (T k).2.2.1 = some .int
section RH
variable {M : jj_Mt} {d kc ks : Nat} {S : Nat → jj_Sh} {n : Nat} {h : Nat → Nat → Int32} {g : Nat → Nat → Int64} {pc pc2 : Nat} {ls : List (Nat × Value)} {st : List Value} {Q : jj_Rs → jj_St → Prop}
theorem jj_heo {cs : Nat → ClassId} {ad : Nat → Nat} {o ci : Nat} {sl : List (Option (Bool × Nat))} (ho : o < n) (hs : S o = .inl (ci, sl)) : (jj_W cs ad (S, n, h, g))[o]? = some (ad o, .inr (ci, jj_fs ad (h o) sl)) := by
  rw [jj_W_get (τ := (S, n, h, g)) ho]
  simp [jj_at, jj_ce, hs]
theorem jj_hei {cs : Nat → ClassId} {ad : Nat → Nat} {o t len : Nat} (ho : o < n) (hs : S o = .inr (.inl (t, len))) : (jj_W cs ad (S, n, h, g))[o]? = some (ad o, .inl (cs t, len, .inl (h o))) := by
  rw [jj_W_get (τ := (S, n, h, g)) ho]
  simp [jj_at, jj_ce, hs]
theorem jj_hel {cs : Nat → ClassId} {ad : Nat → Nat} {o len : Nat} (ho : o < n) (hs : S o = .inr (.inr (.inl len))) : (jj_W cs ad (S, n, h, g))[o]? = some (ad o, .inl (cs 3, len, .inr (.inl (g o)))) := by
  rw [jj_W_get (τ := (S, n, h, g)) ho]
  simp [jj_at, jj_ce, hs]
theorem jj_heq {cs : Nat → ClassId} {ad : Nat → Nat} {o len b : Nat} (ho : o < n) (hs : S o = .inr (.inr (.inr (len, b)))) : (jj_W cs ad (S, n, h, g))[o]? = some (ad o, .inl (cs 4, len, .inr (.inr (.inr (.inr fun j => if j < len then some (ad (b + j)) else none))))) := by
  rw [jj_W_get (τ := (S, n, h, g)) ho]
  simp [jj_at, jj_ce, hs]
theorem jj_get {o ci k idx : Nat} {sl : List (Option (Bool × Nat))} {x : Option (Bool × Nat)} {v : Value} (hd : jj_D M.2.1 pc (.getfield idx) 3 pc2) (hf : jj_F M.1.cls idx ci k) (ho : o < n) (hs : S o = .inl (ci, sl)) (hk : sl[k]? = some x) (hv : ∀ ad : Nat → Nat, jj_sv ad (h o k) x = jj_cz ad v) (kk : jj_R M d kc ks (S, n, h, g) pc2 ls (v :: st) Q) : jj_R M d kc ks (S, n, h, g) pc ls (.ref o :: st) Q := by
  obtain ⟨hd, rfl⟩ := hd
  obtain ⟨C, T, N, hc, hkN, hl⟩ := hf
  intro p l e R s m args below meth c H locs cells slots D cs A ad n0 ad0 L q
  exact va_get (v := jj_cz ad v) q.1.1 q.1.2.1 q.1.2.2.2.2.2.2.2.1 (jj_uin hc) q.1.2.2.2.2.2.1 q.1.2.2.2.2.2.2.2.2.2.2.2.2.1 q.2.2.1.1 o (jj_heo ho hs) hc k hkN (q.1.2.2.2.2.2.2.2.1 _ hl) (fun _ z => z) (by rw [jj_fs_get hk, hv ad]) hd (kk p l e R s m args below meth c H locs cells slots D cs A ad n0 ad0 L q)
theorem rr_getI {o ci k idx : Nat} {sl : List (Option (Bool × Nat))} (hd : jj_D M.2.1 pc (.getfield idx) 3 pc2) (hf : jj_F M.1.cls idx ci k) (ho : o < n) (hs : S o = .inl (ci, sl)) (hk : sl[k]? = some none) (kk : jj_R M d kc ks (S, n, h, g) pc2 ls (.int (h o k) :: st) Q) : jj_R M d kc ks (S, n, h, g) pc ls (.ref o :: st) Q :=
  jj_get hd hf ho hs hk (fun _ => rfl) kk
theorem rr_getR {o ci k idx r : Nat} {sl : List (Option (Bool × Nat))} (hd : jj_D M.2.1 pc (.getfield idx) 3 pc2) (hf : jj_F M.1.cls idx ci k) (ho : o < n) (hs : S o = .inl (ci, sl)) (hk : sl[k]? = some (some (false, r))) (kk : jj_R M d kc ks (S, n, h, g) pc2 ls (.ref r :: st) Q) : jj_R M d kc ks (S, n, h, g) pc ls (.ref o :: st) Q :=
  jj_get hd hf ho hs hk (fun _ => rfl) kk
theorem rr_getO {o ci k idx r : Nat} {sl : List (Option (Bool × Nat))} (hd : jj_D M.2.1 pc (.getfield idx) 3 pc2) (hf : jj_F M.1.cls idx ci k) (ho : o < n) (hs : S o = .inl (ci, sl)) (hk : sl[k]? = some (some (true, r))) (hz : ¬ h o k = 0) (kk : jj_R M d kc ks (S, n, h, g) pc2 ls (.ref r :: st) Q) : jj_R M d kc ks (S, n, h, g) pc ls (.ref o :: st) Q :=
  jj_get hd hf ho hs hk (fun ad => by simp [jj_sv, jj_cz, hz]) kk
theorem rr_getN {o ci k idx r : Nat} {sl : List (Option (Bool × Nat))} (hd : jj_D M.2.1 pc (.getfield idx) 3 pc2) (hf : jj_F M.1.cls idx ci k) (ho : o < n) (hs : S o = .inl (ci, sl)) (hk : sl[k]? = some (some (true, r))) (hz : h o k = 0) (kk : jj_R M d kc ks (S, n, h, g) pc2 ls (.null :: st) Q) : jj_R M d kc ks (S, n, h, g) pc ls (.ref o :: st) Q :=
  jj_get hd hf ho hs hk (fun ad => by simp [jj_sv, jj_cz, hz]) kk
theorem jj_wset {cs : Nat → ClassId} {ad : Nat → Nat} {o k : Nat} {v : Int32} {e : va_E} (he : jj_ce cs ad (S o) (upd (h o) k v) (g o) = e) : (jj_W cs ad (S, n, h, g)).set o (ad o, e) = jj_W cs ad (S, n, jj_u2 h o k v, g) := by
  refine jj_W_set rfl ?_ (fun a ha => ?_)
  · show (ad o, jj_ce cs ad (S o) (jj_u2 h o k v o) (g o)) = (ad o, e)
    rw [jj_u2_row, he]
  · show (ad a, jj_ce cs ad (S a) (jj_u2 h o k v a) (g a)) = (ad a, jj_ce cs ad (S a) (h a) (g a))
    rw [jj_u2_ne ha]
theorem jj_wsetL {cs : Nat → ClassId} {ad : Nat → Nat} {o k : Nat} {v : Int64} {e : va_E} (he : jj_ce cs ad (S o) (h o) (vp_updL (g o) k v) = e) : (jj_W cs ad (S, n, h, g)).set o (ad o, e) = jj_W cs ad (S, n, h, jj_u3 g o k v) := by
  refine jj_W_set rfl ?_ (fun a ha => ?_)
  · show (ad o, jj_ce cs ad (S o) (h o) (jj_u3 g o k v o)) = (ad o, e)
    rw [jj_u3_row, he]
  · show (ad a, jj_ce cs ad (S a) (h a) (jj_u3 g o k v a)) = (ad a, jj_ce cs ad (S a) (h a) (g a))
    rw [jj_u3_ne ha]
/-- the same stand over other contents -/
theorem jj_C.heap {τ τ2 : jj_St} {p : Program} {l : Launch} {R : Room} {s : State} {m : MethodId} {args : Array Value} {meth : Method} {c : Code} {H H1 : Heap} {locs locs1 : List Loc} {cells slots : Nat} {D : va_G} {cs : Nat → ClassId} {A : Nat → Prop} {ad : Nat → Nat} {n0 : Nat} {ad0 : Nat → Nat} {L : Array Slot}
    (q : jj_C M d kc ks τ ls p l R s m args meth c H locs cells slots D cs A ad n0 ad0 L) (hn : τ.2.1 ≤ τ2.2.1) (hw : jj_wo D cs ad A τ2 H1) (hS : va_S A s.heap H1 locs1) : jj_C M d kc ks τ2 ls p l R s m args meth c H1 locs1 cells slots D cs A ad n0 ad0 L :=
  ⟨q.1, q.2.1, hw, hS, Nat.le_trans q.2.2.2.2.1 hn, q.2.2.2.2.2.1, q.2.2.2.2.2.2⟩
theorem jj_putx {o ci k idx : Nat} {sl : List (Option (Bool × Nat))} {x : Option (Bool × Nat)} {v : Value} {y : Int32} {ty : FieldType} (hd : jj_D M.2.1 pc (.putfield idx) 3 pc2) (hf : jj_F M.1.cls idx ci k) (hfi : ∀ (C : String) (T : u_T) (N : Nat), jj_cl[ci]? = some (C, T, N) → (T k).2.2.2 = false ∧ parseFieldDescriptor (T k).2.2.1 = some ty) (hnf : ∀ ad : Nat → Nat, narrow ty (jj_cz ad v) = jj_cz ad v ∧ fits ty (jj_cz ad v) = true) (ho : o < n) (hs : S o = .inl (ci, sl)) (hk : sl[k]? = some x) (hv : ∀ ad : Nat → Nat, jj_sv ad y x = jj_cz ad v) (kk : jj_R M d kc ks (S, n, jj_u2 h o k y, g) pc2 ls st Q) : jj_R M d kc ks (S, n, h, g) pc ls (v :: .ref o :: st) Q := by
  obtain ⟨hd, rfl⟩ := hd
  obtain ⟨C, T, N, hc, hkN, hl⟩ := hf
  obtain ⟨hfin, hty⟩ := hfi C T N hc
  obtain ⟨ty0, hty0⟩ := jj_tyok hc
  intro p l e R s m args below meth c H locs cells slots D cs A ad n0 ad0 L q
  have hkl : k < (jj_fs ad (h o) sl).length := by rw [jj_fs_len]; exact (List.getElem?_eq_some_iff.mp hk).1
  refine va_put (v := jj_cz ad v) (ty := ty) q.1.1 q.1.2.1 q.1.2.2.2.2.2.2.2.1 (jj_uin hc) ty0 hty0 (jj_nmok hc) q.1.2.2.2.2.2.1 q.1.2.2.2.2.2.2.2.2.2.2.2.2.1 q.2.2.1.1 q.2.2.1.2 q.2.2.2.1 o (jj_heo ho hs) hc k hkN (q.1.2.2.2.2.2.2.2.1 _ hl) (fun _ z => z) hfin hty (hnf ad).1 (hnf ad).2 hkl hd (fun H1 locs1 hP hD hS => ?_)
  have he : jj_ce cs ad (S o) (upd (h o) k y) (g o) = .inr (ci, (jj_fs ad (h o) sl).set k (jj_cz ad v)) := by
    rw [hs, ← hv ad, jj_fs_set hk]
    rfl
  rw [jj_wset he] at hP hD
  exact kk p l e R s m args below meth c H1 locs1 cells slots D cs A ad n0 ad0 L (q.heap (Nat.le_refl _) ⟨hP, hD⟩ hS)
theorem rr_putI {o ci k idx : Nat} {sl : List (Option (Bool × Nat))} {v : Int32} (hd : jj_D M.2.1 pc (.putfield idx) 3 pc2) (hf : jj_F M.1.cls idx ci k) (hfi : jj_Fi ci k) (ho : o < n) (hs : S o = .inl (ci, sl)) (hk : sl[k]? = some none) (kk : jj_R M d kc ks (S, n, jj_u2 h o k v, g) pc2 ls st Q) : jj_R M d kc ks (S, n, h, g) pc ls (.int v :: .ref o :: st) Q :=
  jj_putx hd hf hfi (fun _ => ⟨rfl, rfl⟩) ho hs hk (fun _ => rfl) kk
theorem rr_putO {o ci k idx r : Nat} {sl : List (Option (Bool × Nat))} {C : String} (hd : jj_D M.2.1 pc (.putfield idx) 3 pc2) (hf : jj_F M.1.cls idx ci k) (hfi : ∀ (C2 : String) (T : u_T) (N : Nat), jj_cl[ci]? = some (C2, T, N) → (T k).2.2.2 = false ∧ parseFieldDescriptor (T k).2.2.1 = some (.object C)) (ho : o < n) (hs : S o = .inl (ci, sl)) (hk : sl[k]? = some (some (true, r))) (kk : jj_R M d kc ks (S, n, jj_u2 h o k 1, g) pc2 ls st Q) : jj_R M d kc ks (S, n, h, g) pc ls (.ref r :: .ref o :: st) Q :=
  jj_putx hd hf hfi (fun _ => ⟨rfl, rfl⟩) ho hs hk (fun _ => rfl) kk
/-- a final field, in a constructor -/
theorem rr_putF {o ci k idx r : Nat} {sl : List (Option (Bool × Nat))} (ty : FieldType) (hd : jj_D M.2.1 pc (.putfield idx) 3 pc2) (hf : jj_F M.1.cls idx ci k) (hfi : ∀ (C2 : String) (T : u_T) (N : Nat), jj_cl[ci]? = some (C2, T, N) → (T k).2.2.2 = true ∧ (T k).1 = M.1.cls ∧ parseFieldDescriptor (T k).2.2.1 = some ty) (hnf : ∀ a : Nat, narrow ty (.ref a) = .ref a ∧ fits ty (.ref a) = true) (hM : M.1.name = "<init>") (ho : o < n) (hs : S o = .inl (ci, sl)) (hk : sl[k]? = some (some (true, r))) (kk : jj_R M d kc ks (S, n, jj_u2 h o k 1, g) pc2 ls st Q) : jj_R M d kc ks (S, n, h, g) pc ls (.ref r :: .ref o :: st) Q := by
  obtain ⟨hd, rfl⟩ := hd
  obtain ⟨C, T, N, hc, hkN, hl⟩ := hf
  obtain ⟨hfin, hdc, hty⟩ := hfi C T N hc
  obtain ⟨ty0, hty0⟩ := jj_tyok hc
  intro p l e R s m args below meth c H locs cells slots D cs A ad n0 ad0 L q
  have hkl : k < (jj_fs ad (h o) sl).length := by rw [jj_fs_len]; exact (List.getElem?_eq_some_iff.mp hk).1
  refine va_putF (v := .ref (ad r)) (ty := ty) q.1.1 q.1.2.1 q.1.2.2.2.2.2.2.2.1 (jj_uin hc) ty0 hty0 (jj_nmok hc) q.1.2.2.2.2.2.1 q.1.2.2.2.2.2.2.2.2.2.2.2.2.1 q.2.2.1.1 q.2.2.1.2 q.2.2.2.1 o (jj_heo ho hs) hc k hkN (q.1.2.2.2.2.2.2.2.1 _ hl) (fun _ z => z) hfin (q.1.2.2.2.2.2.2.1.trans hM) hdc hty (hnf _).1 (hnf _).2 hkl hd (fun H1 locs1 hP hD hS => ?_)
  have he : jj_ce cs ad (S o) (upd (h o) k 1) (g o) = .inr (ci, (jj_fs ad (h o) sl).set k (.ref (ad r))) := by
    have e1 : jj_sv ad 1 (some (true, r)) = .ref (ad r) := rfl
    rw [hs, ← e1, jj_fs_set hk]
    rfl
  rw [jj_wset he] at hP hD
  exact kk p l e R s m args below meth c H1 locs1 cells slots D cs A ad n0 ad0 L (q.heap (Nat.le_refl _) ⟨hP, hD⟩ hS)
theorem rr_iaload {o len : Nat} {i : Int32} (hd : jj_D M.2.1 pc .iaload 1 pc2) (ho : o < n) (hs : S o = .inr (.inl (0, len))) (hi : vp_in i len) (kk : jj_R M d kc ks (S, n, h, g) pc2 ls (.int (h o i.toNatClampNeg) :: st) Q) : jj_R M d kc ks (S, n, h, g) pc ls (.int i :: .ref o :: st) Q := by
  obtain ⟨hd, rfl⟩ := hd
  intro p l e R s m args below meth c H locs cells slots D cs A ad n0 ad0 L q
  exact va_iald q.1.1 q.1.2.1 q.1.2.2.2.2.2.2.2.2.2.2.2.2.1 q.2.2.1.1 o 0 (jj_hei ho hs) rfl hi hd (kk p l e R s m args below meth c H locs cells slots D cs A ad n0 ad0 L q)
theorem rr_baload {o len : Nat} {i : Int32} (hd : jj_D M.2.1 pc .baload 1 pc2) (ho : o < n) (hs : S o = .inr (.inl (1, len))) (hi : vp_in i len) (kk : jj_R M d kc ks (S, n, h, g) pc2 ls (.int (h o i.toNatClampNeg) :: st) Q) : jj_R M d kc ks (S, n, h, g) pc ls (.int i :: .ref o :: st) Q := by
  obtain ⟨hd, rfl⟩ := hd
  intro p l e R s m args below meth c H locs cells slots D cs A ad n0 ad0 L q
  exact va_bald q.1.1 q.1.2.1 q.1.2.2.2.2.2.2.2.2.2.2.2.2.1 q.2.2.1.1 o 1 (jj_hei ho hs) rfl hi hd (kk p l e R s m args below meth c H locs cells slots D cs A ad n0 ad0 L q)
theorem rr_zaload {o len : Nat} {i : Int32} (hd : jj_D M.2.1 pc .baload 1 pc2) (ho : o < n) (hs : S o = .inr (.inl (2, len))) (hi : vp_in i len) (kk : jj_R M d kc ks (S, n, h, g) pc2 ls (.int (h o i.toNatClampNeg) :: st) Q) : jj_R M d kc ks (S, n, h, g) pc ls (.int i :: .ref o :: st) Q := by
  obtain ⟨hd, rfl⟩ := hd
  intro p l e R s m args below meth c H locs cells slots D cs A ad n0 ad0 L q
  exact va_zald q.1.1 q.1.2.1 q.1.2.2.2.2.2.2.2.2.2.2.2.2.1 q.2.2.1.1 o 2 (jj_hei ho hs) rfl hi hd (kk p l e R s m args below meth c H locs cells slots D cs A ad n0 ad0 L q)
theorem rr_laload {o len : Nat} {i : Int32} (hd : jj_D M.2.1 pc .laload 1 pc2) (ho : o < n) (hs : S o = .inr (.inr (.inl len))) (hi : vp_in i len) (kk : jj_R M d kc ks (S, n, h, g) pc2 ls (.long (g o i.toNatClampNeg) :: st) Q) : jj_R M d kc ks (S, n, h, g) pc ls (.int i :: .ref o :: st) Q := by
  obtain ⟨hd, rfl⟩ := hd
  intro p l e R s m args below meth c H locs cells slots D cs A ad n0 ad0 L q
  exact va_lald q.1.1 q.1.2.1 q.1.2.2.2.2.2.2.2.2.2.2.2.2.1 q.2.2.1.1 o 3 (jj_hel ho hs) rfl hi hd (kk p l e R s m args below meth c H locs cells slots D cs A ad n0 ad0 L q)
theorem rr_aaload {o len b : Nat} {i : Int32} (hd : jj_D M.2.1 pc .aaload 1 pc2) (ho : o < n) (hs : S o = .inr (.inr (.inr (len, b)))) (hi : vp_in i len) (kk : jj_R M d kc ks (S, n, h, g) pc2 ls (.ref (b + i.toNatClampNeg) :: st) Q) : jj_R M d kc ks (S, n, h, g) pc ls (.int i :: .ref o :: st) Q := by
  obtain ⟨hd, rfl⟩ := hd
  intro p l e R s m args below meth c H locs cells slots D cs A ad n0 ad0 L q
  have hlt : i.toNatClampNeg < len := Nat.not_le.mp fun z => hi (Or.inr z)
  have hK : (jj_ty cs)[4]? = some (cs 4, .array .int) := rfl
  exact W.aald (v := .ref (ad (b + i.toNatClampNeg))) (ty := .array .int) q.1.1 q.1.2.1 (q.2.2.1.1 o _ (jj_heq ho hs)) ((q.1.2.2.2.2.2.2.2.2.2.2.2.2.1.2 4 _ hK).1 len (fun j => va_rf (if j < len then some (ad (b + j)) else none))) rfl (fun z => by cases z) (by show ¬ (i < 0 ∨ (arrV _ _ _).slots.size ≤ _); rw [arrV_size]; exact hi) (by show (arrV _ _ _).slots[_]? = _; rw [arrV_read _ _ hlt]; simp [hlt, va_rf]) rfl rfl hd (kk p l e R s m args below meth c H locs cells slots D cs A ad n0 ad0 L q)
theorem rr_iastore {o len : Nat} {i x : Int32} (hd : jj_D M.2.1 pc .iastore 1 pc2) (ho : o < n) (hs : S o = .inr (.inl (0, len))) (hi : vp_in i len) (kk : jj_R M d kc ks (S, n, jj_u2 h o i.toNatClampNeg x, g) pc2 ls st Q) : jj_R M d kc ks (S, n, h, g) pc ls (.int x :: .int i :: .ref o :: st) Q := by
  obtain ⟨hd, rfl⟩ := hd
  intro p l e R s m args below meth c H locs cells slots D cs A ad n0 ad0 L q
  refine va_iast q.1.1 q.1.2.1 q.1.2.2.2.2.2.2.2.2.2.2.2.2.1 q.2.2.1.1 q.2.2.1.2 q.2.2.2.1 o 0 (jj_hei ho hs) rfl hi hd (fun H1 locs1 hP hD hS => ?_)
  rw [jj_wset (k := i.toNatClampNeg) (v := x) (by rw [hs]; rfl)] at hP hD
  exact kk p l e R s m args below meth c H1 locs1 cells slots D cs A ad n0 ad0 L (q.heap (Nat.le_refl _) ⟨hP, hD⟩ hS)
theorem rr_bastore {o len : Nat} {i x : Int32} (hd : jj_D M.2.1 pc .bastore 1 pc2) (ho : o < n) (hs : S o = .inr (.inl (1, len))) (hi : vp_in i len) (kk : jj_R M d kc ks (S, n, jj_u2 h o i.toNatClampNeg (vp_nar .byte x), g) pc2 ls st Q) : jj_R M d kc ks (S, n, h, g) pc ls (.int x :: .int i :: .ref o :: st) Q := by
  obtain ⟨hd, rfl⟩ := hd
  intro p l e R s m args below meth c H locs cells slots D cs A ad n0 ad0 L q
  refine va_bast q.1.1 q.1.2.1 q.1.2.2.2.2.2.2.2.2.2.2.2.2.1 q.2.2.1.1 q.2.2.1.2 q.2.2.2.1 o 1 (jj_hei ho hs) rfl hi hd (fun H1 locs1 hP hD hS => ?_)
  rw [jj_wset (k := i.toNatClampNeg) (v := vp_nar .byte x) (by rw [hs]; rfl)] at hP hD
  exact kk p l e R s m args below meth c H1 locs1 cells slots D cs A ad n0 ad0 L (q.heap (Nat.le_refl _) ⟨hP, hD⟩ hS)
theorem rr_zastore {o len : Nat} {i x : Int32} (hd : jj_D M.2.1 pc .bastore 1 pc2) (ho : o < n) (hs : S o = .inr (.inl (2, len))) (hi : vp_in i len) (kk : jj_R M d kc ks (S, n, jj_u2 h o i.toNatClampNeg (vp_nar .boolean x), g) pc2 ls st Q) : jj_R M d kc ks (S, n, h, g) pc ls (.int x :: .int i :: .ref o :: st) Q := by
  obtain ⟨hd, rfl⟩ := hd
  intro p l e R s m args below meth c H locs cells slots D cs A ad n0 ad0 L q
  refine va_zast q.1.1 q.1.2.1 q.1.2.2.2.2.2.2.2.2.2.2.2.2.1 q.2.2.1.1 q.2.2.1.2 q.2.2.2.1 o 2 (jj_hei ho hs) rfl hi hd (fun H1 locs1 hP hD hS => ?_)
  rw [jj_wset (k := i.toNatClampNeg) (v := vp_nar .boolean x) (by rw [hs]; rfl)] at hP hD
  exact kk p l e R s m args below meth c H1 locs1 cells slots D cs A ad n0 ad0 L (q.heap (Nat.le_refl _) ⟨hP, hD⟩ hS)
theorem rr_lastore {o len : Nat} {i : Int32} {x : Int64} (hd : jj_D M.2.1 pc .lastore 1 pc2) (ho : o < n) (hs : S o = .inr (.inr (.inl len))) (hi : vp_in i len) (kk : jj_R M d kc ks (S, n, h, jj_u3 g o i.toNatClampNeg x) pc2 ls st Q) : jj_R M d kc ks (S, n, h, g) pc ls (.long x :: .int i :: .ref o :: st) Q := by
  obtain ⟨hd, rfl⟩ := hd
  intro p l e R s m args below meth c H locs cells slots D cs A ad n0 ad0 L q
  refine va_last q.1.1 q.1.2.1 q.1.2.2.2.2.2.2.2.2.2.2.2.2.1 q.2.2.1.1 q.2.2.1.2 q.2.2.2.1 o 3 (jj_hel ho hs) rfl hi hd (fun H1 locs1 hP hD hS => ?_)
  rw [jj_wsetL (k := i.toNatClampNeg) (v := x) (by rw [hs]; rfl)] at hP hD
  exact kk p l e R s m args below meth c H1 locs1 cells slots D cs A ad n0 ad0 L (q.heap (Nat.le_refl _) ⟨hP, hD⟩ hS)
theorem rr_alenI {o t len : Nat} (v : Int32) (hd : jj_D M.2.1 pc .arraylength 1 pc2) (ho : o < n) (hs : S o = .inr (.inl (t, len))) (ht : t < 3) (hv : Int32.ofNat len = v) (kk : jj_R M d kc ks (S, n, h, g) pc2 ls (.int v :: st) Q) : jj_R M d kc ks (S, n, h, g) pc ls (.ref o :: st) Q := by
  obtain ⟨hd, rfl⟩ := hd
  intro p l e R s m args below meth c H locs cells slots D cs A ad n0 ad0 L q
  have hK : ∃ ty, (jj_ty cs)[t]? = some (cs t, ty) := by
    rcases (show t = 0 ∨ t = 1 ∨ t = 2 by omega) with rfl | rfl | rfl <;> exact ⟨_, rfl⟩
  obtain ⟨ty, hK⟩ := hK
  exact va_alen q.1.1 q.1.2.1 q.1.2.2.2.2.2.2.2.2.2.2.2.2.1 q.2.2.1.1 o t (jj_hei ho hs) hK hv hd (kk p l e R s m args below meth c H locs cells slots D cs A ad n0 ad0 L q)
/-- the law's script -/
theorem rr_siaload {len : Nat} {xs : Nat → Int32} {i : Int32} (hM : M.2.2.2.2.2 = some (len, xs)) (hd : jj_D M.2.1 pc .iaload 1 pc2) (hi : vp_in i len) (kk : jj_R M d kc ks (S, n, h, g) pc2 ls (.int (xs i.toNatClampNeg) :: st) Q) : jj_R M d kc ks (S, n, h, g) pc ls (.int i :: .ref 999998 :: st) Q := by
  obtain ⟨hd, rfl⟩ := hd
  intro p l e R s m args below meth c H locs cells slots D cs A ad n0 ad0 L q
  obtain ⟨hX, hb, hA⟩ := q.1.2.2.2.2.2.2.2.2.2.2.2.2.2.2.2 len xs hM
  exact va_sld q.1.1 q.1.2.1 hX hb hA q.2.2.2.1 hi hd (kk p l e R s m args below meth c H locs cells slots D cs A ad n0 ad0 L q)
theorem rr_salen {len : Nat} {xs : Nat → Int32} (hM : M.2.2.2.2.2 = some (len, xs)) (hd : jj_D M.2.1 pc .arraylength 1 pc2) (kk : jj_R M d kc ks (S, n, h, g) pc2 ls (.int (Int32.ofNat len) :: st) Q) : jj_R M d kc ks (S, n, h, g) pc ls (.ref 999998 :: st) Q := by
  obtain ⟨hd, rfl⟩ := hd
  intro p l e R s m args below meth c H locs cells slots D cs A ad n0 ad0 L q
  obtain ⟨hX, hb, hA⟩ := q.1.2.2.2.2.2.2.2.2.2.2.2.2.2.2.2 len xs hM
  exact va_slen q.1.1 q.1.2.1 hX hb hA q.2.2.2.1 hd (kk p l e R s m args below meth c H locs cells slots D cs A ad n0 ad0 L q)
end RH
