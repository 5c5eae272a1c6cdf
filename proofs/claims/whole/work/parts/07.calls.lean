/-! ===== calls ===== -/
theorem jj_args_cz {ad : Nat → Nat} : ∀ (vs : List Value) (i : Nat), lv_args i (vs.map (jj_cz ad)) = (lv_args i vs).map fun q => (q.1, jj_cz ad q.2)
  | [], i => rfl
  | v :: r, i => by
    rw [List.map_cons, lv_args, lv_args, List.map_cons, jj_cz_cat, jj_args_cz r]
theorem jj_sl_cz {ad : Nat → Nat} : ∀ vs : List Value, (lg_sl (vs.map (jj_cz ad))).length = (lg_sl vs).length
  | [] => rfl
  | v :: r => by
    have ih := jj_sl_cz (ad := ad) r
    unfold lg_sl at *
    rw [List.map_cons, List.flatMap_cons, List.flatMap_cons, List.length_append, List.length_append, ih, jj_cz_cat]
    by_cases h : v.category = 2 <;> simp [h]
def jj_rm (d kc ks : Nat) : Room := { frames := d, cells := kc, slots := ks, locals := 64 * d }
def jj_ws (M : jj_Mt) : List Cond := Cond.code M.1 M.2.1 M.2.2.1 M.2.2.2.1 :: jj_tg
/-- what a callee finds -/
def jj_P (D : va_G) (cs : Nat → ClassId) (ad : Nat → Nat) (τ : jj_St) (sz : Nat) (vs : List Value) : Array Value → State → Prop := fun a U =>
  a = (vs.map (jj_cz ad)).toArray ∧ U.heap.size = sz ∧ jj_wo D cs ad (fun _ => True) τ U.heap ∧ va_K D jj_cl (jj_ty cs) U ∧ jj_X jj_ss (va_A (jj_W cs ad τ) sz) ad U U.heap
theorem jj_P.blind {D : va_G} {cs : Nat → ClassId} {ad : Nat → Nat} {τ : jj_St} {sz : Nat} {vs : List Value} : FrameBlind (jj_P D cs ad τ sz vs) := by
  intro a U g mk q
  obtain ⟨h1, h2, h3, h4, h5⟩ := q
  exact ⟨h1, h2, h3, va_K.moved (u := U) (U := U.calling g mk a) (Vm.Alike.refl U.vm) h4, h5.to (U := U.calling g mk a) (State.WarmedH.refl U) (fun _ _ _ => rfl) (fun _ z => z)⟩
theorem jj_met {M : jj_Mt} {l : Launch} {D : va_G} {cs : Nat → ClassId} {ad : Nat → Nat} {τ : jj_St} {sz d kc ks : Nat} {vs : List Value} {Q : jj_Rs → jj_St → Prop} (hl : l.stackTraces = false) (hp : plainName M.1.cls = true) (hH : M.2.2.2.2.1 = []) (hS : M.2.2.2.2.2 = none) (hn : (lg_sl vs).length ≤ M.2.2.1)
    (k : jj_R M d kc ks τ 0 (lv_args 0 vs) [] Q) : vx_Met l M.1 (jj_ws M) (jj_rm d kc ks) (jj_P D cs ad τ sz vs) (jj_Qc D cs (va_A (jj_W cs ad τ) sz) ad τ.2.1 Q) (jj_Xc D cs (va_A (jj_W cs ad τ) sz) ad τ.2.1 Q) kc ks (va_A (jj_W cs ad τ) sz) := by
  refine vx_ofW (cc := M.2.1) (maxL := M.2.2.1) (ret := M.2.2.2.1) hp rfl ?_
  intro p e s m args below meth c s₁ B hml hno hv
  obtain ⟨rfl, hsz, hw, hK, hX⟩ := hv
  have hts := atoms_spec (ws := jj_ws M) B.pre
  subst hsz
  have hD := hw.2.self (sz := s.heap.size)
  rw [lg_entry_eq]
  have hle := lv_entry (vs.map (jj_cz ad)) (n := M.2.2.1) (by rw [jj_sl_cz]; exact hn)
  refine k p l e (jj_rm d kc ks) s m _ below meth c s.heap [] 0 0 D cs (va_A (jj_W cs ad τ) s.heap.size) ad τ.2.1 ad _ ⟨?_, ⟨by simp [jj_rm], by simp [jj_rm]⟩, ⟨hw.1, hD⟩, va_S.rf, Nat.le_refl _, jj_ag.rf, ?_⟩
  · refine ⟨B.exec, B.bytes, hml, B.returns, B.notSynchronized, findClass_of_methodNamed B.named, (name_of_methodNamed B.named B.method).1, fun w hw => hts w (List.mem_cons_of_mem _ hw), ?_, Nat.le_refl _, Nat.le_refl _, hl, hK, fun q hq => Or.inr hq, hX, ?_⟩
    · rw [hH]
      show c.exceptionTable.toList = []
      exact List.eq_nil_iff_forall_not_mem.mpr (fun x hx => hno x hx)
    · intro n xs hxs
      rw [hS] at hxs
      cases hxs
  · rw [← jj_args_cz]
    exact hle
/-- a method that can be called: its words -/
def jj_ok (M : jj_Mt) (n : Nat) : Prop := Cond.code M.1 M.2.1 M.2.2.1 M.2.2.2.1 ∈ jj_tg ∧ Cond.initialized M.1.cls ∈ jj_tg ∧ plainName M.1.cls = true ∧ (M.1.cls ≠ "java/lang/invoke/MethodHandle" ∧ M.1.cls ≠ "java/lang/invoke/VarHandle" ∧ (parseMethodDescriptor M.1.desc).map (fun z => z.parameters.length) = some n) ∧ M.2.2.1 ≤ 45 ∧ M.2.2.2.2.1 = [] ∧ M.2.2.2.2.2 = none
def jj_okV (M : jj_Mt) (n : Nat) : Prop := jj_ok M n ∧ Cond.instanceMethod M.1 ∈ jj_tg ∧ Cond.selects M.1.cls M.1 M.1 ∈ jj_tg
def jj_okS (M : jj_Mt) (n : Nat) : Prop := jj_ok M n ∧ Cond.static M.1 ∈ jj_tg
theorem jj_gin {M : jj_Mt} {ws : List Cond} (h : ∀ w ∈ ws, w ∈ jj_tg) : GoodIn jj_tg ws := fun w hw => ⟨h w hw, jj_good (h w hw)⟩
theorem jj_ws_in {M : jj_Mt} {n : Nat} (ok : jj_ok M n) : ∀ w ∈ jj_ws M, w ∈ jj_tg := fun w hw => by
  rcases List.mem_cons.mp hw with rfl | h
  · exact ok.1
  · exact h
theorem jj_sub {D : va_G} {cs : Nat → ClassId} {ad : Nat → Nat} {A : Nat → Prop} {τ : jj_St} {H H0 : Heap} {locs : List Loc} (hw : jj_wo D cs ad A τ H) (hS : va_S A H0 H locs) (hA : ∀ q : Nat, H0.size ≤ q → A q) : ∀ q : Nat, va_A (jj_W cs ad τ) H.size q → A q := by
  intro q h
  rcases h with ⟨k, e, h⟩ | h
  · exact hw.2.2 k (q, e) h
  · exact hA q (Nat.le_trans hS.1 h)
section RC
variable {M M2 : jj_Mt} {d kc ks kc2 ks2 : Nat} {τ : jj_St} {pc pc2 : Nat} {ls : List (Nat × Value)} {rest : List Value} {Q : jj_Rs → jj_St → Prop}
/-- what goes on behind a call -/
def jj_K (M : jj_Mt) (d kc ks : Nat) (pc2 : Nat) (ls : List (Nat × Value)) (rest : List Value) (Q : jj_Rs → jj_St → Prop) : jj_Rs → jj_St → Prop := fun r τ2 => match r with
  | .inl v => jj_R M d kc ks τ2 pc2 ls (v.toList ++ rest) Q
  | .inr E => Q (.inr E) τ2
theorem jj_cap {A : Nat → Prop} {D : va_G} {cs : Nat → ClassId} {ad ad2 : Nat → Nat} {p : Program} {l : Launch} {R : Room} {s : State} {m : MethodId} {args : Array Value} {meth : Method} {c : Code} {H H1 : Heap} {locs locs1 : List Loc} {cells slots : Nat} {n0 : Nat} {ad0 : Nat → Nat} {L : Array Slot} {τ2 : jj_St} {A1 : Nat → Prop}
    (q : jj_C M d kc ks τ ls p l R s m args meth c H locs cells slots D cs A ad n0 ad0 L) (hls : ∀ z ∈ ls, ∀ i, z.2 = .ref i → (i < τ.2.1 ∨ 999997 ≤ i)) (hag : jj_ag τ.2.1 ad ad2) (hn : τ.2.1 ≤ τ2.2.1) (hw : jj_wo D cs ad2 A1 τ2 H1) (hA : ∀ q, A1 q → A q) (hS : va_S A s.heap H1 locs1) {kc3 ks3 cells1 slots1 : Nat} (hr : cells1 + kc3 ≤ R.cells ∧ slots1 + ks3 ≤ R.slots) :
    jj_C M d kc3 ks3 τ2 ls p l R s m args meth c H1 locs1 cells1 slots1 D cs A ad2 n0 ad0 L := by
  have e : (ls.map fun z => (z.1, jj_cz ad2 z.2)) = ls.map fun z => (z.1, jj_cz ad z.2) := by
    apply List.map_congr_left
    intro z hz
    have h1 := hls z hz
    obtain ⟨i, v⟩ := z
    cases v with
    | ref a => simp [jj_cz, hag a (h1 a rfl)]
    | _ => rfl
  obtain ⟨E1, E2, E3, E4, E5, E6, E7, E8, E9, E10, E11, E12, E13, E14, E15, E16⟩ := q.1
  refine ⟨⟨E1, E2, E3, E4, E5, E6, E7, E8, E9, E10, E11, E12, E13, E14, E15.ag hag, fun n xs hx => ?_⟩, hr, ⟨hw.1, hw.2.weaken (fun _ z _ h => hA z.1 h)⟩, hS, Nat.le_trans q.2.2.2.2.1 hn, q.2.2.2.2.2.1.tr hag q.2.2.2.2.1, by rw [e]; exact q.2.2.2.2.2.2⟩
  rw [hag 999998 (Or.inr (by decide))]
  exact E16 n xs hx
theorem jj_stk {ad ad2 : Nat → Nat} {n : Nat} {vs : List Value} (hls : ∀ v ∈ vs, ∀ i, v = .ref i → (i < n ∨ 999997 ≤ i)) (hag : jj_ag n ad ad2) : vs.map (jj_cz ad2) = vs.map (jj_cz ad) := by
  apply List.map_congr_left
  intro v hv
  have h1 := hls v hv
  cases v with
  | ref a => simp [jj_cz, hag a (h1 a rfl)]
  | _ => rfl
/-- the refs of locals and stack are of cells that are there -/
def jj_rk (n : Nat) (v : Value) : Bool := match v with
  | .ref i => decide (i < n ∨ 999997 ≤ i)
  | _ => true
theorem jj_rk_of {n : Nat} {vs : List Value} (h : ∀ v ∈ vs, jj_rk n v = true) : ∀ v ∈ vs, ∀ i, v = .ref i → (i < n ∨ 999997 ≤ i) := by
  intro v hv i e
  have := h v hv
  subst e
  simpa [jj_rk] using this
/-- behind the callee: out of its run -/
theorem jj_back {p : Program} {l : Launch} {e : Env} {R : Room} {s : State} {m : MethodId} {args : Array Value} {below : List Frame} {meth : Method} {c : Code} {H : Heap} {locs : List Loc} {cells slots : Nat} {D : va_G} {cs : Nat → ClassId} {A : Nat → Prop} {ad : Nat → Nat} {n0 : Nat} {ad0 : Nat → Nat} {L : Array Slot} {st0 : List Value}
    (q : jj_C M (d + 1) kc ks τ ls p l R s m args meth c H locs cells slots D cs A ad n0 ad0 L) (hM : M.2.2.2.2.1 = []) (hkc : kc2 ≤ kc ∧ ks2 ≤ ks) (hls : ∀ z ∈ ls, jj_rk τ.2.1 z.2 = true) (hst : ∀ v ∈ rest, jj_rk τ.2.1 v = true)
    (hr : vx_Run p l e R s m args below meth c H locs cells slots kc2 ks2 (F0 m pc L st0) (rest.map (jj_cz ad)) (jj_Qc D cs (va_A (jj_W cs ad τ) H.size) ad τ.2.1 (jj_K M (d + 1) (kc - kc2) (ks - ks2) (pc + 3) ls rest Q) #[]) (jj_Xc D cs (va_A (jj_W cs ad τ) H.size) ad τ.2.1 (jj_K M (d + 1) (kc - kc2) (ks - ks2) (pc + 3) ls rest Q)) (va_A (jj_W cs ad τ) H.size)) :
    W p l e R s m args below meth c H locs cells slots (vx_MQ below (jj_Qc D cs A ad0 n0 Q) (jj_Xc D cs A ad0 n0 Q) args s R.cells R.slots A) (F0 m pc L st0) := by
  have hsub := jj_sub q.2.2.1 q.2.2.2.1 q.1.2.2.2.2.2.2.2.2.2.2.2.2.2.1
  have hls' : ∀ z ∈ ls, ∀ i, z.2 = .ref i → (i < τ.2.1 ∨ 999997 ≤ i) := fun z hz i hi => jj_rk_of (n := τ.2.1) (vs := [z.2]) (fun v hv => by rw [List.mem_singleton.mp hv]; exact hls z hz) z.2 List.mem_cons_self i hi
  intro T hT X
  rcases hr T hT X with ⟨v, st₀, t, T', L2, h0, X', hL, e1, e2, ⟨⟨v2, τ2, ad2, ho, hk, hag, hn, hw⟩, hF⟩, st⟩ | ⟨q9, st₀, t, T', L2, E, ce, h0, X', hL, e1, e2, ⟨⟨τ2, ad2, hk, hag, hn, hw⟩, hF⟩, hce, hcv, hcl, st⟩
  · cases ho
    obtain ⟨k1, k2, k3⟩ := vx_keep h0 e1 q.2.2.2.1 (fun z _ h => hsub z h) hsub hL hF
    have hk' : jj_R M (d + 1) (kc - kc2) (ks - ks2) τ2 (pc + 3) ls (v2.toList ++ rest) Q := hk
    have hC := jj_cap q hls' hag hn (by rw [← e1] at hw; exact hw) hsub k3 (kc3 := kc - kc2) (ks3 := ks - ks2) (cells1 := cells + kc2) (slots1 := slots + ks2) ⟨by have := q.2.1.1; omega, by have := q.2.1.2; omega⟩
    obtain ⟨t2, a1, b1⟩ := hk' p l e R s m args below meth c T'.heap (locs ++ L2) (cells + kc2) (slots + ks2) D cs A ad2 n0 ad0 L hC T' rfl X'
    refine ⟨t2, st t2 ?_, b1⟩
    have e3 : (v2.toList ++ rest).map (jj_cz ad2) = (v2.map (jj_cz ad2)).toList ++ rest.map (jj_cz ad) := by
      rw [List.map_append, jj_stk (jj_rk_of hst) hag]
      cases v2 <;> rfl
    rw [e3] at a1
    exact a1
  · obtain ⟨k1, k2, k3⟩ := vx_keep h0 e1 q.2.2.2.1 (fun z _ h => hsub z h) hsub hL hF
    have hk' : Q (.inr E) τ2 := hk
    have hw' : jj_wo D cs ad2 A τ2 T'.heap := by
      rw [← e1] at hw
      exact ⟨hw.1, hw.2.weaken (fun _ z _ h => hsub z.1 h)⟩
    have hout : vx_W p l e R s m args below meth c T'.heap (locs ++ L2) (cells + kc2) (slots + ks2) (vx_MQ below (jj_Qc D cs A ad0 n0 Q) (jj_Xc D cs A ad0 n0 Q) args s R.cells R.slots A) (F0 m pc L (rest.map (jj_cz ad))) q9 := by
      refine vx_out (E := E) (ce := ce) ?_ q.1.2.2.2.2.1 (by rw [e1]; exact hce) hcv hcl (fun u hu hal => ⟨⟨τ2, ad2, hk', q.2.2.2.2.2.1.tr hag q.2.2.2.2.1, Nat.le_trans q.2.2.2.2.1 hn, by rw [hu]; exact hw'⟩, k3.F hu⟩) k3.2.2 (by have := q.2.1.1; omega) (by have := q.2.1.2; omega)
      intro x hx
      rw [q.1.2.2.2.2.2.2.2.2.1, hM] at hx
      cases hx
    obtain ⟨t2, a1, b1⟩ := hout T' rfl X'
    exact ⟨t2, st.trans a1, b1⟩
theorem rr_callV {o ci idx np : Nat} {As : List Value} {sl : List (Option (Bool × Nat))} {T : u_T} {N : Nat} (hd : jj_D M.2.1 pc (.invokevirtual idx) 3 pc2) (ok : jj_okV M2 np) (hl : Cond.methodLink M.1.cls idx M2.1 ∈ jj_tg) (ho : o < τ.2.1) (hs : τ.1 o = .inl (ci, sl)) (hC : jj_cl[ci]? = some (M2.1.cls, T, N)) (hn : As.length = np) (hm : (lg_sl (.ref o :: As)).length ≤ M2.2.2.1) (hr : (rest.map fun v => v.category).sum ≤ 8) (hM : M.2.2.2.2.1 = []) (hkc : kc2 ≤ kc ∧ ks2 ≤ ks) (hls : ∀ z ∈ ls, jj_rk τ.2.1 z.2 = true) (hst : ∀ v ∈ rest, jj_rk τ.2.1 v = true)
    (k : jj_R M2 d kc2 ks2 τ 0 (lv_args 0 (.ref o :: As)) [] (jj_K M (d + 1) (kc - kc2) (ks - ks2) pc2 ls rest Q)) : jj_R M (d + 1) kc ks τ pc ls (As.reverse ++ .ref o :: rest) Q := by
  obtain ⟨hd, rfl⟩ := hd
  intro p l e R s m args below meth c H locs cells slots D cs A ad n0 ad0 L q
  obtain ⟨⟨o1, o2, o3, o4, o5, o6, o7⟩, o8, o9⟩ := id ok
  have hsub := jj_sub q.2.2.1 q.2.2.2.1 q.1.2.2.2.2.2.2.2.2.2.2.2.2.2.1
  obtain ⟨S, n, h, g⟩ := τ
  have hmet := jj_met (D := D) (cs := cs) (ad := ad) (sz := H.size) q.1.2.2.2.2.2.2.2.2.2.2.2.1 o3 o6 o7 hm k
  refine jj_back q hM hkc hls hst (st0 := (As.reverse ++ .ref o :: rest).map (jj_cz ad)) ?_
  refine vx_runV (As := As.map (jj_cz ad)) (b := ad o) (C := M2.1.cls) ⟨q.1.1, q.1.2.1, q.1.2.2.1, q.1.2.2.2.2.2.1, q.1.2.2.2.2.2.2.2.1⟩ hmet (cwV np q.1.2.2.2.2.2.2.2.1 (jj_gin (M := M) (fun w hw => ?_)) rfl rfl rfl ⟨rfl, o4.1, o4.2.1, o4.2.2⟩ ⟨?_, ?_⟩) ⟨jj_P.blind, va_recv q.1.2.2.2.2.2.2.2.2.2.2.2.2.1 q.2.2.1.1 hC (jj_heo ho hs), fun U hU hW => ?_⟩ rfl (by rw [List.length_map]; exact hn) q.2.2.2.2.2.2.1 (by simp [jj_cz]) (lv_room (by rw [List.map_map]; exact (by simpa [jj_cz_cat, Function.comp_def] using hr))) hd ⟨by have := q.2.1.1; omega, by have := q.2.1.2; omega⟩
  · rcases List.mem_append.mp hw with h1 | h1
    · simp only [List.mem_cons, List.not_mem_nil, or_false] at h1
      rcases h1 with rfl | rfl | rfl | rfl
      · exact hl
      · exact o8
      · exact o9
      · exact o2
    · exact jj_ws_in ok.1 w h1
  · exact q.1.2.2.2.2.2.2.2.2.2.1
  · have := q.1.2.2.2.2.2.2.2.2.2.2.1
    show 8 + (M2.2.2.1 + 11) + 64 * d ≤ R.locals
    omega
  · refine ⟨by simp [jj_cz], by rw [hU], by rw [hU]; exact ⟨q.2.2.1.1, q.2.2.1.2.weaken (fun _ _ _ _ => trivial)⟩, va_K.moved hW.alike q.1.2.2.2.2.2.2.2.2.2.2.2.2.1, ?_⟩
    rw [hU]
    exact q.1.2.2.2.2.2.2.2.2.2.2.2.2.2.2.1.to hW (fun a h1 h2 => q.2.2.2.1.2.1 a h1 h2) hsub
theorem rr_callT {i9 idx np : Nat} {As : List Value} {z : jj_Sc} (hd : jj_D M.2.1 pc (.invokevirtual idx) 3 pc2) (ok : jj_okV M2 np) (hl : Cond.methodLink M.1.cls idx M2.1 ∈ jj_tg) (hz : jj_ss[i9]? = some z) (hC : M2.1.cls = "java/lang/String") (hn : As.length = np) (hm : (lg_sl (.ref (1000000 + i9) :: As)).length ≤ M2.2.2.1) (hr : (rest.map fun v => v.category).sum ≤ 8) (hM : M.2.2.2.2.1 = []) (hkc : kc2 ≤ kc ∧ ks2 ≤ ks) (hls : ∀ z ∈ ls, jj_rk τ.2.1 z.2 = true) (hst : ∀ v ∈ rest, jj_rk τ.2.1 v = true)
    (k : jj_R M2 d kc2 ks2 τ 0 (lv_args 0 (.ref (1000000 + i9) :: As)) [] (jj_K M (d + 1) (kc - kc2) (ks - ks2) pc2 ls rest Q)) : jj_R M (d + 1) kc ks τ pc ls (As.reverse ++ .ref (1000000 + i9) :: rest) Q := by
  obtain ⟨hd, rfl⟩ := hd
  intro p l e R s m args below meth c H locs cells slots D cs A ad n0 ad0 L q
  obtain ⟨⟨o1, o2, o3, o4, o5, o6, o7⟩, o8, o9⟩ := id ok
  have hsub := jj_sub q.2.2.1 q.2.2.2.1 q.1.2.2.2.2.2.2.2.2.2.2.2.2.2.1
  have hmet := jj_met (D := D) (cs := cs) (ad := ad) (sz := H.size) q.1.2.2.2.2.2.2.2.2.2.2.2.1 o3 o6 o7 hm k
  refine jj_back q hM hkc hls hst (st0 := (As.reverse ++ .ref (1000000 + i9) :: rest).map (jj_cz ad)) ?_
  refine vx_runV (As := As.map (jj_cz ad)) (b := ad (1000000 + i9)) (C := M2.1.cls) ⟨q.1.1, q.1.2.1, q.1.2.2.1, q.1.2.2.2.2.2.1, q.1.2.2.2.2.2.2.2.1⟩ hmet (cwV np q.1.2.2.2.2.2.2.2.1 (jj_gin (M := M) (fun w hw => ?_)) rfl rfl rfl ⟨rfl, o4.1, o4.2.1, o4.2.2⟩ ⟨?_, ?_⟩) ⟨jj_P.blind, ?_, fun U hU hW => ?_⟩ rfl (by rw [List.length_map]; exact hn) q.2.2.2.2.2.2.1 (by simp [jj_cz]) (lv_room (by rw [List.map_map]; exact (by simpa [jj_cz_cat, Function.comp_def] using hr))) hd ⟨by have := q.2.1.1; omega, by have := q.2.1.2; omega⟩
  · rcases List.mem_append.mp hw with h1 | h1
    · simp only [List.mem_cons, List.not_mem_nil, or_false] at h1
      rcases h1 with rfl | rfl | rfl | rfl
      · exact hl
      · exact o8
      · exact o9
      · exact o2
    · exact jj_ws_in ok.1 w h1
  · exact q.1.2.2.2.2.2.2.2.2.2.1
  · have := q.1.2.2.2.2.2.2.2.2.2.2.1
    show 8 + (M2.2.2.1 + 11) + 64 * d ≤ R.locals
    omega
  · obtain ⟨cell, c1, c2, c3, -⟩ := (q.1.2.2.2.2.2.2.2.2.2.2.2.2.2.2.1.1 i9 z hz).1.kept q.2.2.2.1.2.1
    exact ⟨cell, c1, c2, by rw [hC]; exact c3⟩
  · refine ⟨by simp [jj_cz], by rw [hU], by rw [hU]; exact ⟨q.2.2.1.1, q.2.2.1.2.weaken (fun _ _ _ _ => trivial)⟩, va_K.moved hW.alike q.1.2.2.2.2.2.2.2.2.2.2.2.2.1, ?_⟩
    rw [hU]
    exact q.1.2.2.2.2.2.2.2.2.2.2.2.2.2.2.1.to hW (fun a h1 h2 => q.2.2.2.1.2.1 a h1 h2) hsub
theorem rr_callS {idx np : Nat} {As : List Value} (hd : jj_D M.2.1 pc (.invokestatic idx) 3 pc2) (ok : jj_okS M2 np) (hl : Cond.methodLink M.1.cls idx M2.1 ∈ jj_tg) (hn : As.length = np) (hm : (lg_sl As).length ≤ M2.2.2.1) (hr : (rest.map fun v => v.category).sum ≤ 8) (hM : M.2.2.2.2.1 = []) (hkc : kc2 ≤ kc ∧ ks2 ≤ ks) (hls : ∀ z ∈ ls, jj_rk τ.2.1 z.2 = true) (hst : ∀ v ∈ rest, jj_rk τ.2.1 v = true)
    (k : jj_R M2 d kc2 ks2 τ 0 (lv_args 0 As) [] (jj_K M (d + 1) (kc - kc2) (ks - ks2) pc2 ls rest Q)) : jj_R M (d + 1) kc ks τ pc ls (As.reverse ++ rest) Q := by
  obtain ⟨hd, rfl⟩ := hd
  intro p l e R s m args below meth c H locs cells slots D cs A ad n0 ad0 L q
  obtain ⟨⟨o1, o2, o3, o4, o5, o6, o7⟩, o8⟩ := id ok
  have hsub := jj_sub q.2.2.1 q.2.2.2.1 q.1.2.2.2.2.2.2.2.2.2.2.2.2.2.1
  have hmet := jj_met (D := D) (cs := cs) (ad := ad) (sz := H.size) q.1.2.2.2.2.2.2.2.2.2.2.2.1 o3 o6 o7 hm k
  refine jj_back q hM hkc hls hst (st0 := (As.reverse ++ rest).map (jj_cz ad)) ?_
  refine vx_runS (As := As.map (jj_cz ad)) ⟨q.1.1, q.1.2.1, q.1.2.2.1, q.1.2.2.2.2.2.1, q.1.2.2.2.2.2.2.2.1⟩ hmet (va_cwS np q.1.2.2.2.2.2.2.2.1 (jj_gin (M := M) (fun w hw => ?_)) rfl rfl rfl ⟨o4.1, o4.2.1, o4.2.2⟩ ⟨?_, ?_⟩) ⟨jj_P.blind, fun U hU hW => ?_⟩ rfl (by rw [List.length_map]; exact hn) q.2.2.2.2.2.2.1 (by simp [jj_cz]) (lv_room (by rw [List.map_map]; exact (by simpa [jj_cz_cat, Function.comp_def] using hr))) hd ⟨by have := q.2.1.1; omega, by have := q.2.1.2; omega⟩
  · rcases List.mem_append.mp hw with h1 | h1
    · simp only [List.mem_cons, List.not_mem_nil, or_false] at h1
      rcases h1 with rfl | rfl | rfl
      · exact hl
      · exact o8
      · exact o2
    · exact jj_ws_in ok.1 w h1
  · exact q.1.2.2.2.2.2.2.2.2.2.1
  · have := q.1.2.2.2.2.2.2.2.2.2.2.1
    show 8 + (M2.2.2.1 + 11) + 64 * d ≤ R.locals
    omega
  · refine ⟨rfl, by rw [hU], by rw [hU]; exact ⟨q.2.2.1.1, q.2.2.1.2.weaken (fun _ _ _ _ => trivial)⟩, va_K.moved hW.alike q.1.2.2.2.2.2.2.2.2.2.2.2.2.1, ?_⟩
    rw [hU]
    exact q.1.2.2.2.2.2.2.2.2.2.2.2.2.2.2.1.to hW (fun a h1 h2 => q.2.2.2.1.2.1 a h1 h2) hsub
end RC
