/-! ===== throwing and catching ===== -/
def jj_xn : List String := ["java/lang/RuntimeException", "java/lang/Exception"]
/-- the words of a throw of cls by own's method -/
def jj_xw (own : String) (ik ic : Nat) (cls : String) : Prop := Bundle.fit cls = true ∧ Cond.classLink own ik cls ∈ jj_tg ∧ Cond.initialized cls ∈ jj_tg ∧ (vx_atS own ic cls jj_xn).all (fun w => jj_tg.contains w || jj_nt.contains w) = true ∧ (Cond.classLink own ik cls :: Cond.initialized cls :: vx_atS own ic cls jj_xn).all vx_ot = true
theorem jj_nt_ot {w : Cond} (h : w ∈ jj_nt) : w.onTables = true := by
  have h1 := (List.mem_filter.mp h).2
  cases w <;> first | rfl | (simp [jj_nk] at h1)
section RT
variable {M M2 : jj_Mt} {d kc ks kc2 ks2 : Nat} {τ : jj_St} {S : Nat → jj_Sh} {n : Nat} {h : Nat → Nat → Int32} {g : Nat → Nat → Int64} {pc pc2 idx : Nat} {ls : List (Nat × Value)} {st rest : List Value} {Q : jj_Rs → jj_St → Prop}
theorem rr_throw {ik is ic i : Nat} {cls text : String} {by_ : List Int32} (hM : M.2.2.2.2.1 = []) (hw : jj_xw M.1.cls ik ic cls) (hi : jj_ss[i]? = some (M.1.cls, is, text, by_)) (d0 : decode M.2.1 pc = .ok (.new ik, 3)) (d3 : decode M.2.1 (pc + 3) = .ok (.dup, 1)) (d4 : decode M.2.1 (pc + 4) = .ok (.ldc_w is, 3)) (d7 : decode M.2.1 (pc + 7) = .ok (.invokespecial ic, 3)) (d10 : decode M.2.1 (pc + 10) = .ok (.athrow, 1)) (hr : (st.map fun v => v.category).sum ≤ 8) (kq : Q (.inr cls) τ) : jj_R M (d + 6) (kc + 1) (ks + 6) τ pc ls st Q := by
  intro p l e R s m args below meth c H locs cells slots D cs A ad n0 ad0 L q
  obtain ⟨w1, w2, w3, w4, w5⟩ := hw
  have g1 := q.1.2.2.2.2.2.2.2.2.2.1
  have g2 := q.1.2.2.2.2.2.2.2.2.2.2.1
  have g3 := jj_sum8 (ad := ad) hr
  have hts := q.1.2.2.2.2.2.2.2.1
  have hX := q.1.2.2.2.2.2.2.2.2.2.2.2.2.2.2.1
  have c1 := q.2.1.1
  have c2 := q.2.1.2
  refine vx_throwSW (names := jj_xn) (A := A) q.1.1 q.1.2.1 q.1.2.2.2.2.2.2.2.2.2.2.2.1 q.1.2.2.2.2.2.1 w1 (by decide +kernel) (hts _ w2) (hts _ w3) ((hX.1 i _ hi).2.2.2.2) (fun w hw => ?_) (fun w hw => List.all_eq_true.mp w5 w hw) hX.2.2.1 hX.2.2.2.1 q.2.2.2.1 (q.2.2.2.2.2.2.1.trans q.1.2.2.1.symm) d0 d3 d4 d7 d10 ?_ (by show 2 + 3 < R.frames; omega) (by show _ + (13 * (2 + 1) + 43) ≤ R.locals; omega) (by omega) (by omega) q.1.2.2.2.2.1 (fun t hal hz ho => ⟨⟨τ, ad, kq, q.2.2.2.2.2.1, q.2.2.2.2.1, q.2.2.1.1.kept (fun k x hx => ho x.1 ((q.2.2.1.1 k x hx).lt)), q.2.2.1.2⟩, ?_⟩) q.2.2.2.1.2.2 (by omega) (by omega)
  · have h1 := List.all_eq_true.mp w4 w hw
    simp only [Bool.or_eq_true, List.contains_iff_mem] at h1
    rcases h1 with h1 | h1
    · exact hts w h1
    · exact (hX.2.2.2.2.1 w h1).use (jj_nt_ot h1)
  · intro x hx
    rw [q.1.2.2.2.2.2.2.2.2.1, hM] at hx
    cases hx
  · exact ⟨Nat.le_trans q.2.2.2.1.1 hz, fun x h1 h2 => (ho x (Nat.lt_of_lt_of_le h1 q.2.2.2.1.1)).trans (q.2.2.2.1.2.1 x h1 h2)⟩
/-! methods with handlers: the law's -/
/-- which numbers the shapes speak of -/
def jj_sr (b : Nat) (s : jj_Sh) : Bool := match s with
  | .inl (_, sl) => sl.all (fun x => match x with | none => true | some (_, r) => decide (r < b))
  | .inr (.inl _) => true
  | .inr (.inr (.inl _)) => true
  | .inr (.inr (.inr (k, r))) => decide (r + k ≤ b)
def jj_sb (b : Nat) (τ : jj_St) : Prop := ∀ o, o < τ.2.1 → jj_sr b (τ.1 o) = true
theorem jj_ce_ad {cs : Nat → ClassId} {ad ad2 : Nat → Nat} {b : Nat} {s : jj_Sh} {f : Nat → Int32} {g : Nat → Int64} (h : jj_sr b s = true) (ha : ∀ i, i < b → ad2 i = ad i) : jj_ce cs ad2 s f g = jj_ce cs ad s f g := by
  match s, h with
  | .inl (ci, sl), h =>
    show Sum.inr (ci, jj_fs ad2 f sl) = Sum.inr (ci, jj_fs ad f sl)
    have e : jj_fs ad2 f sl = jj_fs ad f sl := by
      unfold jj_fs
      apply List.map_congr_left
      intro k hk
      have hk2 : k < sl.length := List.mem_range.mp hk
      have h1 := List.all_eq_true.mp h (sl.getD k none) (by rw [List.getD, List.getElem?_eq_getElem hk2]; exact List.getElem_mem hk2)
      generalize sl.getD k none = x at h1
      match x, h1 with
      | none, _ => rfl
      | some (false, r), h1 => simp only [decide_eq_true_eq] at h1; simp [jj_sv, ha r h1]
      | some (true, r), h1 => simp only [decide_eq_true_eq] at h1; simp [jj_sv, ha r h1]
    rw [e]
  | .inr (.inl _), _ => rfl
  | .inr (.inr (.inl _)), _ => rfl
  | .inr (.inr (.inr (k, r))), h =>
    simp only [jj_sr, decide_eq_true_eq] at h
    show Sum.inl _ = Sum.inl _
    have e : (fun j => if j < k then some (ad2 (r + j)) else none) = fun j => if j < k then some (ad (r + j)) else none := by
      funext j
      by_cases hj : j < k
      · rw [if_pos hj, if_pos hj, ha (r + j) (by omega)]
      · rw [if_neg hj, if_neg hj]
    rw [e]
theorem jj_W_ad {cs : Nat → ClassId} {ad ad2 : Nat → Nat} {b : Nat} {τ : jj_St} (h : jj_sb b τ) (hb : τ.2.1 ≤ b) (ha : ∀ i, i < b → ad2 i = ad i) : jj_W cs ad2 τ = jj_W cs ad τ := by
  unfold jj_W
  apply List.map_congr_left
  intro o ho
  have ho2 : o < τ.2.1 := List.mem_range.mp ho
  show (ad2 o, _) = (ad o, _)
  rw [ha o (by omega), jj_ce_ad (h o ho2) ha]
/-- the handlers at pc: by the exception's class, where it goes on -/
def jj_ho (M : jj_Mt) (pc : Nat) (E : String) (hp : Nat) : Prop := ∃ (pre : List ExceptionTableEntry) (x : ExceptionTableEntry) (suf : List ExceptionTableEntry) (nm : String), tableOf M.2.2.2.2.1 = pre ++ x :: suf ∧ (∀ z ∈ pre, E = "java/lang/IllegalArgumentException" ∧ z.catchType ≠ 0 ∧ Cond.classLink M.1.cls z.catchType "java/util/NoSuchElementException" ∈ jj_tg) ∧ covers x pc = true ∧ x.catchType ≠ 0 ∧ Cond.classLink M.1.cls x.catchType nm ∈ jj_tg ∧ Cond.castable E nm ∈ jj_nt ∧ x.handlerPc = hp
def jj_KH (M : jj_Mt) (d kc ks : Nat) (pc pc2 : Nat) (ls : List (Nat × Value)) (rest : List Value) (Q : jj_Rs → jj_St → Prop) : jj_Rs → jj_St → Prop := fun r τ2 => match r with
  | .inl v => jj_R M d kc ks τ2 pc2 ls (v.toList ++ rest) Q
  | .inr E => jj_sb 999996 τ2 ∧ τ2.2.1 ≤ 999996 ∧ ∃ hp, jj_ho M pc E hp ∧ jj_R M d kc ks τ2 hp ls [.ref 999996] Q
theorem jj_backH {p : Program} {l : Launch} {e : Env} {R : Room} {s : State} {m : MethodId} {args : Array Value} {below : List Frame} {meth : Method} {c : Code} {H : Heap} {locs : List Loc} {cells slots : Nat} {D : va_G} {cs : Nat → ClassId} {A : Nat → Prop} {ad : Nat → Nat} {n0 : Nat} {ad0 : Nat → Nat} {L : Array Slot} {st0 : List Value}
    (q : jj_C M (d + 1) kc ks τ ls p l R s m args meth c H locs cells slots D cs A ad n0 ad0 L) (hkc : kc2 ≤ kc ∧ ks2 ≤ ks) (hls : ∀ z ∈ ls, jj_rk τ.2.1 z.2 = true) (hst : ∀ v ∈ rest, jj_rk τ.2.1 v = true)
    (hr : vx_Run p l e R s m args below meth c H locs cells slots kc2 ks2 (F0 m pc L st0) (rest.map (jj_cz ad)) (jj_Qc D cs (va_A (jj_W cs ad τ) H.size) ad τ.2.1 (jj_KH M (d + 1) (kc - kc2) (ks - ks2) pc (pc + 3) ls rest Q) #[]) (jj_Xc D cs (va_A (jj_W cs ad τ) H.size) ad τ.2.1 (jj_KH M (d + 1) (kc - kc2) (ks - ks2) pc (pc + 3) ls rest Q)) (va_A (jj_W cs ad τ) H.size)) :
    W p l e R s m args below meth c H locs cells slots (vx_MQ below (jj_Qc D cs A ad0 n0 Q) (jj_Xc D cs A ad0 n0 Q) args s R.cells R.slots A) (F0 m pc L st0) := by
  have hsub := jj_sub q.2.2.1 q.2.2.2.1 q.1.2.2.2.2.2.2.2.2.2.2.2.2.2.1
  have hls' : ∀ z ∈ ls, ∀ i, z.2 = .ref i → (i < τ.2.1 ∨ 999997 ≤ i) := fun z hz i hi => jj_rk_of (n := τ.2.1) (vs := [z.2]) (fun v hv => by rw [List.mem_singleton.mp hv]; exact hls z hz) z.2 List.mem_cons_self i hi
  intro T hT X
  rcases hr T hT X with ⟨v, st₀, t, T', L2, h0, X', hL, e1, e2, ⟨⟨v2, τ2, ad2, ho, hk, hag, hn, hw⟩, hF⟩, st⟩ | ⟨q9, st₀, t, T', L2, E, ce, h0, X', hL, e1, e2, ⟨⟨τ2, ad2, hk, hag, hn, hw⟩, hF⟩, hce, hcv, hcl, st⟩
  · cases ho
    obtain ⟨k1, k2, k3⟩ := vx_keep h0 e1 q.2.2.2.1 (fun z _ h => hsub z h) hsub hL hF
    have hk' : jj_R M (d + 1) (kc - kc2) (ks - ks2) τ2 (pc + 3) ls (v2.toList ++ rest) Q := hk
    have hC := jj_cap q hls' hag hn (by rw [← e1] at hw; exact hw) hsub k3 (kc3 := kc - kc2) (ks3 := ks - ks2) (cells1 := cells + kc2) (slots1 := slots + ks2) ⟨by have := q.2.1.1; omega, by have := q.2.1.2; omega⟩
    obtain ⟨t2, a1, b1⟩ := hk' p l e R s m args below meth c T'.heap (locs ++ L2) (cells + kc2) (slots + ks2) D cs A ad2 n0 ad0 L hC T' rfl X'
    refine ⟨t2, st t2 ?_, b1⟩
    have e3 : (v2.toList ++ rest).map (jj_cz ad2) = (v2.map (jj_cz ad2)).toList ++ rest.map (jj_cz ad) := by
      rw [List.map_append, jj_stk (jj_rk_of hst) hag]
      cases v2 <;> rfl
    rw [e3] at a1
    exact a1
  · obtain ⟨k1, k2, k3⟩ := vx_keep h0 e1 q.2.2.2.1 (fun z _ h => hsub z h) hsub hL hF
    obtain ⟨hsb, hbn, hp, ⟨pre, x, suf, nm, t1, t2, t3, t4, t5, t6, rfl⟩, hk'⟩ := hk
    -- the exception's own number
    obtain ⟨ad3, had⟩ : ∃ f : Nat → Nat, f = fun i => if i = 999996 then q9 else ad2 i := ⟨_, rfl⟩
    have hlow : ∀ i, i < 999996 → ad3 i = ad2 i := fun i hi => by rw [had]; exact if_neg (by omega)
    have hag3 : jj_ag τ.2.1 ad ad3 := fun i hi => by
      have hne : i ≠ 999996 := by omega
      rw [had]
      show (if i = 999996 then q9 else ad2 i) = ad i
      rw [if_neg hne]
      exact hag i hi
    have hw3 : jj_wo D cs ad3 (va_A (jj_W cs ad τ) H.size) τ2 T'.heap := by
      unfold jj_wo
      rw [jj_W_ad hsb hbn hlow, e1]
      exact hw
    have hC := jj_cap q hls' hag3 hn hw3 hsub k3 (kc3 := kc - kc2) (ks3 := ks - ks2) (cells1 := cells + kc2) (slots1 := slots + ks2) ⟨by have := q.2.1.1; omega, by have := q.2.1.2; omega⟩
    have hX := q.1.2.2.2.2.2.2.2.2.2.2.2.2.2.2.1
    have hts := q.1.2.2.2.2.2.2.2.1
    have hcatch : vx_W p l e R s m args below meth c T'.heap (locs ++ L2) (cells + kc2) (slots + ks2) (vx_MQ below (jj_Qc D cs A ad0 n0 Q) (jj_Xc D cs A ad0 n0 Q) args s R.cells R.slots A) (F0 m pc L (rest.map (jj_cz ad))) q9 := by
      refine vx_catch (own := M.1.cls) (name := nm) (E := E) (ce := ce) q.1.2.2.2.2.2.1 pre x suf (q.1.2.2.2.2.2.2.2.2.1.trans t1) (fun z hz => ?_) t3 t4 (hts _ t5) ((hX.2.2.2.2.1 _ t6).use (jj_nt_ot t6)) (by rw [e1]; exact hce) hcv hcl ?_
      · obtain ⟨y1, y2, y3⟩ := t2 z hz
        subst y1
        exact Or.inr ⟨y2, "java/util/NoSuchElementException", hts _ y3, hX.2.2.2.2.2.1⟩
      · have hb := hk' p l e R s m args below meth c T'.heap (locs ++ L2) (cells + kc2) (slots + ks2) D cs A ad3 n0 ad0 L hC
        have e4 : ([Value.ref 999996].map (jj_cz ad3)) = [Value.ref q9] := by
          rw [had]
          rfl
        rw [e4] at hb
        exact hb
    obtain ⟨t2, a1, b1⟩ := hcatch T' rfl X'
    exact ⟨t2, st.trans a1, b1⟩
theorem rr_callVH {o ci np : Nat} {As : List Value} {sl : List (Option (Bool × Nat))} {T : u_T} {N : Nat} (hd : jj_D M.2.1 pc (.invokevirtual idx) 3 pc2) (ok : jj_okV M2 np) (hl : Cond.methodLink M.1.cls idx M2.1 ∈ jj_tg) (ho : o < τ.2.1) (hs : τ.1 o = .inl (ci, sl)) (hC : jj_cl[ci]? = some (M2.1.cls, T, N)) (hn : As.length = np) (hm : (lg_sl (.ref o :: As)).length ≤ M2.2.2.1) (hr : (rest.map fun v => v.category).sum ≤ 8) (hkc : kc2 ≤ kc ∧ ks2 ≤ ks) (hls : ∀ z ∈ ls, jj_rk τ.2.1 z.2 = true) (hst : ∀ v ∈ rest, jj_rk τ.2.1 v = true)
    (k : jj_R M2 d kc2 ks2 τ 0 (lv_args 0 (.ref o :: As)) [] (jj_KH M (d + 1) (kc - kc2) (ks - ks2) pc pc2 ls rest Q)) : jj_R M (d + 1) kc ks τ pc ls (As.reverse ++ .ref o :: rest) Q := by
  obtain ⟨hd, rfl⟩ := hd
  intro p l e R s m args below meth c H locs cells slots D cs A ad n0 ad0 L q
  obtain ⟨⟨o1, o2, o3, o4, o5, o6, o7⟩, o8, o9⟩ := id ok
  have hsub := jj_sub q.2.2.1 q.2.2.2.1 q.1.2.2.2.2.2.2.2.2.2.2.2.2.2.1
  obtain ⟨S, n, h, g⟩ := τ
  have hmet := jj_met (D := D) (cs := cs) (ad := ad) (sz := H.size) q.1.2.2.2.2.2.2.2.2.2.2.2.1 o3 o6 o7 hm k
  refine jj_backH q hkc hls hst (st0 := (As.reverse ++ .ref o :: rest).map (jj_cz ad)) ?_
  refine vx_runV (As := As.map (jj_cz ad)) (b := ad o) (C := M2.1.cls) ⟨q.1.1, q.1.2.1, q.1.2.2.1, q.1.2.2.2.2.2.1, q.1.2.2.2.2.2.2.2.1⟩ hmet (cwV np q.1.2.2.2.2.2.2.2.1 (jj_gin (M := M) (fun w hw => ?_)) rfl rfl rfl ⟨rfl, o4.1, o4.2.1, o4.2.2⟩ ⟨?_, ?_⟩) ⟨jj_P.blind, va_recv q.1.2.2.2.2.2.2.2.2.2.2.2.2.1 q.2.2.1.1 hC (jj_heo ho hs), fun U hU hW => ?_⟩ rfl (by rw [List.length_map]; exact hn) q.2.2.2.2.2.2.1 (by simp [jj_cz]) (lv_room (by rw [List.map_map]; exact (by simpa [jj_cz_cat, Function.comp_def] using hr))) hd ⟨by have := q.2.1.1; omega, by have := q.2.1.2; omega⟩
  · rcases List.mem_append.mp hw with h1 | h1
    · simp only [List.mem_cons, List.not_mem_nil, or_false] at h1
      rcases h1 with rfl | rfl | rfl | rfl
      · exact hl
      · exact o8
      · exact o9
      · exact o2
    · exact jj_ws_in ok.1 w h1
  · exact q.1.2.2.2.2.2.2.2.2.2.1
  · have := q.1.2.2.2.2.2.2.2.2.2.2.1
    show 8 + (M2.2.2.1 + 11) + 64 * d ≤ R.locals
    omega
  · refine ⟨by simp [jj_cz], by rw [hU], by rw [hU]; exact ⟨q.2.2.1.1, q.2.2.1.2.weaken (fun _ _ _ _ => trivial)⟩, va_K.moved hW.alike q.1.2.2.2.2.2.2.2.2.2.2.2.2.1, ?_⟩
    rw [hU]
    exact q.1.2.2.2.2.2.2.2.2.2.2.2.2.2.2.1.to hW (fun a h1 h2 => q.2.2.2.1.2.1 a h1 h2) hsub
def jj_wsW (M : jj_Mt) : List Cond := Cond.codeWith M.1 M.2.1 M.2.2.1 M.2.2.2.1 M.2.2.2.2.1 :: jj_tg
theorem jj_metW {M : jj_Mt} {l : Launch} {D : va_G} {cs : Nat → ClassId} {ad : Nat → Nat} {τ : jj_St} {sz d kc ks : Nat} {vs : List Value} {Q : jj_Rs → jj_St → Prop} (hl : l.stackTraces = false) (hp : plainName M.1.cls = true) (hS : M.2.2.2.2.2 = none) (hn : (lg_sl vs).length ≤ M.2.2.1)
    (k : jj_R M d kc ks τ 0 (lv_args 0 vs) [] Q) : vx_Met l M.1 (jj_wsW M) (jj_rm d kc ks) (jj_P D cs ad τ sz vs) (jj_Qc D cs (va_A (jj_W cs ad τ) sz) ad τ.2.1 Q) (jj_Xc D cs (va_A (jj_W cs ad τ) sz) ad τ.2.1 Q) kc ks (va_A (jj_W cs ad τ) sz) := by
  refine vx_ofWH (cc := M.2.1) (maxL := M.2.2.1) (ret := M.2.2.2.1) (hh := M.2.2.2.2.1) hp rfl ?_
  intro p e s m args below meth c s₁ B hml hv
  obtain ⟨rfl, hsz, hw, hK, hX⟩ := hv
  have hts := atoms_spec (ws := jj_wsW M) B.pre
  subst hsz
  have hD := hw.2.self (sz := s.heap.size)
  rw [lg_entry_eq]
  have hle := lv_entry (vs.map (jj_cz ad)) (n := M.2.2.1) (by rw [jj_sl_cz]; exact hn)
  refine k p l e (jj_rm d kc ks) s m _ below meth c s.heap [] 0 0 D cs (va_A (jj_W cs ad τ) s.heap.size) ad τ.2.1 ad _ ⟨?_, ⟨by simp [jj_rm], by simp [jj_rm]⟩, ⟨hw.1, hD⟩, va_S.rf, Nat.le_refl _, jj_ag.rf, ?_⟩
  · refine ⟨B.exec, B.bytes, hml, B.returns, B.notSynchronized, findClass_of_methodNamed B.named, (name_of_methodNamed B.named B.method).1, fun w hw => hts w (List.mem_cons_of_mem _ hw), vx_table (x := M.1) B (hts _ List.mem_cons_self), Nat.le_refl _, Nat.le_refl _, hl, hK, fun q hq => Or.inr hq, hX, ?_⟩
    intro n xs hxs
    rw [hS] at hxs
    cases hxs
  · rw [← jj_args_cz]
    exact hle
def jj_okW (M : jj_Mt) (n : Nat) : Prop := Cond.codeWith M.1 M.2.1 M.2.2.1 M.2.2.2.1 M.2.2.2.2.1 ∈ jj_tg ∧ Cond.initialized M.1.cls ∈ jj_tg ∧ plainName M.1.cls = true ∧ (M.1.cls ≠ "java/lang/invoke/MethodHandle" ∧ M.1.cls ≠ "java/lang/invoke/VarHandle" ∧ (parseMethodDescriptor M.1.desc).map (fun z => z.parameters.length) = some n) ∧ M.2.2.1 ≤ 45 ∧ Cond.static M.1 ∈ jj_tg ∧ M.2.2.2.2.2 = none
theorem rr_callSW {np : Nat} {As : List Value} (hd : jj_D M.2.1 pc (.invokestatic idx) 3 pc2) (ok : jj_okW M2 np) (hl : Cond.methodLink M.1.cls idx M2.1 ∈ jj_tg) (hn : As.length = np) (hm : (lg_sl As).length ≤ M2.2.2.1) (hr : (rest.map fun v => v.category).sum ≤ 8) (hM : M.2.2.2.2.1 = []) (hkc : kc2 ≤ kc ∧ ks2 ≤ ks) (hls : ∀ z ∈ ls, jj_rk τ.2.1 z.2 = true) (hst : ∀ v ∈ rest, jj_rk τ.2.1 v = true)
    (k : jj_R M2 d kc2 ks2 τ 0 (lv_args 0 As) [] (jj_K M (d + 1) (kc - kc2) (ks - ks2) pc2 ls rest Q)) : jj_R M (d + 1) kc ks τ pc ls (As.reverse ++ rest) Q := by
  obtain ⟨hd, rfl⟩ := hd
  intro p l e R s m args below meth c H locs cells slots D cs A ad n0 ad0 L q
  obtain ⟨o1, o2, o3, o4, o5, o8, o7⟩ := id ok
  have hsub := jj_sub q.2.2.1 q.2.2.2.1 q.1.2.2.2.2.2.2.2.2.2.2.2.2.2.1
  have hmet := jj_metW (D := D) (cs := cs) (ad := ad) (sz := H.size) q.1.2.2.2.2.2.2.2.2.2.2.2.1 o3 o7 hm k
  refine jj_back q hM hkc hls hst (st0 := (As.reverse ++ rest).map (jj_cz ad)) ?_
  refine vx_runSX (hh := M2.2.2.2.2.1) (As := As.map (jj_cz ad)) ⟨q.1.1, q.1.2.1, q.1.2.2.1, q.1.2.2.2.2.2.1, q.1.2.2.2.2.2.2.2.1⟩ hmet (vx_cwSW np q.1.2.2.2.2.2.2.2.1 (jj_gin (M := M) (fun w hw => ?_)) rfl rfl rfl ⟨o4.1, o4.2.1, o4.2.2⟩ ⟨?_, ?_⟩) ⟨jj_P.blind, fun U hU hW => ?_⟩ rfl (by rw [List.length_map]; exact hn) q.2.2.2.2.2.2.1 (by simp [jj_cz]) (lv_room (by rw [List.map_map]; exact (by simpa [jj_cz_cat, Function.comp_def] using hr))) hd ⟨by have := q.2.1.1; omega, by have := q.2.1.2; omega⟩
  · rcases List.mem_append.mp hw with h1 | h1
    · simp only [List.mem_cons, List.not_mem_nil, or_false] at h1
      rcases h1 with rfl | rfl | rfl
      · exact hl
      · exact o8
      · exact o2
    · rcases List.mem_cons.mp h1 with rfl | h1
      · exact o1
      · exact h1
  · exact q.1.2.2.2.2.2.2.2.2.2.1
  · have := q.1.2.2.2.2.2.2.2.2.2.2.1
    show 8 + (M2.2.2.1 + 11) + 64 * d ≤ R.locals
    omega
  · refine ⟨rfl, by rw [hU], by rw [hU]; exact ⟨q.2.2.1.1, q.2.2.1.2.weaken (fun _ _ _ _ => trivial)⟩, va_K.moved hW.alike q.1.2.2.2.2.2.2.2.2.2.2.2.2.1, ?_⟩
    rw [hU]
    exact q.1.2.2.2.2.2.2.2.2.2.2.2.2.2.2.1.to hW (fun a h1 h2 => q.2.2.2.1.2.1 a h1 h2) hsub
end RT

theorem jj_xw_arg : jj_xw RX9 372 376 "java/lang/IllegalArgumentException" := ⟨by decide +kernel, jj_mem 607 (by decide +kernel) (by decide +kernel), jj_mem 101 (by decide +kernel) (by decide +kernel), by decide +kernel, by decide +kernel⟩
