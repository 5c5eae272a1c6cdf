/-! ===== making cells: new, newarray, multianewarray; constructors ===== -/
/-- what a shape speaks of is there already, or null -/
def jj_sh (n : Nat) (s : jj_Sh) (f : Nat → Int32) : Prop := match s with
  | .inl (_, sl) => ∀ (k : Nat) (b : Bool) (r : Nat), sl[k]? = some (some (b, r)) → r < n ∨ (b = true ∧ f k = 0)
  | .inr (.inl _) => True
  | .inr (.inr (.inl _)) => True
  | .inr (.inr (.inr (k, r))) => r + k ≤ n
/-- the cells below n speak of cells below n; those from n on are blank -/
def jj_fr (S : Nat → jj_Sh) (n : Nat) (h : Nat → Nat → Int32) (g : Nat → Nat → Int64) : Prop := (∀ o, o < n → jj_sh n (S o) (h o)) ∧ (∀ o, n ≤ o → ∀ k, h o k = 0) ∧ ∀ o, n ≤ o → ∀ k, g o k = 0
theorem jj_sh_mono {n m : Nat} {s : jj_Sh} {f : Nat → Int32} (h : jj_sh n s f) (hm : n ≤ m) : jj_sh m s f := by
  match s, h with
  | .inl (_, sl), h => exact fun k b r e => (h k b r e).imp_left (fun q => Nat.lt_of_lt_of_le q hm)
  | .inr (.inl _), _ => trivial
  | .inr (.inr (.inl _)), _ => trivial
  | .inr (.inr (.inr (k, r))), h => exact Nat.le_trans h hm
theorem jj_sh_r {n : Nat} {x : (Nat × Nat) ⊕ (Nat ⊕ (Nat × Nat))} {f f2 : Nat → Int32} (h : jj_sh n (.inr x) f) : jj_sh n (.inr x) f2 := by
  match x, h with
  | .inl _, _ => trivial
  | .inr (.inl _), _ => trivial
  | .inr (.inr (k, r)), h => exact h
theorem jj_ce_sh {cs : Nat → ClassId} {ad ad2 : Nat → Nat} {n : Nat} {s : jj_Sh} {f : Nat → Int32} {g : Nat → Int64} (h : jj_sh n s f) (ha : ∀ i, i < n → ad2 i = ad i) : jj_ce cs ad2 s f g = jj_ce cs ad s f g := by
  match s, h with
  | .inl (ci, sl), h =>
    show Sum.inr (ci, jj_fs ad2 f sl) = Sum.inr (ci, jj_fs ad f sl)
    have e : jj_fs ad2 f sl = jj_fs ad f sl := by
      unfold jj_fs
      apply List.map_congr_left
      intro k hk
      have hk2 : k < sl.length := List.mem_range.mp hk
      have e1 : sl[k]? = some (sl.getD k none) := by rw [List.getD, List.getElem?_eq_getElem hk2]; rfl
      have h1 : ∀ (b : Bool) (r : Nat), sl[k]? = some (some (b, r)) → r < n ∨ (b = true ∧ f k = 0) := h k
      rw [e1] at h1
      generalize sl.getD k none = x at h1 ⊢
      match x, h1 with
      | none, _ => rfl
      | some (b, r), h1 =>
        rcases h1 b r rfl with q | ⟨q1, q2⟩
        · cases b <;> simp [jj_sv, ha r q]
        · subst q1
          simp [jj_sv, q2]
    rw [e]
  | .inr (.inl _), _ => rfl
  | .inr (.inr (.inl _)), _ => rfl
  | .inr (.inr (.inr (k, r))), h =>
    have h2 : r + k ≤ n := h
    show Sum.inl _ = Sum.inl _
    have e : (fun j => if j < k then some (ad2 (r + j)) else none) = fun j => if j < k then some (ad (r + j)) else none := by
      funext j
      by_cases hj : j < k
      · rw [if_pos hj, if_pos hj, ha (r + j) (by omega)]
      · rw [if_neg hj, if_neg hj]
    rw [e]
theorem jj_W_fr {cs : Nat → ClassId} {ad ad2 : Nat → Nat} {S : Nat → jj_Sh} {n : Nat} {h : Nat → Nat → Int32} {g : Nat → Nat → Int64} (hf : ∀ o, o < n → jj_sh n (S o) (h o)) (ha : ∀ i, i < n → ad2 i = ad i) : jj_W cs ad2 (S, n, h, g) = jj_W cs ad (S, n, h, g) := by
  unfold jj_W
  apply List.map_congr_left
  intro o ho
  have ho2 : o < n := List.mem_range.mp ho
  show (ad2 o, jj_ce cs ad2 (S o) (h o) (g o)) = (ad o, jj_ce cs ad (S o) (h o) (g o))
  rw [ha o ho2, jj_ce_sh (hf o ho2) ha]
theorem jj_W_snoc {cs : Nat → ClassId} {ad : Nat → Nat} {S : Nat → jj_Sh} {n : Nat} {h : Nat → Nat → Int32} {g : Nat → Nat → Int64} : jj_W cs ad (S, n + 1, h, g) = jj_W cs ad (S, n, h, g) ++ [(ad n, jj_ce cs ad (S n) (h n) (g n))] := by
  show (List.range (n + 1)).map (jj_at cs ad (S, n + 1, h, g)) = (List.range n).map (jj_at cs ad (S, n, h, g)) ++ [(ad n, jj_ce cs ad (S n) (h n) (g n))]
  rw [List.range_succ, List.map_append]
  rfl
theorem jj_W_app {cs : Nat → ClassId} {ad : Nat → Nat} {S : Nat → jj_Sh} {n : Nat} {h : Nat → Nat → Int32} {g : Nat → Nat → Int64} : ∀ N : Nat, jj_W cs ad (S, n + N, h, g) = jj_W cs ad (S, n, h, g) ++ (List.range N).map (fun i => (ad (n + i), jj_ce cs ad (S (n + i)) (h (n + i)) (g (n + i))))
  | 0 => by simp
  | N + 1 => by
    show jj_W cs ad (S, (n + N) + 1, h, g) = _
    rw [jj_W_snoc, jj_W_app N, List.range_succ, List.map_append, List.append_assoc]
    rfl
theorem jj_fr_s {S : Nat → jj_Sh} {n : Nat} {h : Nat → Nat → Int32} {g : Nat → Nat → Int64} (hf : jj_fr S n h g) (hs : jj_sh n (S n) (h n)) : jj_fr S (n + 1) h g := by
  refine ⟨fun o ho => ?_, fun o ho => hf.2.1 o (by omega), fun o ho => hf.2.2 o (by omega)⟩
  by_cases e : o = n
  · rw [e]; exact jj_sh_mono hs (by omega)
  · exact jj_sh_mono (hf.1 o (by omega)) (by omega)
theorem jj_fr_put {S : Nat → jj_Sh} {n o ci k r : Nat} {h : Nat → Nat → Int32} {g : Nat → Nat → Int64} {sl : List (Option (Bool × Nat))} {v : Int32} (hf : jj_fr S n h g) (ho : o < n) (hs : S o = .inl (ci, sl)) (hk : ∀ (b : Bool) (r : Nat), sl[k]? = some (some (b, r)) → r < n) : jj_fr S n (jj_u2 h o k v) g := by
  refine ⟨fun a ha => ?_, fun a ha j => ?_, hf.2.2⟩
  · by_cases e : a = o
    · subst e
      have h1 := hf.1 a ha
      rw [hs] at h1 ⊢
      show ∀ (j : Nat) (b : Bool) (r2 : Nat), sl[j]? = some (some (b, r2)) → r2 < n ∨ (b = true ∧ jj_u2 h a k v a j = 0)
      intro j b r2 ej
      by_cases ek : j = k
      · subst ek
        exact Or.inl (hk b r2 ej)
      · rcases h1 j b r2 ej with q | ⟨q1, q2⟩
        · exact Or.inl q
        · exact Or.inr ⟨q1, by rw [jj_u2_row]; simp [upd, ek, q2]⟩
    · rw [jj_u2_ne e]
      exact hf.1 a ha
  · have e : a ≠ o := by omega
    rw [jj_u2_ne e]
    exact hf.2.1 a ha j
theorem jj_fr_row {S : Nat → jj_Sh} {n o : Nat} {h h2 : Nat → Nat → Int32} {g : Nat → Nat → Int64} {x : (Nat × Nat) ⊕ (Nat ⊕ (Nat × Nat))} (hf : jj_fr S n h g) (ho : o < n) (hs : S o = .inr x) (hx : ∀ a, a ≠ o → h2 a = h a) : jj_fr S n h2 g := by
  refine ⟨fun a ha => ?_, fun a ha j => ?_, hf.2.2⟩
  · by_cases e : a = o
    · subst e
      have h1 := hf.1 a ha
      rw [hs] at h1 ⊢
      exact jj_sh_r h1
    · rw [hx a e]
      exact hf.1 a ha
  · rw [hx a (by omega)]
    exact hf.2.1 a ha j
/-- a slot's first value -/
def jj_dz (v : Value) (x : Option (Bool × Nat)) : Bool := match x with
  | none => (match v with | .int y => y == 0 | _ => false)
  | some (true, _) => (match v with | .null => true | _ => false)
  | some (false, _) => false
def jj_dv (T : u_T) (N : Nat) (sl : List (Option (Bool × Nat))) : Bool := decide (sl.length = N) && (List.range N).all (fun j => match parseFieldDescriptor (T j).2.2.1 with | some ty => jj_dz (defaultValue ty) (sl.getD j none) | none => false)
theorem jj_dz_ok {ad : Nat → Nat} {v : Value} {x : Option (Bool × Nat)} (h : jj_dz v x = true) : v = jj_sv ad 0 x := by
  match x, h with
  | none, h =>
    cases v with
    | int y =>
      have h2 : (y == 0) = true := h
      rw [beq_iff_eq] at h2
      rw [h2]
      rfl
    | _ => simp [jj_dz] at h
  | some (true, r), h =>
    cases v with
    | null => simp [jj_sv]
    | _ => simp [jj_dz] at h
  | some (false, r), h => simp [jj_dz] at h
theorem jj_dv_at {T : u_T} {N : Nat} {sl : List (Option (Bool × Nat))} {ty : FieldType} (h : jj_dv T N sl = true) {j : Nat} (hj : j < N) (hp : parseFieldDescriptor (T j).2.2.1 = some ty) : sl[j]? = some (sl.getD j none) ∧ jj_dz (defaultValue ty) (sl.getD j none) = true := by
  unfold jj_dv at h
  rw [Bool.and_eq_true, decide_eq_true_eq] at h
  refine ⟨by rw [List.getD, List.getElem?_eq_getElem (show j < sl.length by omega)]; rfl, ?_⟩
  have h2 := List.all_eq_true.mp h.2 j (List.mem_range.mpr hj)
  simp only [hp] at h2
  exact h2
section CALLI
variable {p : Program} {l : Launch} {e : Env} {R : Room} {s : State} {m : MethodId} {args : Array Value} {below : List Frame} {meth : Method} {c : Code} {T : State} {locs : List Loc} {cells slots : Nat}
/-- a constructor's call: out of its step -/
theorem jj_callI {y : MethodName} {mk : MethodId} {vm₁ : Vm} (X : Stand p l e R s m args below meth c T locs cells slots) {g : JFrame} {index : Nat} {av : List Value} {rest : List Value} (hg : g.method = m) (hsize : g.locals.size = c.maxLocals) (hnamed : s.methodNamed? y = some mk) (hW₁ : s.WarmedH vm₁)
    (hstep₁ : ∀ target, (∀ acts, Steps p.tables e below (doInvoke e ((T.setVm vm₁).setTop { g with stack := rest }) acts mk av.toArray).1 target) → Steps p.tables e below (T.setTop g) target)
    {W9 : Nat} {Pre : Pt → Array Value → Prop} {Post : Pt → Array Value → Option Value → Pt → Prop} {PostX : Pt → Array Value → Addr → Pt → Prop} (hK : vx_Back l R p e below s args y 3 W9 Pre Post PostX)
    (X₁ : Stand p l e R s m args below meth c (T.setVm vm₁) locs cells slots) (hW : 2 * g.monitorRoom + (rest.map fun v => v.category).sum ≤ W9) (hdg : decode c.code g.pc = .ok (.invokespecial index, 3))
    (hpre : ∀ vm₁, s.WarmedH vm₁ → Pre ⟨T.setVm vm₁, locs, cells, slots⟩ av.toArray) :
    (∃ (v : Option Value) (vm₁ : Vm) (B : Pt), s.WarmedH vm₁ ∧ Stand p l e R s m args below meth c B.U B.locs B.cells B.slots ∧ Post ⟨T.setVm vm₁, locs, cells, slots⟩ av.toArray v B ∧
      ∀ target, Steps p.tables e below (B.U.setTop { g with pc := g.pc + 3, stack := v.toList ++ rest }) target → Steps p.tables e below (T.setTop g) target) ∨
    (∃ (q : Addr) (vm₁ : Vm) (B : Pt), s.WarmedH vm₁ ∧ Stand p l e R s m args below meth c B.U B.locs B.cells B.slots ∧ PostX ⟨T.setVm vm₁, locs, cells, slots⟩ av.toArray q B ∧
      Steps p.tables e below (T.setTop g) ((B.U.setTop { g with stack := rest }).pushFrame (.throwing q))) := by
  rcases hK m meth c ⟨T.setVm vm₁, locs, cells, slots⟩ { g with stack := rest } (.invokespecial index) mk av.toArray X₁ hg hsize hdg hW (X₁.named hnamed) (hpre vm₁ X₁.warmed) with ⟨v, B, X', hpost, hsteps⟩ | ⟨q, B, X', hpost, hsteps⟩
  · exact Or.inl ⟨v, vm₁, B, X₁.warmed, X', hpost, fun target h => hstep₁ _ fun acts => by rw [doInvoke_state]; exact hsteps.trans h⟩
  · exact Or.inr ⟨q, vm₁, B, X₁.warmed, X', hpost, hstep₁ _ fun acts => by rw [doInvoke_state]; exact hsteps⟩
end CALLI
section RUNI
variable {p : Program} {l : Launch} {e : Env} {R : Room} {s : State} {m : MethodId} {args : Array Value} {below : List Frame} {meth : Method} {c : Code} {H : Heap} {locs : List Loc} {cells slots : Nat}
variable {y : MethodName} {bytes cc : ByteArray} {maxL nL mc ms n index : Nat} {ws : List Cond} {rm : Room} {Pc : Array Value → State → Prop} {Qc : Array Value → State → Outcome → State → Prop} {XC : String → State → State → Prop} {free : Addr → Prop} {Ts : List Cond} {own : String} {b : Addr} {As rest : List Value} {g : JFrame}
theorem jj_runI (S : CallFix p m c cc nL s args Ts own) (hM : vx_Met l y ws rm Pc Qc XC mc ms free) (cw : CallB R s args own index y bytes maxL none ws rm mc ms n ∧ y.name = "<init>" ∧ (Cond.instanceMethod y).before args s = true) (hp : PreS s H Pc (.ref b :: As))
    (hg : g.method = m) (hn : As.length = n) (hsize : g.locals.size = nL) (hstack : g.stack = As.reverse ++ .ref b :: rest) (hW : 2 * g.monitorRoom + (rest.map fun v => v.category).sum ≤ 8) (hdg : decode cc g.pc = .ok (.invokespecial index, 3)) (hf : cells + mc ≤ R.cells ∧ slots + ms ≤ R.slots) :
    vx_Run p l e R s m args below meth c H locs cells slots mc ms g rest (Qc (Value.ref b :: As).toArray) XC free := by
  have hK : vx_Back l R p e below s args y 3 8 (PreOf R mc ms Pc) (PostOf Qc mc ms free) (vx_Post XC mc ms free) := vx_callBack cw.1 hM hp.1
  obtain ⟨⟨-, -, -, -, -, -, hcode, hini, hy, hlen, hl⟩, hy1, hin⟩ := cw
  obtain ⟨hx, hb, hml, ho, -⟩ := S
  subst hg
  intro T hT X
  have hpl : e.platform.magicAccessors = ({} : Platform).magicAccessors := by rw [X.admits.platform]
  obtain ⟨mk, methM, cM, kP, vm₁, hnamed, hmethM, hcodeM, -, hlocalsM, -, hkP, -, hW₁, hstep₁⟩ := Steps.initColdArgs (e := e) X.here hx X.warmed hpl ho hy1 hy hl hin hcode (f := g) rfl (fun sig h => hn.trans (hlen sig h)) hstack (by rw [hb]; exact hdg)
  rcases jj_callI (av := Value.ref b :: As) (index := index) X rfl (hsize.trans hml.symm) hnamed hW₁ (fun t h => hstep₁ t h) hK (X.noted hW₁) hW (by rw [hb]; exact hdg)
    (fun vm₁ hW₁ => ⟨hf.1, hf.2, hp.2 (T.setVm vm₁) hT hW₁⟩) with ⟨v, vm₁, ⟨U', l2, c2, s2⟩, hW₁, X', ⟨g', mk, t, L, e1, e2, hq, h1, hL, h2, h3⟩, st⟩ | ⟨q, vm₁, ⟨U', l2, c2, s2⟩, hW₁, X', ⟨g', mk, t, L, E, ce, e1, e2, hq, hce, hcv, hcl, h1, hL, h2, h3⟩, st⟩
  · dsimp only [Pt.U, Pt.locs, Pt.cells, Pt.slots] at X' e1 e2 h1 h2 h3 st
    subst h1; subst h2; subst h3
    exact Or.inl ⟨v, (T.setVm vm₁).calling g' mk (Value.ref b :: As).toArray, t, U', L, hT, X', hL, e1, e2, hq, st⟩
  · dsimp only [Pt.U, Pt.locs, Pt.cells, Pt.slots] at X' e1 e2 h1 h2 h3 st hcl
    subst h1; subst h2; subst h3
    exact Or.inr ⟨q, (T.setVm vm₁).calling g' mk (Value.ref b :: As).toArray, t, U', L, E, ce, hT, X', hL, e1, e2, hq, hce, hcv, vx_cls hW₁ hcl, st⟩
theorem jj_runIN {host : String} (S : CallFix p m c cc nL s args Ts own) (hM : vx_Met l y ws rm Pc Qc XC mc ms free) (cw : va_CN R s args own index y host bytes maxL none ws rm mc ms n ∧ y.name = "<init>" ∧ (Cond.instanceMethod y).before args s = true) (hp : PreS s H Pc (.ref b :: As))
    (hg : g.method = m) (hn : As.length = n) (hsize : g.locals.size = nL) (hstack : g.stack = As.reverse ++ .ref b :: rest) (hW : 2 * g.monitorRoom + (rest.map fun v => v.category).sum ≤ 8) (hdg : decode cc g.pc = .ok (.invokespecial index, 3)) (hf : cells + mc ≤ R.cells ∧ slots + ms ≤ R.slots) :
    vx_Run p l e R s m args below meth c H locs cells slots mc ms g rest (Qc (Value.ref b :: As).toArray) XC free := by
  obtain ⟨⟨⟨hrc, hrs, hfr, hlo, hws, hcw⟩, hcode, hini, hy, hlen, hl⟩, hy1, hin⟩ := cw
  have hK : vx_Back l R p e below s args y 3 8 (PreOf R mc ms Pc) (PostOf Qc mc ms free) (vx_Post XC mc ms free) := vx_back (bytes := bytes) (maxL := maxL) (ret := none) hM hp.1 hrc hrs hfr hlo hws hcw (fun a' U hW => word_at hW (Or.inl (by first | rfl | simp [Cond.onTables, Cond.keeps, Cond.steady])) hini)
  obtain ⟨hx, hb, hml, ho, -⟩ := S
  subst hg
  intro T hT X
  have hpl : e.platform.magicAccessors = ({} : Platform).magicAccessors := by rw [X.admits.platform]
  obtain ⟨mk, methM, cM, kP, vm₁, hnamed, hmethM, hcodeM, -, hlocalsM, -, hkP, -, hW₁, hstep₁⟩ := Steps.initColdArgsNest (e := e) X.here hx X.warmed hpl ho hy1 hy hl hin hcode (f := g) rfl (fun sig h => hn.trans (hlen sig h)) hstack (by rw [hb]; exact hdg)
  rcases jj_callI (av := Value.ref b :: As) (index := index) X rfl (hsize.trans hml.symm) hnamed hW₁ (fun t h => hstep₁ t h) hK (X.noted hW₁) hW (by rw [hb]; exact hdg)
    (fun vm₁ hW₁ => ⟨hf.1, hf.2, hp.2 (T.setVm vm₁) hT hW₁⟩) with ⟨v, vm₁, ⟨U', l2, c2, s2⟩, hW₁, X', ⟨g', mk, t, L, e1, e2, hq, h1, hL, h2, h3⟩, st⟩ | ⟨q, vm₁, ⟨U', l2, c2, s2⟩, hW₁, X', ⟨g', mk, t, L, E, ce, e1, e2, hq, hce, hcv, hcl, h1, hL, h2, h3⟩, st⟩
  · dsimp only [Pt.U, Pt.locs, Pt.cells, Pt.slots] at X' e1 e2 h1 h2 h3 st
    subst h1; subst h2; subst h3
    exact Or.inl ⟨v, (T.setVm vm₁).calling g' mk (Value.ref b :: As).toArray, t, U', L, hT, X', hL, e1, e2, hq, st⟩
  · dsimp only [Pt.U, Pt.locs, Pt.cells, Pt.slots] at X' e1 e2 h1 h2 h3 st hcl
    subst h1; subst h2; subst h3
    exact Or.inr ⟨q, (T.setVm vm₁).calling g' mk (Value.ref b :: As).toArray, t, U', L, E, ce, hT, X', hL, e1, e2, hq, hce, hcv, vx_cls hW₁ hcl, st⟩
end RUNI
section RN
variable {M : jj_Mt} {d kc ks kc2 ks2 : Nat} {τ : jj_St} {S : Nat → jj_Sh} {n : Nat} {h : Nat → Nat → Int32} {g : Nat → Nat → Int64} {pc pc2 idx : Nat} {ls : List (Nat × Value)} {st rest : List Value} {Q : jj_Rs → jj_St → Prop}
/-- a constructor is called -/
theorem rr_callI {y2 : MethodName} {b2 : ByteArray} {l2 np o : Nat} {As : List Value} (hd : jj_D M.2.1 pc (.invokespecial idx) 3 pc2) (ok : jj_ok (y2, b2, l2, none, [], none) np ∧ Cond.instanceMethod y2 ∈ jj_tg) (hy : y2.name = "<init>") (hl : Cond.methodLink M.1.cls idx y2 ∈ jj_tg ∨ ∃ host, Cond.methodLinkNest M.1.cls idx y2 host ∈ jj_nt) (hn : As.length = np) (hm : (lg_sl (.ref o :: As)).length ≤ l2) (hr : (rest.map fun v => v.category).sum ≤ 8) (hM : M.2.2.2.2.1 = []) (hkc : kc2 ≤ kc ∧ ks2 ≤ ks) (hls : ∀ z ∈ ls, jj_rk τ.2.1 z.2 = true) (hst : ∀ v ∈ rest, jj_rk τ.2.1 v = true)
    (k : jj_R (y2, b2, l2, none, [], none) d kc2 ks2 τ 0 (lv_args 0 (.ref o :: As)) [] (jj_K M (d + 1) (kc - kc2) (ks - ks2) pc2 ls rest Q)) : jj_R M (d + 1) kc ks τ pc ls (As.reverse ++ .ref o :: rest) Q := by
  obtain ⟨hd, rfl⟩ := hd
  intro p l e R s m args below meth c H locs cells slots D cs A ad n0 ad0 L q
  obtain ⟨⟨o1, o2, o3, o4, o5, o6, o7⟩, o8⟩ := id ok
  have hsub := jj_sub q.2.2.1 q.2.2.2.1 q.1.2.2.2.2.2.2.2.2.2.2.2.2.2.1
  have hmet := jj_met (M := (y2, b2, l2, none, [], none)) (D := D) (cs := cs) (ad := ad) (sz := H.size) q.1.2.2.2.2.2.2.2.2.2.2.2.1 o3 o6 o7 hm k
  have hts := q.1.2.2.2.2.2.2.2.1
  have g1 := q.1.2.2.2.2.2.2.2.2.2.1
  have g2 := q.1.2.2.2.2.2.2.2.2.2.2.1
  have o5' : l2 ≤ 45 := o5
  have hGI : GoodIn jj_tg (jj_ws (y2, b2, l2, none, [], none)) := jj_gin (M := M) (fun w hw => jj_ws_in ok.1 w hw)
  have hPS : PreS s H (jj_P D cs ad τ H.size (.ref o :: As)) (.ref (ad o) :: As.map (jj_cz ad)) := by
    refine ⟨jj_P.blind, fun U hU hW => ?_⟩
    refine ⟨by simp [jj_cz], by rw [hU], by rw [hU]; exact ⟨q.2.2.1.1, q.2.2.1.2.weaken (fun _ _ _ _ => trivial)⟩, va_K.moved hW.alike q.1.2.2.2.2.2.2.2.2.2.2.2.2.1, ?_⟩
    rw [hU]
    exact q.1.2.2.2.2.2.2.2.2.2.2.2.2.2.2.1.to hW (fun a h1 h2 => q.2.2.2.1.2.1 a h1 h2) hsub
  refine jj_back q hM hkc hls hst (st0 := (As.reverse ++ .ref o :: rest).map (jj_cz ad)) ?_
  rcases hl with hl | ⟨host, hl⟩
  · exact jj_runI (As := As.map (jj_cz ad)) (b := ad o) (bytes := b2) (maxL := l2) ⟨q.1.1, q.1.2.1, q.1.2.2.1, q.1.2.2.2.2.2.1, hts⟩ hmet (cwI np hts hGI rfl rfl rfl (hts _ o2) (hts _ hl) (hts _ o8) hy ⟨o4.1, o4.2.1, o4.2.2⟩ ⟨g1, by show 8 + (l2 + 11) + 64 * d ≤ R.locals; omega⟩) hPS rfl (by rw [List.length_map]; exact hn) q.2.2.2.2.2.2.1 (by simp [jj_cz]) (lv_room (by rw [List.map_map]; exact (by simpa [jj_cz_cat, Function.comp_def] using hr))) hd ⟨by have := q.2.1.1; omega, by have := q.2.1.2; omega⟩
  · exact jj_runIN (host := host) (As := As.map (jj_cz ad)) (b := ad o) (bytes := b2) (maxL := l2) ⟨q.1.1, q.1.2.1, q.1.2.2.1, q.1.2.2.2.2.2.1, hts⟩ hmet ⟨va_cnB np hts hGI rfl rfl rfl (q.1.2.2.2.2.2.2.2.2.2.2.2.2.2.2.1.2.2.2.2.1 _ hl) (hts _ o2) ⟨o4.1, o4.2.1, o4.2.2⟩ ⟨g1, by show 8 + (l2 + 11) + 64 * d ≤ R.locals; omega⟩, hy, hts _ o8⟩ hPS rfl (by rw [List.length_map]; exact hn) q.2.2.2.2.2.2.1 (by simp [jj_cz]) (lv_room (by rw [List.map_map]; exact (by simpa [jj_cz_cat, Function.comp_def] using hr))) hd ⟨by have := q.2.1.1; omega, by have := q.2.1.2; omega⟩
/-- java.lang.Object's own -/
theorem rr_objInit {o : Nat} (hd : jj_D M.2.1 pc (.invokespecial idx) 3 pc2) (hl : Cond.methodLink M.1.cls idx Lib.objectInit ∈ jj_tg) (hw : Cond.instanceMethod Lib.objectInit ∈ jj_tg ∧ Cond.code Lib.objectInit ⟨#[0xb1]⟩ 1 none ∈ jj_tg) (hr : (st.map fun v => v.category).sum ≤ 8) (k : jj_R M (d + 1) kc ks τ pc2 ls st Q) : jj_R M (d + 1) kc ks τ pc ls (.ref o :: st) Q := by
  obtain ⟨hd, rfl⟩ := hd
  intro p l e R s m args below meth c H locs cells slots D cs A ad n0 ad0 L q
  have hts := q.1.2.2.2.2.2.2.2.1
  have g1 := q.1.2.2.2.2.2.2.2.2.2.1
  have g2 := q.1.2.2.2.2.2.2.2.2.2.2.1
  have g3 := jj_sum8 (ad := ad) hr
  exact W.objInit (a := ad o) (rest := st.map (jj_cz ad)) q.1.1 q.1.2.1 q.1.2.2.2.2.2.1 (hts _ hl) (hts _ hw.1) (hts _ hw.2) rfl (q.2.2.2.2.2.2.1.trans q.1.2.2.1.symm) rfl hd (by omega) (by show 2 * 0 + _ + 12 ≤ R.locals; omega) (k p l e R s m args below meth c H locs cells slots D cs A ad n0 ad0 L q)
theorem rr_new {ci N n2 : Nat} {C : String} {T : u_T} {sl : List (Option (Bool × Nat))} (hd : jj_D M.2.1 pc (.new idx) 3 pc2) (hw : Cond.classLink M.1.cls idx C ∈ jj_tg ∧ Cond.instantiable C N ∈ jj_tg ∧ Cond.initialized C ∈ jj_tg) (hC : jj_cl[ci]? = some (C, T, N)) (hs : S n = .inl (ci, sl)) (hdv : jj_dv T N sl = true) (hn : n < 999996) (hn2 : n + 1 = n2) (hb : kc2 + 1 ≤ kc ∧ ks2 + N ≤ ks) (hf : jj_fr S n h g) (hls : ∀ z ∈ ls, jj_rk n z.2 = true) (hst : ∀ v ∈ st, jj_rk n v = true) (k : jj_fr S n2 h g → jj_R M d kc2 ks2 (S, n2, h, g) pc2 ls (.ref n :: st) Q) : jj_R M d kc ks (S, n, h, g) pc ls st Q := by
  obtain ⟨hd, rfl⟩ := hd
  subst hn2
  intro p l e R s m args below meth c H locs cells slots D cs A ad n0 ad0 L q
  obtain ⟨w1, w2, w3⟩ := hw
  obtain ⟨ty, hty⟩ := jj_tyok hC
  have hts := q.1.2.2.2.2.2.2.2.1
  have c1 := q.2.1.1
  have c2 := q.2.1.2
  have hlen : sl.length = N := by
    unfold jj_dv at hdv
    rw [Bool.and_eq_true, decide_eq_true_eq] at hdv
    exact hdv.1
  have hsn : jj_sh n (S n) (h n) := by
    rw [hs]
    show ∀ (j : Nat) (b : Bool) (r2 : Nat), sl[j]? = some (some (b, r2)) → r2 < n ∨ (b = true ∧ h n j = 0)
    intro j b r2 ej
    have hj : j < N := by rw [← hlen]; exact (List.getElem?_eq_some_iff.mp ej).1
    obtain ⟨a1, a2⟩ := jj_dv_at hdv hj (hty j hj)
    rw [a1] at ej
    rw [Option.some.inj ej] at a2
    refine Or.inr ⟨?_, hf.2.1 n (Nat.le_refl n) j⟩
    cases b with
    | true => rfl
    | false => simp [jj_dz] at a2
  have hfr := jj_fr_s hf hsn
  refine va_new (fs := jj_fs ad (h n) sl) q.1.1 q.1.2.1 hts (jj_uin hC) ty hty q.1.2.2.2.2.2.1 (hts _ w1) (hts _ w2) (hts _ w3) q.1.2.2.2.2.2.2.2.2.2.2.2.2.1 q.2.2.1.1 q.2.2.1.2 q.2.2.2.1 q.1.2.2.2.2.2.2.2.2.2.2.2.2.2.1 hC (fun j hj => ?_) (by omega) (by omega) hd (fun a H1 hP hD hS => ?_)
  · obtain ⟨a1, a2⟩ := jj_dv_at hdv hj (hty j hj)
    unfold vp_V
    rw [List.getD, jj_fs_get a1, hf.2.1 n (Nat.le_refl n) j]
    exact jj_dz_ok a2
  · obtain ⟨ad2, had⟩ : ∃ f : Nat → Nat, f = fun i => if i = n then a else ad i := ⟨_, rfl⟩
    have hag : jj_ag n ad ad2 := fun i hi => by
      have hne : i ≠ n := by omega
      rw [had]
      exact if_neg hne
    have han : ad2 n = a := by rw [had]; exact if_pos rfl
    have hlow : ∀ i, i < n → ad2 i = ad i := fun i hi => hag i (Or.inl hi)
    have hW : jj_W cs ad2 (S, n + 1, h, g) = jj_W cs ad (S, n, h, g) ++ [(a, .inr (ci, jj_fs ad (h n) sl))] := by
      rw [jj_W_snoc, jj_W_fr hf.1 hlow, han, jj_ce_sh hsn hlow, hs]
      rfl
    have hwo : jj_wo D cs ad2 A (S, n + 1, h, g) H1 := by
      unfold jj_wo
      rw [hW]
      exact ⟨hP, hD⟩
    have hls' : ∀ z ∈ ls, ∀ i, z.2 = .ref i → (i < n ∨ 999997 ≤ i) := fun z hz i hi => jj_rk_of (n := n) (vs := [z.2]) (fun v hv => by rw [List.mem_singleton.mp hv]; exact hls z hz) z.2 List.mem_cons_self i hi
    have hC2 := jj_cap (τ2 := (S, n + 1, h, g)) q hls' hag (Nat.le_succ n) hwo (fun _ z => z) hS (kc3 := kc2) (ks3 := ks2) (cells1 := cells + 1) (slots1 := slots + N) ⟨by omega, by omega⟩
    have hk := k hfr p l e R s m args below meth c H1 locs (cells + 1) (slots + N) D cs A ad2 n0 ad0 L hC2
    have e3 : (Value.ref n :: st).map (jj_cz ad2) = .ref a :: st.map (jj_cz ad) := by
      rw [List.map_cons, jj_stk (jj_rk_of hst) hag]
      show Value.ref (ad2 n) :: _ = _
      rw [han]
    rw [e3] at hk
    exact hk
theorem jj_newx {t len n2 : Nat} {v : Int32} {aty : ArrayType} {ty : FieldType} {x : (Nat × Nat) ⊕ (Nat ⊕ (Nat × Nat))} {y : (Nat → Int32) ⊕ ((Nat → Int64) ⊕ ((Nat → UInt32) ⊕ ((Nat → UInt64) ⊕ (Nat → Option Nat))))} (hd : jj_D M.2.1 pc (.newarray aty) 2 pc2) (hty : newarray.typeOf aty = ty) (hw : Cond.arrayClass ty ∈ jj_tg) (hti : ∀ cs : Nat → ClassId, (jj_ty cs)[t]? = some (cs t, ty)) (hra : ∀ (U : State) (cA : ClassId), va_RA U cA ty → U.vm.findClass ("[" ++ ty.toString) = some cA) (hs : S n = .inr x) (hx : ∀ (cs : Nat → ClassId) (ad : Nat → Nat), jj_ce cs ad (.inr x) (h n) (g n) = .inl (cs t, len, y)) (hy : ∀ cA : ClassId, vp_cell cA (len, y) = arrV cA len (fun _ => defaultValue ty)) (hsn : jj_sh n (S n) (h n)) (hv : ¬ v < 0 ∧ v.toNatClampNeg = len) (hbt : len * componentBytes ty ≤ 536870912) (hn : n < 999996) (hn2 : n + 1 = n2) (hb : kc2 + 1 ≤ kc ∧ ks2 + len ≤ ks) (hf : jj_fr S n h g) (hls : ∀ z ∈ ls, jj_rk n z.2 = true) (hst : ∀ v ∈ st, jj_rk n v = true) (k : jj_fr S n2 h g → jj_R M d kc2 ks2 (S, n2, h, g) pc2 ls (.ref n :: st) Q) : jj_R M d kc ks (S, n, h, g) pc ls (.int v :: st) Q := by
  obtain ⟨hd, rfl⟩ := hd
  subst hn2
  intro p l e R s m args below meth c H locs cells slots D cs A ad n0 ad0 L q
  have hts := q.1.2.2.2.2.2.2.2.1
  have c1 := q.2.1.1
  have c2 := q.2.1.2
  have hK := q.1.2.2.2.2.2.2.2.2.2.2.2.2.1
  have hfr := jj_fr_s hf hsn
  refine va_newa (atype := aty) (ty := ty) (a0 := (len, y)) q.1.1 q.1.2.1 (by rw [hty]; exact hts _ hw) hty hK q.2.2.1.1 q.2.2.1.2 q.2.2.2.1 q.1.2.2.2.2.2.2.2.2.2.2.2.2.2.1 hy hv.1 hv.2 hbt (by omega) (by omega) hd (fun a cA H1 hK2 hP hD hS => ?_)
  have hcA : cA = cs t := by
    have h1 := hra s cA (hK2.2 5 (cA, ty) rfl).2
    have h2 := hra s (cs t) (hK.2 t (cs t, ty) (hti cs)).2
    exact Option.some.inj (h1.symm.trans h2)
  subst hcA
  obtain ⟨ad2, had⟩ : ∃ f : Nat → Nat, f = fun i => if i = n then a else ad i := ⟨_, rfl⟩
  have hag : jj_ag n ad ad2 := fun i hi => by
    have hne : i ≠ n := by omega
    rw [had]
    exact if_neg hne
  have han : ad2 n = a := by rw [had]; exact if_pos rfl
  have hlow : ∀ i, i < n → ad2 i = ad i := fun i hi => hag i (Or.inl hi)
  have hW : jj_W cs ad2 (S, n + 1, h, g) = jj_W cs ad (S, n, h, g) ++ [(a, .inl (cs t, len, y))] := by
    rw [jj_W_snoc, jj_W_fr hf.1 hlow, han, hs, hx]
  have hwo : jj_wo D cs ad2 A (S, n + 1, h, g) H1 := by
    unfold jj_wo
    rw [hW]
    exact ⟨hP, hD⟩
  have hls' : ∀ z ∈ ls, ∀ i, z.2 = .ref i → (i < n ∨ 999997 ≤ i) := fun z hz i hi => jj_rk_of (n := n) (vs := [z.2]) (fun v hv => by rw [List.mem_singleton.mp hv]; exact hls z hz) z.2 List.mem_cons_self i hi
  have hC2 := jj_cap (τ2 := (S, n + 1, h, g)) q hls' hag (Nat.le_succ n) hwo (fun _ z => z) hS (kc3 := kc2) (ks3 := ks2) (cells1 := cells + 1) (slots1 := slots + len) ⟨by omega, by omega⟩
  have hk := k hfr p l e R s m args below meth c H1 locs (cells + 1) (slots + len) D cs A ad2 n0 ad0 L hC2
  have e3 : (Value.ref n :: st).map (jj_cz ad2) = .ref a :: st.map (jj_cz ad) := by
    rw [List.map_cons, jj_stk (jj_rk_of hst) hag]
    show Value.ref (ad2 n) :: _ = _
    rw [han]
  rw [e3] at hk
  exact hk
theorem rr_newI {len n2 : Nat} {v : Int32} (hd : jj_D M.2.1 pc (.newarray .int) 2 pc2) (hs : S n = .inr (.inl (0, len))) (hv : ¬ v < 0 ∧ v.toNatClampNeg = len) (hbt : len * 4 ≤ 536870912) (hn : n < 999996) (hn2 : n + 1 = n2) (hb : kc2 + 1 ≤ kc ∧ ks2 + len ≤ ks) (hf : jj_fr S n h g) (hls : ∀ z ∈ ls, jj_rk n z.2 = true) (hst : ∀ v ∈ st, jj_rk n v = true) (k : jj_fr S n2 h g → jj_R M d kc2 ks2 (S, n2, h, g) pc2 ls (.ref n :: st) Q) : jj_R M d kc ks (S, n, h, g) pc ls (.int v :: st) Q :=
  jj_newx (t := 0) (len := len) (ty := .int) (y := .inl (h n)) hd rfl (jj_mem 158 (by decide +kernel) (by decide +kernel)) (fun _ => rfl) (fun _ _ z => z) hs (fun _ _ => rfl) (fun cA => by rw [vp_cell_i]; exact congrArg (arrV cA len) (funext fun j => by show Value.int (h n j) = Value.int 0; rw [hf.2.1 n (Nat.le_refl n) j])) (by rw [hs]; trivial) hv hbt hn hn2 hb hf hls hst k
theorem rr_newB {len n2 : Nat} {v : Int32} (hd : jj_D M.2.1 pc (.newarray .byte) 2 pc2) (hs : S n = .inr (.inl (1, len))) (hv : ¬ v < 0 ∧ v.toNatClampNeg = len) (hbt : len * 4 ≤ 536870912) (hn : n < 999996) (hn2 : n + 1 = n2) (hb : kc2 + 1 ≤ kc ∧ ks2 + len ≤ ks) (hf : jj_fr S n h g) (hls : ∀ z ∈ ls, jj_rk n z.2 = true) (hst : ∀ v ∈ st, jj_rk n v = true) (k : jj_fr S n2 h g → jj_R M d kc2 ks2 (S, n2, h, g) pc2 ls (.ref n :: st) Q) : jj_R M d kc ks (S, n, h, g) pc ls (.int v :: st) Q :=
  jj_newx (t := 1) (len := len) (ty := .byte) (y := .inl (h n)) hd rfl (jj_mem 241 (by decide +kernel) (by decide +kernel)) (fun _ => rfl) (fun _ _ z => z) hs (fun _ _ => rfl) (fun cA => by rw [vp_cell_i]; exact congrArg (arrV cA len) (funext fun j => by show Value.int (h n j) = Value.int 0; rw [hf.2.1 n (Nat.le_refl n) j])) (by rw [hs]; trivial) hv (show len * 1 ≤ 536870912 by omega) hn hn2 hb hf hls hst k
theorem rr_newZ {len n2 : Nat} {v : Int32} (hd : jj_D M.2.1 pc (.newarray .boolean) 2 pc2) (hs : S n = .inr (.inl (2, len))) (hv : ¬ v < 0 ∧ v.toNatClampNeg = len) (hbt : len * 4 ≤ 536870912) (hn : n < 999996) (hn2 : n + 1 = n2) (hb : kc2 + 1 ≤ kc ∧ ks2 + len ≤ ks) (hf : jj_fr S n h g) (hls : ∀ z ∈ ls, jj_rk n z.2 = true) (hst : ∀ v ∈ st, jj_rk n v = true) (k : jj_fr S n2 h g → jj_R M d kc2 ks2 (S, n2, h, g) pc2 ls (.ref n :: st) Q) : jj_R M d kc ks (S, n, h, g) pc ls (.int v :: st) Q :=
  jj_newx (t := 2) (len := len) (ty := .boolean) (y := .inl (h n)) hd rfl (jj_mem 322 (by decide +kernel) (by decide +kernel)) (fun _ => rfl) (fun _ _ z => z) hs (fun _ _ => rfl) (fun cA => by rw [vp_cell_i]; exact congrArg (arrV cA len) (funext fun j => by show Value.int (h n j) = Value.int 0; rw [hf.2.1 n (Nat.le_refl n) j])) (by rw [hs]; trivial) hv (show len * 1 ≤ 536870912 by omega) hn hn2 hb hf hls hst k
theorem rr_newL {len n2 : Nat} {v : Int32} (hd : jj_D M.2.1 pc (.newarray .long) 2 pc2) (hs : S n = .inr (.inr (.inl len))) (hv : ¬ v < 0 ∧ v.toNatClampNeg = len) (hbt : len * 8 ≤ 536870912) (hn : n < 999996) (hn2 : n + 1 = n2) (hb : kc2 + 1 ≤ kc ∧ ks2 + len ≤ ks) (hf : jj_fr S n h g) (hls : ∀ z ∈ ls, jj_rk n z.2 = true) (hst : ∀ v ∈ st, jj_rk n v = true) (k : jj_fr S n2 h g → jj_R M d kc2 ks2 (S, n2, h, g) pc2 ls (.ref n :: st) Q) : jj_R M d kc ks (S, n, h, g) pc ls (.int v :: st) Q :=
  jj_newx (t := 3) (len := len) (ty := .long) (y := .inr (.inl (g n))) hd rfl (jj_mem 1519 (by decide +kernel) (by decide +kernel)) (fun _ => rfl) (fun _ _ z => z) hs (fun _ _ => rfl) (fun cA => by rw [vp_cell_l]; exact congrArg (arrV cA len) (funext fun j => by show Value.long (g n j) = Value.long 0; rw [hf.2.2 n (Nat.le_refl n) j])) (by rw [hs]; trivial) hv hbt hn hn2 hb hf hls hst k
theorem rr_newM {N K n2 : Nat} {v w : Int32} (hd : jj_D M.2.1 pc (.multianewarray idx 2) 4 pc2) (hw : Cond.classLink M.1.cls idx "[[I" ∈ jj_tg) (hs : S n = .inr (.inr (.inr (N, n + 1)))) (hrow : ∀ i, i < N → S (n + 1 + i) = .inr (.inl (0, K))) (hv : ¬ v < 0 ∧ v.toNatClampNeg = N) (hw2 : ¬ w < 0 ∧ w.toNatClampNeg = K) (hbt : N * 4 ≤ 536870912 ∧ K * 4 ≤ 536870912) (hn : n + N < 999996) (hn2 : n + 1 + N = n2) (hb : kc2 + (1 + N) ≤ kc ∧ ks2 + (N + N * K) ≤ ks) (hf : jj_fr S n h g) (hls : ∀ z ∈ ls, jj_rk n z.2 = true) (hst : ∀ v ∈ st, jj_rk n v = true) (k : jj_fr S n2 h g → jj_R M d kc2 ks2 (S, n2, h, g) pc2 ls (.ref n :: st) Q) : jj_R M d kc ks (S, n, h, g) pc ls (.int w :: .int v :: st) Q := by
  obtain ⟨hd, rfl⟩ := hd
  subst hn2
  intro p l e R s m args below meth c H locs cells slots D cs A ad n0 ad0 L q
  have hts := q.1.2.2.2.2.2.2.2.1
  have c1 := q.2.1.1
  have c2 := q.2.1.2
  have hK := q.1.2.2.2.2.2.2.2.2.2.2.2.2.1
  have hX := q.1.2.2.2.2.2.2.2.2.2.2.2.2.2.2.1
  have hfr : jj_fr S (n + 1 + N) h g := by
    refine ⟨fun o ho => ?_, fun o ho => hf.2.1 o (by omega), fun o ho => hf.2.2 o (by omega)⟩
    by_cases e1 : o < n
    · exact jj_sh_mono (hf.1 o e1) (by omega)
    · by_cases e2 : o = n
      · rw [e2, hs]
        show n + 1 + N ≤ n + 1 + N
        exact Nat.le_refl _
      · have e3 : o = n + 1 + (o - (n + 1)) := by omega
        rw [e3, hrow (o - (n + 1)) (by omega)]
        trivial
  have hP0 : va_P D jj_cl (jj_W cs ad (S, n, h, g) ++ va_pl [] (fun _ => (.inl (cs 0, 0, .inl (fun _ => 0)) : va_E))) H := by
    show va_P D jj_cl (jj_W cs ad (S, n, h, g) ++ []) H
    rw [List.append_nil]
    exact q.2.2.1.1
  have hD0 : va_D A (jj_W cs ad (S, n, h, g) ++ va_pl [] (fun _ => (.inl (cs 0, 0, .inl (fun _ => 0)) : va_E))) := by
    show va_D A (jj_W cs ad (S, n, h, g) ++ [])
    rw [List.append_nil]
    exact q.2.2.1.2
  refine va_mna (ty := .int) (cy := cs 0) (z := (K, .inl (fun _ => 0))) q.1.1 q.1.2.1 q.1.2.2.2.2.2.1 (by rw [show "[" ++ (FieldType.array .int).toString = "[[I" from by decide +kernel]; exact hts _ hw) hX.2.2.2.2.2.2.1 (hts _ (jj_mem 158 (by decide +kernel) (by decide +kernel))) (hK.2 0 (cs 0, .int) rfl).2 hK hP0 hD0 q.2.2.2.1 q.1.2.2.2.2.2.2.2.2.2.2.2.2.2.1 hv.1 hw2.1 hv.2 hw2.2 hbt.1 hbt.2 (by omega) rfl rfl (by omega) (by omega) (fun c => ?_) hd (fun a r cA H1 hinj hno hK2 hP hD hS => ?_)
  · exact arrV_new c K (.int 0)
  have hcA : cA = cs 4 := by
    have h1 : s.vm.findClass ("[" ++ (FieldType.array .int).toString) = some cA := (hK2.2 5 (cA, .array .int) rfl).2
    have h2 : s.vm.findClass ("[" ++ (FieldType.array .int).toString) = some (cs 4) := (hK.2 4 (cs 4, .array .int) rfl).2
    exact Option.some.inj (h1.symm.trans h2)
  subst hcA
  obtain ⟨ad2, had⟩ : ∃ f : Nat → Nat, f = fun i => if i = n then a else if n < i ∧ i < n + 1 + N then r (i - (n + 1)) else ad i := ⟨_, rfl⟩
  have hag : jj_ag n ad ad2 := fun i hi => by
    have h1 : i ≠ n := by omega
    have h2 : ¬ (n < i ∧ i < n + 1 + N) := by omega
    rw [had]
    show (if i = n then a else if n < i ∧ i < n + 1 + N then r (i - (n + 1)) else ad i) = ad i
    rw [if_neg h1, if_neg h2]
  have han : ad2 n = a := by rw [had]; exact if_pos rfl
  have har : ∀ j, j < N → ad2 (n + 1 + j) = r j := fun j hj => by
    rw [had]
    show (if n + 1 + j = n then a else if n < n + 1 + j ∧ n + 1 + j < n + 1 + N then r (n + 1 + j - (n + 1)) else ad (n + 1 + j)) = r j
    rw [if_neg (by omega), if_pos (by omega), show n + 1 + j - (n + 1) = j by omega]
  have hlow : ∀ i, i < n → ad2 i = ad i := fun i hi => hag i (Or.inl hi)
  have hW : jj_W cs ad2 (S, n + 1 + N, h, g) = (jj_W cs ad (S, n, h, g) ++ [(a, .inl (cs 4, N, .inr (.inr (.inr (.inr (fun i => if i < N then some (r i) else none))))))]) ++ va_pl ([] ++ (List.range N).map r) (vr_up (fun _ => (.inl (cs 0, 0, .inl (fun _ => 0)) : va_E)) ((List.range N).map r) (.inl (cs 0, K, .inl (fun _ => 0)))) := by
    have e9 : jj_ce cs ad2 (S n) (h n) (g n) = (.inl (cs 4, N, .inr (.inr (.inr (.inr (fun i => if i < N then some (r i) else none))))) : va_E) := by
      rw [hs]
      have e8 : (fun j => if j < N then some (ad2 (n + 1 + j)) else none) = fun i => if i < N then some (r i) else none := by
        funext j
        by_cases hj : j < N
        · rw [if_pos hj, if_pos hj, har j hj]
        · rw [if_neg hj, if_neg hj]
      show (Sum.inl (cs 4, N, .inr (.inr (.inr (.inr (fun j => if j < N then some (ad2 (n + 1 + j)) else none))))) : va_E) = _
      rw [e8]
    have e10 : (List.range N).map (fun i => (ad2 (n + 1 + i), jj_ce cs ad2 (S (n + 1 + i)) (h (n + 1 + i)) (g (n + 1 + i)))) = va_pl ([] ++ (List.range N).map r) (vr_up (fun _ => (.inl (cs 0, 0, .inl (fun _ => 0)) : va_E)) ((List.range N).map r) (.inl (cs 0, K, .inl (fun _ => 0)))) := by
      unfold va_pl
      rw [List.nil_append, List.map_map]
      apply List.map_congr_left
      intro i hi
      have hi2 : i < N := List.mem_range.mp hi
      show (ad2 (n + 1 + i), jj_ce cs ad2 (S (n + 1 + i)) (h (n + 1 + i)) (g (n + 1 + i))) = (r i, vr_up _ _ _ (r i))
      rw [har i hi2, hrow i hi2, vr_up_in (List.mem_map.mpr ⟨i, hi, rfl⟩)]
      show (r i, (Sum.inl (cs 0, K, .inl (h (n + 1 + i))) : va_E)) = _
      rw [show h (n + 1 + i) = fun _ => 0 from funext fun j => hf.2.1 (n + 1 + i) (by omega) j]
    rw [jj_W_app N, jj_W_snoc, jj_W_fr hf.1 hlow, han, e9, e10]
  have hwo : jj_wo D cs ad2 A (S, n + 1 + N, h, g) H1 := by
    unfold jj_wo
    rw [hW]
    exact ⟨hP, hD⟩
  have hls' : ∀ z ∈ ls, ∀ i, z.2 = .ref i → (i < n ∨ 999997 ≤ i) := fun z hz i hi => jj_rk_of (n := n) (vs := [z.2]) (fun v hv => by rw [List.mem_singleton.mp hv]; exact hls z hz) z.2 List.mem_cons_self i hi
  have hC2 := jj_cap (τ2 := (S, n + 1 + N, h, g)) q hls' hag (show n ≤ n + 1 + N by omega) hwo (fun _ z => z) hS (kc3 := kc2) (ks3 := ks2) (cells1 := cells + 1 + N) (slots1 := slots + N + N * K) ⟨by omega, by omega⟩
  have hk := k hfr p l e R s m args below meth c H1 locs (cells + 1 + N) (slots + N + N * K) D cs A ad2 n0 ad0 L hC2
  have e3 : (Value.ref n :: st).map (jj_cz ad2) = .ref a :: st.map (jj_cz ad) := by
    rw [List.map_cons, jj_stk (jj_rk_of hst) hag]
    show Value.ref (ad2 n) :: _ = _
    rw [han]
  rw [e3] at hk
  exact hk
/-- a final field in a constructor; an int; a 0 where 0 stands -/
theorem cr_putF {o ci k r : Nat} {sl : List (Option (Bool × Nat))} (ty : FieldType) (hd : jj_D M.2.1 pc (.putfield idx) 3 pc2) (hfl : jj_F M.1.cls idx ci k) (hfi : ∀ (C2 : String) (T : u_T) (N : Nat), jj_cl[ci]? = some (C2, T, N) → (T k).2.2.2 = true ∧ (T k).1 = M.1.cls ∧ parseFieldDescriptor (T k).2.2.1 = some ty) (hnf : ∀ a : Nat, narrow ty (.ref a) = .ref a ∧ fits ty (.ref a) = true) (hM : M.1.name = "<init>") (ho : o < n) (hs : S o = .inl (ci, sl)) (hk : sl[k]? = some (some (true, r))) (hr : r < n) (hf : jj_fr S n h g) (kk : jj_fr S n (jj_u2 h o k 1) g → jj_R M d kc ks (S, n, jj_u2 h o k 1, g) pc2 ls st Q) : jj_R M d kc ks (S, n, h, g) pc ls (.ref r :: .ref o :: st) Q :=
  rr_putF ty hd hfl hfi hnf hM ho hs hk (kk (jj_fr_put (r := r) hf ho hs (fun b r2 e => by rw [hk] at e; cases e; exact hr)))
theorem cr_putI {o ci k : Nat} {sl : List (Option (Bool × Nat))} {v : Int32} (hd : jj_D M.2.1 pc (.putfield idx) 3 pc2) (hfl : jj_F M.1.cls idx ci k) (hfi : jj_Fi ci k) (ho : o < n) (hs : S o = .inl (ci, sl)) (hk : sl[k]? = some none) (hf : jj_fr S n h g) (kk : jj_fr S n (jj_u2 h o k v) g → jj_R M d kc ks (S, n, jj_u2 h o k v, g) pc2 ls st Q) : jj_R M d kc ks (S, n, h, g) pc ls (.int v :: .ref o :: st) Q :=
  rr_putI hd hfl hfi ho hs hk (kk (jj_fr_put (r := 0) hf ho hs (fun b r2 e => by rw [hk] at e; cases e)))
theorem jj_u2_no {o k : Nat} {v : Int32} (e : h o k = v) : jj_u2 h o k v = h := by
  funext a b
  by_cases q : a = o ∧ b = k
  · obtain ⟨rfl, rfl⟩ := q
    simp [jj_u2, e]
  · simp [jj_u2, q]
theorem cr_put0 {o ci k : Nat} {sl : List (Option (Bool × Nat))} {v : Int32} (hd : jj_D M.2.1 pc (.putfield idx) 3 pc2) (hfl : jj_F M.1.cls idx ci k) (hfi : jj_Fi ci k) (ho : o < n) (hs : S o = .inl (ci, sl)) (hk : sl[k]? = some none) (hz : h o k = v) (kk : jj_R M d kc ks (S, n, h, g) pc2 ls st Q) : jj_R M d kc ks (S, n, h, g) pc ls (.int v :: .ref o :: st) Q := by
  refine rr_putI hd hfl hfi ho hs hk ?_
  rw [jj_u2_no hz]
  exact kk
theorem cr_st0 {o len : Nat} {i x : Int32} (hd : jj_D M.2.1 pc .iastore 1 pc2) (ho : o < n) (hs : S o = .inr (.inl (0, len))) (hi : vp_in i len) (hz : h o i.toNatClampNeg = x) (kk : jj_R M d kc ks (S, n, h, g) pc2 ls st Q) : jj_R M d kc ks (S, n, h, g) pc ls (.int x :: .int i :: .ref o :: st) Q := by
  refine rr_iastore hd ho hs hi ?_
  rw [jj_u2_no hz]
  exact kk
end RN
/-- k cells of a row from lo on hold -1 -/
def jj_mi (o lo k : Nat) (h : Nat → Nat → Int32) : Nat → Nat → Int32 := fun a b => if a = o ∧ lo ≤ b ∧ b < lo + k then -1 else h a b
theorem jj_mi_0 {o lo : Nat} {h : Nat → Nat → Int32} : jj_mi o lo 0 h = h := by
  funext a b
  exact if_neg (by omega)
theorem jj_mi_ne {o lo k a : Nat} {h : Nat → Nat → Int32} (e : a ≠ o) : jj_mi o lo k h a = h a := by
  funext b
  exact if_neg (fun q => e q.1)
theorem jj_mi_s {o lo k : Nat} {h : Nat → Nat → Int32} : jj_u2 (jj_mi o lo k h) o (lo + k) (-1) = jj_mi o lo (k + 1) h := by
  funext a b
  unfold jj_u2 jj_mi
  by_cases e : a = o
  · by_cases e2 : b = lo + k
    · rw [if_pos ⟨e, e2⟩, if_pos (by omega)]
    · rw [if_neg (fun q => e2 q.2)]
      by_cases e3 : lo ≤ b ∧ b < lo + k
      · rw [if_pos ⟨e, e3⟩, if_pos (by omega)]
      · rw [if_neg (fun q => e3 q.2), if_neg (by omega)]
  · rw [if_neg (fun q => e q.1), if_neg (fun q => e q.1), if_neg (fun q => e q.1)]
