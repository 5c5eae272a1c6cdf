/-! ===== the abstract judgement: objects by numbers, contents by functions ===== -/
/-- a cell's shape: an object (its class, its slots: an int, a fixed reference, a reference or null) | a row of ints, bytes, booleans (kind, length) | a row of longs | a row of rows (length, number of the first row) -/
abbrev jj_Sh : Type := (Nat × List (Option (Bool × Nat))) ⊕ ((Nat × Nat) ⊕ (Nat ⊕ (Nat × Nat)))
/-- what cells hold: ints, longs -/
abbrev jj_Hp : Type := (Nat → Nat → Int32) × (Nat → Nat → Int64)
/-- shapes, how many cells there are, contents -/
abbrev jj_St : Type := (Nat → jj_Sh) × Nat × jj_Hp
/-- how a method ends: it returns, or throws -/
abbrev jj_Rs : Type := Option Value ⊕ String
/-- a method: name, code, locals, what it returns, handlers, the script if it is the law -/
abbrev jj_Mt : Type := MethodName × ByteArray × Nat × Option FieldType × List (Nat × Nat × Nat × Nat) × Option (Nat × (Nat → Int32))
def jj_cl : List vw_C := [(RX0, TX0, 10), (RX1, TX1, 5), (RX2, TX2, 7), (RX3, TX3, 3), (RX4, TX4, 6), (RX5, TX5, 9), (RX6, TX6, 7), (RX7, TX7, 7), (RX8, TX8, 10), (RX9, TX9, 15), (RX10, TX10, 46)]
def jj_tg : List Cond := lw_tbl.filter goodWord
theorem jj_mem {w : Cond} (i : Nat) (h : lw_tbl[i]? = some w) (hg : goodWord w = true) : w ∈ jj_tg := List.mem_filter.mpr ⟨List.mem_of_getElem? h, hg⟩
theorem jj_good {w : Cond} (h : w ∈ jj_tg) : (w.onTables && w.keeps) = true ∨ ∃ ty, w = .arrayClass ty := good_of_word (List.mem_filter.mp h).2
/-- a value: numbers of cells become addresses -/
def jj_cz (ad : Nat → Nat) (v : Value) : Value := match v with
  | .ref i => .ref (ad i)
  | w => w
def jj_sv (ad : Nat → Nat) (x : Int32) (k : Option (Bool × Nat)) : Value := match k with
  | none => .int x
  | some (false, r) => .ref (ad r)
  | some (true, r) => if x = 0 then .null else .ref (ad r)
def jj_fs (ad : Nat → Nat) (f : Nat → Int32) (sl : List (Option (Bool × Nat))) : List Value := (List.range sl.length).map fun k => jj_sv ad (f k) (sl.getD k none)
def jj_ce (cs : Nat → ClassId) (ad : Nat → Nat) (S : jj_Sh) (f : Nat → Int32) (g : Nat → Int64) : va_E := match S with
  | .inl (ci, sl) => .inr (ci, jj_fs ad f sl)
  | .inr (.inl (t, n)) => .inl (cs t, n, .inl f)
  | .inr (.inr (.inl n)) => .inl (cs 3, n, .inr (.inl g))
  | .inr (.inr (.inr (n, b))) => .inl (cs 4, n, .inr (.inr (.inr (.inr fun j => if j < n then some (ad (b + j)) else none))))
def jj_at (cs : Nat → ClassId) (ad : Nat → Nat) (τ : jj_St) (o : Nat) : Nat × va_E := (ad o, jj_ce cs ad (τ.1 o) (τ.2.2.1 o) (τ.2.2.2 o))
def jj_W (cs : Nat → ClassId) (ad : Nat → Nat) (τ : jj_St) : va_W := (List.range τ.2.1).map (jj_at cs ad τ)
theorem jj_W_get {cs : Nat → ClassId} {ad : Nat → Nat} {τ : jj_St} {o : Nat} (h : o < τ.2.1) : (jj_W cs ad τ)[o]? = some (jj_at cs ad τ o) := by
  unfold jj_W
  rw [List.getElem?_map, List.getElem?_range h]
  rfl
theorem jj_W_len {cs : Nat → ClassId} {ad : Nat → Nat} {τ : jj_St} : (jj_W cs ad τ).length = τ.2.1 := by simp [jj_W]
/-- the heap holds it -/
def jj_wo (D : va_G) (cs : Nat → ClassId) (ad : Nat → Nat) (A : Nat → Prop) (τ : jj_St) (H : Heap) : Prop := va_P D jj_cl (jj_W cs ad τ) H ∧ va_D A (jj_W cs ad τ)
def jj_ty (cs : Nat → ClassId) : List (ClassId × FieldType) := [(cs 0, .int), (cs 1, .byte), (cs 2, .boolean), (cs 3, .long), (cs 4, .array .int)]
/-- the String constants: the class, its entry, the text, the bytes -/
abbrev jj_Sc : Type := String × Nat × String × List Int32
def jj_u2 (h : Nat → Nat → Int32) (o k : Nat) (v : Int32) : Nat → Nat → Int32 := fun a b => if a = o ∧ b = k then v else h a b
def jj_u3 (h : Nat → Nat → Int64) (o k : Nat) (v : Int64) : Nat → Nat → Int64 := fun a b => if a = o ∧ b = k then v else h a b
theorem jj_u2_row {h : Nat → Nat → Int32} {o k : Nat} {v : Int32} : jj_u2 h o k v o = upd (h o) k v := by
  funext j
  by_cases e : j = k <;> simp [jj_u2, upd, e]
theorem jj_u2_ne {h : Nat → Nat → Int32} {o k a : Nat} {v : Int32} (e : a ≠ o) : jj_u2 h o k v a = h a := by
  funext j
  simp [jj_u2, e]
theorem jj_u3_row {h : Nat → Nat → Int64} {o k : Nat} {v : Int64} : jj_u3 h o k v o = vp_updL (h o) k v := by
  funext j
  by_cases e : j = k <;> simp [jj_u3, vp_updL, e]
theorem jj_u3_ne {h : Nat → Nat → Int64} {o k a : Nat} {v : Int64} (e : a ≠ o) : jj_u3 h o k v a = h a := by
  funext j
  simp [jj_u3, e]
/-- one cell of a world is changed -/
theorem jj_W_set {cs : Nat → ClassId} {ad : Nat → Nat} {τ τ' : jj_St} {o : Nat} {e : va_E} (hn : τ'.2.1 = τ.2.1) (ho : jj_at cs ad τ' o = (ad o, e)) (hx : ∀ a, a ≠ o → jj_at cs ad τ' a = jj_at cs ad τ a) : (jj_W cs ad τ).set o (ad o, e) = jj_W cs ad τ' := by
  apply List.ext_getElem?
  intro a
  by_cases h : a = o
  · subst h
    by_cases hl : a < τ.2.1
    · rw [List.getElem?_set_self (by rw [jj_W_len]; exact hl), jj_W_get (by rw [hn]; exact hl), ho]
    · rw [List.getElem?_eq_none (by rw [List.length_set, jj_W_len]; omega), List.getElem?_eq_none (by rw [jj_W_len, hn]; omega)]
  · rw [List.getElem?_set_ne (fun q => h q.symm)]
    by_cases hl : a < τ.2.1
    · rw [jj_W_get hl, jj_W_get (by rw [hn]; exact hl), hx a h]
    · rw [List.getElem?_eq_none (by rw [jj_W_len]; omega), List.getElem?_eq_none (by rw [jj_W_len, hn]; omega)]
theorem jj_fs_get {ad : Nat → Nat} {f : Nat → Int32} {sl : List (Option (Bool × Nat))} {k : Nat} {x : Option (Bool × Nat)} (h : sl[k]? = some x) : (jj_fs ad f sl)[k]? = some (jj_sv ad (f k) x) := by
  have hl : k < sl.length := (List.getElem?_eq_some_iff.mp h).1
  unfold jj_fs
  rw [List.getElem?_map, List.getElem?_range hl]
  simp [List.getD, h]
theorem jj_fs_len {ad : Nat → Nat} {f : Nat → Int32} {sl : List (Option (Bool × Nat))} : (jj_fs ad f sl).length = sl.length := by simp [jj_fs]
theorem jj_fs_set {ad : Nat → Nat} {f : Nat → Int32} {sl : List (Option (Bool × Nat))} {k : Nat} {x : Option (Bool × Nat)} {v : Int32} (h : sl[k]? = some x) : (jj_fs ad f sl).set k (jj_sv ad v x) = jj_fs ad (upd f k v) sl := by
  have hl : k < sl.length := (List.getElem?_eq_some_iff.mp h).1
  apply List.ext_getElem?
  intro a
  by_cases e : a = k
  · subst e
    rw [List.getElem?_set_self (by rw [jj_fs_len]; exact hl), jj_fs_get h]
    simp [upd]
  · rw [List.getElem?_set_ne (fun q => e q.symm)]
    by_cases ha : a < sl.length
    · rw [jj_fs_get (List.getElem?_eq_getElem ha), jj_fs_get (List.getElem?_eq_getElem ha)]
      simp [upd, e]
    · rw [List.getElem?_eq_none (by rw [jj_fs_len]; omega), List.getElem?_eq_none (by rw [jj_fs_len]; omega)]
/-! what lies outside: String constants, two statics, words that aren't kept as such -/
def jj_nk (w : Cond) : Bool := match w with
  | .castable .. => true
  | .declares _ => true
  | .methodLinkNest .. => true
  | _ => false
def jj_nt : List Cond := lw_tbl.filter jj_nk
theorem jj_ntm {w : Cond} (i : Nat) (h : lw_tbl[i]? = some w) (hg : jj_nk w = true) : w ∈ jj_nt := List.mem_filter.mpr ⟨List.mem_of_getElem? h, hg⟩
def jj_X (ss : List jj_Sc) (A : Nat → Prop) (ad : Nat → Nat) (U : State) (H : Heap) : Prop :=
  (∀ (i : Nat) (q : jj_Sc), ss[i]? = some q → va_O "java/lang/String" (ad (1000000 + i)) A U H ∧ va_OF "java/lang/String" "coder" "B" (.int 0) (ad (1000000 + i)) A U H ∧ va_OF "java/lang/String" "value" "[B" (.ref (ad (2000000 + i))) (ad (1000000 + i)) A U H ∧ va_T .byte (ad (2000000 + i)) q.2.2.2.length (fun j => .int (q.2.2.2.getD j 0)) A U H ∧ vk_R q.1 q.2.1 q.2.2.1 (ad (1000000 + i)) U) ∧
  va_Z "java/lang/String" "COMPACT_STRINGS" "Z" (.int 1) A U H ∧ vx_Zq Bundle.tN "UNASSIGNED_STACK" Bundle.steD A U H ∧ vx_Zq Bundle.tN "SUPPRESSED_SENTINEL" Bundle.listD A U H ∧ (∀ w ∈ jj_nt, va_Nw w U) ∧ va_Nc "java/lang/IllegalArgumentException" "java/util/NoSuchElementException" U ∧ va_AOA .int U ∧
  (va_Z "jdk/internal/util/Preconditions" "SIOOBE_FORMATTER" "Ljava/util/function/BiFunction;" .null A U H ∨ va_Z "jdk/internal/util/Preconditions" "SIOOBE_FORMATTER" "Ljava/util/function/BiFunction;" (.ref (ad 999997)) A U H)
theorem jj_AOA_moved {u U : State} (hvm : u.vm.Alike U.vm) (h : va_AOA .int u) : va_AOA .int U := by
  unfold va_AOA Cond.before Cond.holds at *
  exact arrayOver_alikeB hvm h
theorem jj_X.to {ss : List jj_Sc} {A B : Nat → Prop} {ad : Nat → Nat} {u U : State} {H H1 : Heap} (h : jj_X ss A ad u H) (hW : u.WarmedH U.vm) (hq : ∀ a : Nat, a < H.size → ¬ A a → H1[a]? = H[a]?) (hAB : ∀ q, B q → A q) : jj_X ss B ad U H1 := by
  obtain ⟨h1, h2, h3, h4, h5, h6, h7, h8⟩ := h
  have hv := hW.alike
  refine ⟨fun i q hi => ?_, ((h2.moved hv).kept hq).narrow hAB, ((h3.moved hv).kept hq).narrow hAB, ((h4.moved hv).kept hq).narrow hAB, fun w hw => ?_, h6.moved hv, jj_AOA_moved hv h7, h8.imp (fun z => ((z.moved hv).kept hq).narrow hAB) (fun z => ((z.moved hv).kept hq).narrow hAB)⟩
  · obtain ⟨a1, a2, a3, a4, a5⟩ := h1 i q hi
    exact ⟨((a1.moved hv).kept hq).narrow hAB, ((a2.moved hv).kept hq).narrow hAB, ((a3.moved hv).kept hq).narrow hAB, ((a4.moved hv).kept hq).narrow hAB, a5.warm hW⟩
  · have h9 := h5 w hw
    have hk := (List.mem_filter.mp hw).2
    cases w <;> first | (simp [jj_nk] at hk; done) | exact va_Nw.warmC hW h9 | exact va_Nw.warmD hW h9 | exact va_Nw.warmM hW h9
def jj_ag (n : Nat) (ad ad' : Nat → Nat) : Prop := ∀ i : Nat, (i < n ∨ 999997 ≤ i) → ad' i = ad i
theorem jj_ag.rf {n : Nat} {ad : Nat → Nat} : jj_ag n ad ad := fun _ _ => rfl
theorem jj_ag.tr {n k : Nat} {a b c : Nat → Nat} (h : jj_ag n a b) (h2 : jj_ag k b c) (hk : n ≤ k) : jj_ag n a c := fun i hi => (h2 i (hi.imp_left (fun q => Nat.lt_of_lt_of_le q hk))).trans (h i hi)
theorem jj_X.ag {ss : List jj_Sc} {A : Nat → Prop} {n : Nat} {ad ad' : Nat → Nat} {U : State} {H : Heap} (h : jj_X ss A ad U H) (ha : jj_ag n ad ad') : jj_X ss A ad' U H := by
  obtain ⟨h1, h2, h3, h4, h5, h6, h7, h8⟩ := h
  rw [← ha 999997 (Or.inr (Nat.le_refl _))] at h8
  refine ⟨fun i q hi => ?_, h2, h3, h4, h5, h6, h7, h8⟩
  rw [ha (1000000 + i) (Or.inr (by omega)), ha (2000000 + i) (Or.inr (by omega))]
  exact h1 i q hi
def jj_ss : List jj_Sc := [("DayLaces", 374, "an argument is not among those the document names", [97, 110, 32, 97, 114, 103, 117, 109, 101, 110, 116, 32, 105, 115, 32, 110, 111, 116, 32, 97, 109, 111, 110, 103, 32, 116, 104, 111, 115, 101, 32, 116, 104, 101, 32, 100, 111, 99, 117, 109, 101, 110, 116, 32, 110, 97, 109, 101, 115]),
  ("DayLaces$Street", 53, "person", [112, 101, 114, 115, 111, 110]),
  ("DayLaces$Street", 59, "friend", [102, 114, 105, 101, 110, 100]),
  ("DayLaces$Street", 61, "string", [115, 116, 114, 105, 110, 103]),
  ("DayLaces$Law", 106, "fingers", [102, 105, 110, 103, 101, 114, 115]),
  ("DayLaces$Law", 108, "haste", [104, 97, 115, 116, 101]),
  ("DayLaces$Law", 110, "behind", [98, 101, 104, 105, 110, 100]),
  ("DayLaces$Law", 112, "double", [100, 111, 117, 98, 108, 101]),
  ("DayLaces$Law", 114, "friend", [102, 114, 105, 101, 110, 100]),
  ("DayLaces$Law", 116, "self", [115, 101, 108, 102]),
  ("DayLaces$Law", 118, "slips", [115, 108, 105, 112, 115]),
  ("DayLaces$Law", 120, "day", [100, 97, 121]),
  ("DayLaces$Law", 85, "least", [108, 101, 97, 115, 116]),
  ("DayLaces$Law", 91, "most", [109, 111, 115, 116]),
  ("DayLaces$Work", 69, "tie", [116, 105, 101]),
  ("DayLaces$Work", 75, "double", [100, 111, 117, 98, 108, 101]),
  ("DayLaces$Work", 77, "cut", [99, 117, 116]),
  ("DayLaces$Work", 79, "mend", [109, 101, 110, 100]),
  ("DayLaces$Work", 81, "undo", [117, 110, 100, 111]),
  ("DayLaces$Work", 83, "day", [100, 97, 121]),
  ("DayLaces$Work", 85, "again", [97, 103, 97, 105, 110]),
  ("DayLaces", 381, "no such person", [110, 111, 32, 115, 117, 99, 104, 32, 112, 101, 114, 115, 111, 110])]
/-! ===== a method's stand, and the judgement ===== -/
def jj_E (M : jj_Mt) (d : Nat) (p : Program) (l : Launch) (R : Room) (s : State) (m : MethodId) (args : Array Value) (meth : Method) (c : Code) (D : va_G) (cs : Nat → ClassId) (A : Nat → Prop) (ad : Nat → Nat) : Prop :=
  p.tables.exec = Jvm.exec ∧ c.code = M.2.1 ∧ c.maxLocals = M.2.2.1 ∧ meth.sig.returnType = M.2.2.2.1 ∧ meth.locks = false ∧ s.vm.findClass M.1.cls = some m.cls ∧ meth.name = M.1.name ∧ (∀ w ∈ jj_tg, w.before args s = true) ∧ c.exceptionTable.toList = tableOf M.2.2.2.2.1 ∧ d ≤ R.frames ∧ 64 * d ≤ R.locals ∧ l.stackTraces = false ∧ va_K D jj_cl (jj_ty cs) s ∧ (∀ q : Nat, s.heap.size ≤ q → A q) ∧ jj_X jj_ss A ad s s.heap ∧
  (∀ (n : Nat) (xs : Nat → Int32), M.2.2.2.2.2 = some (n, xs) → va_X (ad 999998) n xs s s.heap ∧ ad 999998 < s.heap.size ∧ ¬ A (ad 999998))
/-- what a method owes when it returns, when it throws -/
def jj_Qc (D : va_G) (cs : Nat → ClassId) (A : Nat → Prop) (ad0 : Nat → Nat) (n0 : Nat) (Q : jj_Rs → jj_St → Prop) : Array Value → State → Outcome → State → Prop := fun _ st o t =>
  (∃ (v : Option Value) (τ : jj_St) (ad : Nat → Nat), o = .returned (v.map (jj_cz ad)) ∧ Q (.inl v) τ ∧ jj_ag n0 ad0 ad ∧ n0 ≤ τ.2.1 ∧ jj_wo D cs ad A τ t.heap) ∧ va_F A st t
def jj_Xc (D : va_G) (cs : Nat → ClassId) (A : Nat → Prop) (ad0 : Nat → Nat) (n0 : Nat) (Q : jj_Rs → jj_St → Prop) : String → State → State → Prop := fun E st t =>
  (∃ (τ : jj_St) (ad : Nat → Nat), Q (.inr E) τ ∧ jj_ag n0 ad0 ad ∧ n0 ≤ τ.2.1 ∧ jj_wo D cs ad A τ t.heap) ∧ va_F A st t
/-- where a method stands -/
def jj_C (M : jj_Mt) (d kc ks : Nat) (τ : jj_St) (ls : List (Nat × Value)) (p : Program) (l : Launch) (R : Room) (s : State) (m : MethodId) (args : Array Value) (meth : Method) (c : Code) (H : Heap) (locs : List Loc) (cells slots : Nat) (D : va_G) (cs : Nat → ClassId) (A : Nat → Prop) (ad : Nat → Nat) (n0 : Nat) (ad0 : Nat → Nat) (L : Array Slot) : Prop :=
  jj_E M d p l R s m args meth c D cs A ad ∧ (cells + kc ≤ R.cells ∧ slots + ks ≤ R.slots) ∧ jj_wo D cs ad A τ H ∧ va_S A s.heap H locs ∧ n0 ≤ τ.2.1 ∧ jj_ag n0 ad0 ad ∧ lv_has L M.2.2.1 (ls.map fun q => (q.1, jj_cz ad q.2))
/-- THE JUDGEMENT: from pc, with these locals and this stack over the cells τ, the method comes to its end, and Q holds of how it ends and of the cells then; kc cells of ks slots at most are made, d frames at most are laid -/
def jj_R (M : jj_Mt) (d kc ks : Nat) (τ : jj_St) (pc : Nat) (ls : List (Nat × Value)) (st : List Value) (Q : jj_Rs → jj_St → Prop) : Prop :=
  ∀ (p : Program) (l : Launch) (e : Env) (R : Room) (s : State) (m : MethodId) (args : Array Value) (below : List Frame) (meth : Method) (c : Code) (H : Heap) (locs : List Loc) (cells slots : Nat) (D : va_G) (cs : Nat → ClassId) (A : Nat → Prop) (ad : Nat → Nat) (n0 : Nat) (ad0 : Nat → Nat) (L : Array Slot),
    jj_C M d kc ks τ ls p l R s m args meth c H locs cells slots D cs A ad n0 ad0 L →
    W p l e R s m args below meth c H locs cells slots (vx_MQ below (jj_Qc D cs A ad0 n0 Q) (jj_Xc D cs A ad0 n0 Q) args s R.cells R.slots A) (F0 m pc L (st.map (jj_cz ad)))
theorem jj_loc {M : jj_Mt} {d kc ks : Nat} {τ : jj_St} {ls : List (Nat × Value)} {p : Program} {l : Launch} {R : Room} {s : State} {m : MethodId} {args : Array Value} {meth : Method} {c : Code} {H : Heap} {locs : List Loc} {cells slots : Nat} {D : va_G} {cs : Nat → ClassId} {A : Nat → Prop} {ad : Nat → Nat} {n0 : Nat} {ad0 : Nat → Nat} {L : Array Slot}
    (h : jj_C M d kc ks τ ls p l R s m args meth c H locs cells slots D cs A ad n0 ad0 L) (j : Nat) {i : Nat} {v : Value} (hj : ls[j]? = some (i, v)) : L[i]? = some (.val (jj_cz ad v)) :=
  h.2.2.2.2.2.2.2.2 (i, jj_cz ad v) (List.mem_map.mpr ⟨(i, v), List.mem_of_getElem? hj, rfl⟩)
theorem jj_locs {M : jj_Mt} {d kc ks : Nat} {τ : jj_St} {ls ls' : List (Nat × Value)} {p : Program} {l : Launch} {R : Room} {s : State} {m : MethodId} {args : Array Value} {meth : Method} {c : Code} {H : Heap} {locs : List Loc} {cells slots : Nat} {D : va_G} {cs : Nat → ClassId} {A : Nat → Prop} {ad : Nat → Nat} {n0 : Nat} {ad0 : Nat → Nat} {L L' : Array Slot}
    (h : jj_C M d kc ks τ ls p l R s m args meth c H locs cells slots D cs A ad n0 ad0 L) (hl : lv_has L' M.2.2.1 (ls'.map fun q => (q.1, jj_cz ad q.2))) : jj_C M d kc ks τ ls' p l R s m args meth c H locs cells slots D cs A ad n0 ad0 L' :=
  ⟨h.1, h.2.1, h.2.2.1, h.2.2.2.1, h.2.2.2.2.1, h.2.2.2.2.2.1, hl⟩
/-- a local is stored -/
def jj_put (i : Nat) (v : Value) : List (Nat × Value) → List (Nat × Value)
  | [] => [(i, v)]
  | q :: r => if q.1 < i then (if q.1 + 1 = i ∧ q.2.category = 2 then jj_put i v r else q :: jj_put i v r) else (i, v) :: (q :: r).filter (fun z => !(z.1 == i) && (!(z.1 + 1 == i && z.2.category == 2) && !(z.1 == i + 1 && v.category == 2)))
theorem jj_put_mem {i : Nat} {v : Value} {q : Nat × Value} : ∀ ls : List (Nat × Value), q ∈ jj_put i v ls → q = (i, v) ∨ (q ∈ ls ∧ q.1 ≠ i ∧ ¬ (q.1 + 1 = i ∧ q.2.category = 2) ∧ ¬ (q.1 = i + 1 ∧ v.category = 2))
  | [], h => by
    simp only [jj_put, List.mem_singleton] at h
    exact Or.inl h
  | z :: r, h => by
    rw [jj_put] at h
    by_cases h1 : z.1 < i
    · rw [if_pos h1] at h
      by_cases h2 : z.1 + 1 = i ∧ z.2.category = 2
      · rw [if_pos h2] at h
        exact (jj_put_mem r h).imp_right (fun w => ⟨List.mem_cons_of_mem _ w.1, w.2⟩)
      · rw [if_neg h2] at h
        rcases List.mem_cons.mp h with rfl | h
        · exact Or.inr ⟨List.mem_cons_self, by omega, h2, by omega⟩
        · exact (jj_put_mem r h).imp_right (fun w => ⟨List.mem_cons_of_mem _ w.1, w.2⟩)
    · rw [if_neg h1] at h
      rcases List.mem_cons.mp h with rfl | h
      · exact Or.inl rfl
      · obtain ⟨a, b⟩ := List.mem_filter.mp h
        simp only [Bool.and_eq_true, Bool.not_eq_true', beq_eq_false_iff_ne, ne_eq, Bool.and_eq_false_iff] at b
        refine Or.inr ⟨a, b.1, fun w => ?_, fun w => ?_⟩
        · rcases b.2.1 with x | x
          · exact x w.1
          · exact x w.2
        · rcases b.2.2 with x | x
          · exact x w.1
          · exact x w.2
theorem jj_cz_cat {ad : Nat → Nat} {v : Value} : (jj_cz ad v).category = v.category := by cases v <;> rfl
theorem jj_put1 {ad : Nat → Nat} {nL i : Nat} {v w : Value} {ls ls' : List (Nat × Value)} {L L' : Array Slot} (hv : jj_cz ad v = w) (hp : jj_put i v ls = ls') (hl : lv_has L' nL ((i, w) :: (ls.map fun q => (q.1, jj_cz ad q.2)).filter (fun q => !(q.1 == i) && !(q.1 + 1 == i && q.2.category == 2)))) : lv_has L' nL (ls'.map fun q => (q.1, jj_cz ad q.2)) := by
  refine ⟨hl.1, hl.2.1, fun q hq => hl.2.2 q ?_⟩
  obtain ⟨z, hz, rfl⟩ := List.mem_map.mp hq
  rw [← hp] at hz
  rcases jj_put_mem ls hz with rfl | ⟨h1, h2, h3, h4⟩
  · dsimp only; rw [hv]; exact List.mem_cons_self
  · refine List.mem_cons_of_mem _ (List.mem_filter.mpr ⟨List.mem_map.mpr ⟨z, h1, rfl⟩, ?_⟩)
    simp only [Bool.and_eq_true, Bool.not_eq_true', beq_eq_false_iff_ne, ne_eq, Bool.and_eq_false_iff, jj_cz_cat]
    refine ⟨h2, ?_⟩
    by_cases e : z.1 + 1 = i
    · exact Or.inr (fun x => h3 ⟨e, x⟩)
    · exact Or.inl e
theorem jj_put2 {ad : Nat → Nat} {nL i : Nat} {v w : Value} {ls ls' : List (Nat × Value)} {L L' : Array Slot} (hv : jj_cz ad v = w) (hc : v.category = 2) (hp : jj_put i v ls = ls') (hl : lv_has L' nL ((i, w) :: (ls.map fun q => (q.1, jj_cz ad q.2)).filter (fun q => !(q.1 == i) && (!(q.1 == i + 1) && !(q.1 + 1 == i && q.2.category == 2))))) : lv_has L' nL (ls'.map fun q => (q.1, jj_cz ad q.2)) := by
  refine ⟨hl.1, hl.2.1, fun q hq => hl.2.2 q ?_⟩
  obtain ⟨z, hz, rfl⟩ := List.mem_map.mp hq
  rw [← hp] at hz
  rcases jj_put_mem ls hz with rfl | ⟨h1, h2, h3, h4⟩
  · dsimp only; rw [hv]; exact List.mem_cons_self
  · refine List.mem_cons_of_mem _ (List.mem_filter.mpr ⟨List.mem_map.mpr ⟨z, h1, rfl⟩, ?_⟩)
    simp only [Bool.and_eq_true, Bool.not_eq_true', beq_eq_false_iff_ne, ne_eq, Bool.and_eq_false_iff, jj_cz_cat]
    refine ⟨h2, fun x => h4 ⟨x, hc⟩, ?_⟩
    by_cases e : z.1 + 1 = i
    · exact Or.inr (fun x => h3 ⟨e, x⟩)
    · exact Or.inl e
