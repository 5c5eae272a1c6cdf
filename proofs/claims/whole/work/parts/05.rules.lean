/-! ===== the rules of the judgement, an instruction each ===== -/
def jj_D (b : ByteArray) (pc : Nat) (i : Instr) (n pc2 : Nat) : Prop := decode b pc = .ok (i, n) ∧ pc + n = pc2
def jj_J (b : ByteArray) (pc : Nat) (i : Int → Instr) (pc2 tgt : Nat) : Prop := ∃ off : Int, decode b pc = .ok (i off, 3) ∧ pc + 3 = pc2 ∧ (pc : Int) + off = (tgt : Int)
section RR
variable {M : jj_Mt} {d kc ks : Nat} {τ : jj_St} {pc pc2 : Nat} {ls : List (Nat × Value)} {st : List Value} {Q : jj_Rs → jj_St → Prop}
theorem rr_iconst {n : Int} (v : Int32) (hv : Int32.ofInt n = v) (hd : jj_D M.2.1 pc (.iconst n) 1 pc2) (k : jj_R M d kc ks τ pc2 ls (.int v :: st) Q) : jj_R M d kc ks τ pc ls (st) Q := by
  obtain ⟨hd, rfl⟩ := hd
  intro p l e R s m args below meth c H locs cells slots D cs A ad n0 ad0 L h
  exact lv_iconst h.1.1 h.1.2.1 hd hv (k p l e R s m args below meth c H locs cells slots D cs A ad n0 ad0 L h)
theorem rr_bipush {n : Int} (v : Int32) (hv : (Int8.ofInt n).toInt32 = v) (hd : jj_D M.2.1 pc (.bipush n) 2 pc2) (k : jj_R M d kc ks τ pc2 ls (.int v :: st) Q) : jj_R M d kc ks τ pc ls (st) Q := by
  obtain ⟨hd, rfl⟩ := hd
  intro p l e R s m args below meth c H locs cells slots D cs A ad n0 ad0 L h
  exact lv_bipush h.1.1 h.1.2.1 hd hv (k p l e R s m args below meth c H locs cells slots D cs A ad n0 ad0 L h)
theorem rr_sipush {n : Int} (v : Int32) (hv : (Int16.ofInt n).toInt32 = v) (hd : jj_D M.2.1 pc (.sipush n) 3 pc2) (k : jj_R M d kc ks τ pc2 ls (.int v :: st) Q) : jj_R M d kc ks τ pc ls (st) Q := by
  obtain ⟨hd, rfl⟩ := hd
  intro p l e R s m args below meth c H locs cells slots D cs A ad n0 ad0 L h
  exact lv_sipush h.1.1 h.1.2.1 hd hv (k p l e R s m args below meth c H locs cells slots D cs A ad n0 ad0 L h)
theorem rr_lconst {n : Fin 2} (v : Int64) (hv : Int64.ofNat (n : Nat) = v) (hd : jj_D M.2.1 pc (.lconst n) 1 pc2) (k : jj_R M d kc ks τ pc2 ls (.long v :: st) Q) : jj_R M d kc ks τ pc ls (st) Q := by
  obtain ⟨hd, rfl⟩ := hd
  intro p l e R s m args below meth c H locs cells slots D cs A ad n0 ad0 L h
  exact lv_lconst h.1.1 h.1.2.1 hd hv (k p l e R s m args below meth c H locs cells slots D cs A ad n0 ad0 L h)
theorem rr_iload_n {kf : Fin 4} {x : Int32} (j : Nat) {i : Nat} (hj : ls[j]? = some (i, .int x)) (hi : (kf : Nat) = i) (hd : jj_D M.2.1 pc (.iload_n kf) 1 pc2) (k : jj_R M d kc ks τ pc2 ls (.int x :: st) Q) : jj_R M d kc ks τ pc ls (st) Q := by
  obtain ⟨hd, rfl⟩ := hd
  intro p l e R s m args below meth c H locs cells slots D cs A ad n0 ad0 L h
  exact lv_iload_n h.1.1 h.1.2.1 hd hi (jj_loc h j hj) (k p l e R s m args below meth c H locs cells slots D cs A ad n0 ad0 L h)
theorem rr_iload {x : Int32} (j : Nat) {i : Nat} (hj : ls[j]? = some (i, .int x)) (hd : jj_D M.2.1 pc (.iload i) 2 pc2) (k : jj_R M d kc ks τ pc2 ls (.int x :: st) Q) : jj_R M d kc ks τ pc ls (st) Q := by
  obtain ⟨hd, rfl⟩ := hd
  intro p l e R s m args below meth c H locs cells slots D cs A ad n0 ad0 L h
  exact lv_iload h.1.1 h.1.2.1 hd (jj_loc h j hj) (k p l e R s m args below meth c H locs cells slots D cs A ad n0 ad0 L h)
theorem rr_lload_n {kf : Fin 4} {x : Int64} (j : Nat) {i : Nat} (hj : ls[j]? = some (i, .long x)) (hi : (kf : Nat) = i) (hd : jj_D M.2.1 pc (.lload_n kf) 1 pc2) (k : jj_R M d kc ks τ pc2 ls (.long x :: st) Q) : jj_R M d kc ks τ pc ls (st) Q := by
  obtain ⟨hd, rfl⟩ := hd
  intro p l e R s m args below meth c H locs cells slots D cs A ad n0 ad0 L h
  exact lv_lload_n h.1.1 h.1.2.1 hd hi (jj_loc h j hj) (k p l e R s m args below meth c H locs cells slots D cs A ad n0 ad0 L h)
theorem rr_lload {x : Int64} (j : Nat) {i : Nat} (hj : ls[j]? = some (i, .long x)) (hd : jj_D M.2.1 pc (.lload i) 2 pc2) (k : jj_R M d kc ks τ pc2 ls (.long x :: st) Q) : jj_R M d kc ks τ pc ls (st) Q := by
  obtain ⟨hd, rfl⟩ := hd
  intro p l e R s m args below meth c H locs cells slots D cs A ad n0 ad0 L h
  exact lv_lload h.1.1 h.1.2.1 hd (jj_loc h j hj) (k p l e R s m args below meth c H locs cells slots D cs A ad n0 ad0 L h)
theorem rr_aload_n {kf : Fin 4} {x : Nat} (j : Nat) {i : Nat} (hj : ls[j]? = some (i, .ref x)) (hi : (kf : Nat) = i) (hd : jj_D M.2.1 pc (.aload_n kf) 1 pc2) (k : jj_R M d kc ks τ pc2 ls (.ref x :: st) Q) : jj_R M d kc ks τ pc ls (st) Q := by
  obtain ⟨hd, rfl⟩ := hd
  intro p l e R s m args below meth c H locs cells slots D cs A ad n0 ad0 L h
  exact lv_aload_n h.1.1 h.1.2.1 hd hi (jj_loc h j hj) (k p l e R s m args below meth c H locs cells slots D cs A ad n0 ad0 L h)
theorem rr_aload {x : Nat} (j : Nat) {i : Nat} (hj : ls[j]? = some (i, .ref x)) (hd : jj_D M.2.1 pc (.aload i) 2 pc2) (k : jj_R M d kc ks τ pc2 ls (.ref x :: st) Q) : jj_R M d kc ks τ pc ls (st) Q := by
  obtain ⟨hd, rfl⟩ := hd
  intro p l e R s m args below meth c H locs cells slots D cs A ad n0 ad0 L h
  exact lv_aload h.1.1 h.1.2.1 hd (jj_loc h j hj) (k p l e R s m args below meth c H locs cells slots D cs A ad n0 ad0 L h)
theorem rr_istore_n {kf : Fin 4} {x : Int32} {i : Nat} (ls2 : List (Nat × Value)) (hd : jj_D M.2.1 pc (.istore_n kf) 1 pc2) (hi : (kf : Nat) = i) (hn : i < M.2.2.1) (hp : jj_put i (.int x) ls = ls2) (k : jj_R M d kc ks τ pc2 ls2 st Q) : jj_R M d kc ks τ pc ls (.int x :: st) Q := by
  obtain ⟨hd, rfl⟩ := hd
  intro p l e R s m args below meth c H locs cells slots D cs A ad n0 ad0 L h
  exact lv_istore_n h.1.1 h.1.2.1 hd hi h.2.2.2.2.2.2 hn rfl (fun L2 hl => k p l e R s m args below meth c H locs cells slots D cs A ad n0 ad0 L2 (jj_locs h (jj_put1 rfl (L := L) hp hl)))
theorem rr_istore {x : Int32} {i : Nat} (ls2 : List (Nat × Value)) (hd : jj_D M.2.1 pc (.istore i) 2 pc2) (hn : i < M.2.2.1) (hp : jj_put i (.int x) ls = ls2) (k : jj_R M d kc ks τ pc2 ls2 st Q) : jj_R M d kc ks τ pc ls (.int x :: st) Q := by
  obtain ⟨hd, rfl⟩ := hd
  intro p l e R s m args below meth c H locs cells slots D cs A ad n0 ad0 L h
  exact lv_istore h.1.1 h.1.2.1 hd h.2.2.2.2.2.2 hn rfl (fun L2 hl => k p l e R s m args below meth c H locs cells slots D cs A ad n0 ad0 L2 (jj_locs h (jj_put1 rfl (L := L) hp hl)))
theorem rr_lstore_n {kf : Fin 4} {x : Int64} {i : Nat} (ls2 : List (Nat × Value)) (hd : jj_D M.2.1 pc (.lstore_n kf) 1 pc2) (hi : (kf : Nat) = i) (hn : i + 1 < M.2.2.1) (hp : jj_put i (.long x) ls = ls2) (k : jj_R M d kc ks τ pc2 ls2 st Q) : jj_R M d kc ks τ pc ls (.long x :: st) Q := by
  obtain ⟨hd, rfl⟩ := hd
  intro p l e R s m args below meth c H locs cells slots D cs A ad n0 ad0 L h
  exact lv_lstore_n h.1.1 h.1.2.1 hd hi h.2.2.2.2.2.2 hn rfl (fun L2 hl => k p l e R s m args below meth c H locs cells slots D cs A ad n0 ad0 L2 (jj_locs h (jj_put2 rfl rfl (L := L) hp hl)))
theorem rr_lstore {x : Int64} {i : Nat} (ls2 : List (Nat × Value)) (hd : jj_D M.2.1 pc (.lstore i) 2 pc2) (hn : i + 1 < M.2.2.1) (hp : jj_put i (.long x) ls = ls2) (k : jj_R M d kc ks τ pc2 ls2 st Q) : jj_R M d kc ks τ pc ls (.long x :: st) Q := by
  obtain ⟨hd, rfl⟩ := hd
  intro p l e R s m args below meth c H locs cells slots D cs A ad n0 ad0 L h
  exact lv_lstore h.1.1 h.1.2.1 hd h.2.2.2.2.2.2 hn rfl (fun L2 hl => k p l e R s m args below meth c H locs cells slots D cs A ad n0 ad0 L2 (jj_locs h (jj_put2 rfl rfl (L := L) hp hl)))
theorem rr_astore_n {kf : Fin 4} {x : Nat} {i : Nat} (ls2 : List (Nat × Value)) (hd : jj_D M.2.1 pc (.astore_n kf) 1 pc2) (hi : (kf : Nat) = i) (hn : i < M.2.2.1) (hp : jj_put i (.ref x) ls = ls2) (k : jj_R M d kc ks τ pc2 ls2 st Q) : jj_R M d kc ks τ pc ls (.ref x :: st) Q := by
  obtain ⟨hd, rfl⟩ := hd
  intro p l e R s m args below meth c H locs cells slots D cs A ad n0 ad0 L h
  exact lv_astore_n h.1.1 h.1.2.1 hd hi h.2.2.2.2.2.2 hn rfl (fun L2 hl => k p l e R s m args below meth c H locs cells slots D cs A ad n0 ad0 L2 (jj_locs h (jj_put1 rfl (L := L) hp hl)))
theorem rr_astore {x : Nat} {i : Nat} (ls2 : List (Nat × Value)) (hd : jj_D M.2.1 pc (.astore i) 2 pc2) (hn : i < M.2.2.1) (hp : jj_put i (.ref x) ls = ls2) (k : jj_R M d kc ks τ pc2 ls2 st Q) : jj_R M d kc ks τ pc ls (.ref x :: st) Q := by
  obtain ⟨hd, rfl⟩ := hd
  intro p l e R s m args below meth c H locs cells slots D cs A ad n0 ad0 L h
  exact lv_astore h.1.1 h.1.2.1 hd h.2.2.2.2.2.2 hn rfl (fun L2 hl => k p l e R s m args below meth c H locs cells slots D cs A ad n0 ad0 L2 (jj_locs h (jj_put1 rfl (L := L) hp hl)))
theorem rr_iinc {i : Nat} {n : Int} {x : Int32} (j : Nat) (v : Int32) (ls2 : List (Nat × Value)) (hd : jj_D M.2.1 pc (.iinc i n) 3 pc2) (hj : ls[j]? = some (i, .int x)) (hv : Int32.ofInt n = v) (hn : i < M.2.2.1) (hp : jj_put i (.int (x + v)) ls = ls2) (k : jj_R M d kc ks τ pc2 ls2 st Q) : jj_R M d kc ks τ pc ls st Q := by
  obtain ⟨hd, rfl⟩ := hd
  intro p l e R s m args below meth c H locs cells slots D cs A ad n0 ad0 L h
  have hk : (ls.map fun q => (q.1, jj_cz ad q.2))[j]? = some (i, .int x) := by rw [List.getElem?_map, hj]; rfl
  exact lv_iinc (v := x + v) h.1.1 h.1.2.1 hd h.2.2.2.2.2.2 hk (by rw [hv]) hn rfl (fun L2 hl => k p l e R s m args below meth c H locs cells slots D cs A ad n0 ad0 L2 (jj_locs h (jj_put1 rfl (L := L) hp hl)))
theorem rr_iadd {x y : Int32} (hd : jj_D M.2.1 pc .iadd 1 pc2) (k : jj_R M d kc ks τ pc2 ls (.int (x + y) :: st) Q) : jj_R M d kc ks τ pc ls (.int y :: .int x :: st) Q := by
  obtain ⟨hd, rfl⟩ := hd
  intro p l e R s m args below meth c H locs cells slots D cs A ad n0 ad0 L h
  exact lv_iadd h.1.1 h.1.2.1 hd (k p l e R s m args below meth c H locs cells slots D cs A ad n0 ad0 L h)
theorem rr_isub {x y : Int32} (hd : jj_D M.2.1 pc .isub 1 pc2) (k : jj_R M d kc ks τ pc2 ls (.int (x - y) :: st) Q) : jj_R M d kc ks τ pc ls (.int y :: .int x :: st) Q := by
  obtain ⟨hd, rfl⟩ := hd
  intro p l e R s m args below meth c H locs cells slots D cs A ad n0 ad0 L h
  exact lv_isub h.1.1 h.1.2.1 hd (k p l e R s m args below meth c H locs cells slots D cs A ad n0 ad0 L h)
theorem rr_imul {x y : Int32} (hd : jj_D M.2.1 pc .imul 1 pc2) (k : jj_R M d kc ks τ pc2 ls (.int (x * y) :: st) Q) : jj_R M d kc ks τ pc ls (.int y :: .int x :: st) Q := by
  obtain ⟨hd, rfl⟩ := hd
  intro p l e R s m args below meth c H locs cells slots D cs A ad n0 ad0 L h
  exact lv_imul h.1.1 h.1.2.1 hd (k p l e R s m args below meth c H locs cells slots D cs A ad n0 ad0 L h)
theorem rr_iand {x y : Int32} (hd : jj_D M.2.1 pc .iand 1 pc2) (k : jj_R M d kc ks τ pc2 ls (.int (x &&& y) :: st) Q) : jj_R M d kc ks τ pc ls (.int y :: .int x :: st) Q := by
  obtain ⟨hd, rfl⟩ := hd
  intro p l e R s m args below meth c H locs cells slots D cs A ad n0 ad0 L h
  exact lv_iand h.1.1 h.1.2.1 hd (k p l e R s m args below meth c H locs cells slots D cs A ad n0 ad0 L h)
theorem rr_ior {x y : Int32} (hd : jj_D M.2.1 pc .ior 1 pc2) (k : jj_R M d kc ks τ pc2 ls (.int (x ||| y) :: st) Q) : jj_R M d kc ks τ pc ls (.int y :: .int x :: st) Q := by
  obtain ⟨hd, rfl⟩ := hd
  intro p l e R s m args below meth c H locs cells slots D cs A ad n0 ad0 L h
  exact lv_ior h.1.1 h.1.2.1 hd (k p l e R s m args below meth c H locs cells slots D cs A ad n0 ad0 L h)
theorem rr_ixor {x y : Int32} (hd : jj_D M.2.1 pc .ixor 1 pc2) (k : jj_R M d kc ks τ pc2 ls (.int (x ^^^ y) :: st) Q) : jj_R M d kc ks τ pc ls (.int y :: .int x :: st) Q := by
  obtain ⟨hd, rfl⟩ := hd
  intro p l e R s m args below meth c H locs cells slots D cs A ad n0 ad0 L h
  exact lv_ixor h.1.1 h.1.2.1 hd (k p l e R s m args below meth c H locs cells slots D cs A ad n0 ad0 L h)
theorem rr_ishl {x y : Int32} (hd : jj_D M.2.1 pc .ishl 1 pc2) (k : jj_R M d kc ks τ pc2 ls (.int (x <<< (y &&& 31)) :: st) Q) : jj_R M d kc ks τ pc ls (.int y :: .int x :: st) Q := by
  obtain ⟨hd, rfl⟩ := hd
  intro p l e R s m args below meth c H locs cells slots D cs A ad n0 ad0 L h
  exact lv_ishl h.1.1 h.1.2.1 hd (k p l e R s m args below meth c H locs cells slots D cs A ad n0 ad0 L h)
theorem rr_ishr {x y : Int32} (hd : jj_D M.2.1 pc .ishr 1 pc2) (k : jj_R M d kc ks τ pc2 ls (.int (x >>> (y &&& 31)) :: st) Q) : jj_R M d kc ks τ pc ls (.int y :: .int x :: st) Q := by
  obtain ⟨hd, rfl⟩ := hd
  intro p l e R s m args below meth c H locs cells slots D cs A ad n0 ad0 L h
  exact lv_ishr h.1.1 h.1.2.1 hd (k p l e R s m args below meth c H locs cells slots D cs A ad n0 ad0 L h)
theorem rr_iushr {x y : Int32} (hd : jj_D M.2.1 pc .iushr 1 pc2) (k : jj_R M d kc ks τ pc2 ls (.int ((x.toUInt32 >>> (y.toUInt32 &&& Int32.toUInt32 31)).toInt32) :: st) Q) : jj_R M d kc ks τ pc ls (.int y :: .int x :: st) Q := by
  obtain ⟨hd, rfl⟩ := hd
  intro p l e R s m args below meth c H locs cells slots D cs A ad n0 ad0 L h
  exact lv_iushr h.1.1 h.1.2.1 hd rfl (k p l e R s m args below meth c H locs cells slots D cs A ad n0 ad0 L h)
theorem rr_idiv {x y : Int32} (hne : ¬ y = 0) (hd : jj_D M.2.1 pc .idiv 1 pc2) (k : jj_R M d kc ks τ pc2 ls (.int (x / y) :: st) Q) : jj_R M d kc ks τ pc ls (.int y :: .int x :: st) Q := by
  obtain ⟨hd, rfl⟩ := hd
  intro p l e R s m args below meth c H locs cells slots D cs A ad n0 ad0 L h
  exact lv_idiv h.1.1 h.1.2.1 hd hne (k p l e R s m args below meth c H locs cells slots D cs A ad n0 ad0 L h)
theorem rr_irem {x y : Int32} (hne : ¬ y = 0) (hd : jj_D M.2.1 pc .irem 1 pc2) (k : jj_R M d kc ks τ pc2 ls (.int (x - x / y * y) :: st) Q) : jj_R M d kc ks τ pc ls (.int y :: .int x :: st) Q := by
  obtain ⟨hd, rfl⟩ := hd
  intro p l e R s m args below meth c H locs cells slots D cs A ad n0 ad0 L h
  exact lv_irem h.1.1 h.1.2.1 hd hne (k p l e R s m args below meth c H locs cells slots D cs A ad n0 ad0 L h)
theorem rr_ineg {x : Int32} (hd : jj_D M.2.1 pc .ineg 1 pc2) (k : jj_R M d kc ks τ pc2 ls (.int (-x) :: st) Q) : jj_R M d kc ks τ pc ls (.int x :: st) Q := by
  obtain ⟨hd, rfl⟩ := hd
  intro p l e R s m args below meth c H locs cells slots D cs A ad n0 ad0 L h
  exact lv_ineg h.1.1 h.1.2.1 hd (k p l e R s m args below meth c H locs cells slots D cs A ad n0 ad0 L h)
theorem rr_i2l {x : Int32} (hd : jj_D M.2.1 pc .i2l 1 pc2) (k : jj_R M d kc ks τ pc2 ls (.long x.toInt64 :: st) Q) : jj_R M d kc ks τ pc ls (.int x :: st) Q := by
  obtain ⟨hd, rfl⟩ := hd
  intro p l e R s m args below meth c H locs cells slots D cs A ad n0 ad0 L h
  exact lv_i2l h.1.1 h.1.2.1 hd rfl (k p l e R s m args below meth c H locs cells slots D cs A ad n0 ad0 L h)
theorem rr_i2b {x : Int32} (hd : jj_D M.2.1 pc .i2b 1 pc2) (k : jj_R M d kc ks τ pc2 ls (.int x.toInt8.toInt32 :: st) Q) : jj_R M d kc ks τ pc ls (.int x :: st) Q := by
  obtain ⟨hd, rfl⟩ := hd
  intro p l e R s m args below meth c H locs cells slots D cs A ad n0 ad0 L h
  exact lv_i2b h.1.1 h.1.2.1 hd rfl (k p l e R s m args below meth c H locs cells slots D cs A ad n0 ad0 L h)
theorem rr_ladd {x y : Int64} (hd : jj_D M.2.1 pc .ladd 1 pc2) (k : jj_R M d kc ks τ pc2 ls (.long (x + y) :: st) Q) : jj_R M d kc ks τ pc ls (.long y :: .long x :: st) Q := by
  obtain ⟨hd, rfl⟩ := hd
  intro p l e R s m args below meth c H locs cells slots D cs A ad n0 ad0 L h
  exact lv_ladd h.1.1 h.1.2.1 hd (k p l e R s m args below meth c H locs cells slots D cs A ad n0 ad0 L h)
theorem rr_lmul {x y : Int64} (hd : jj_D M.2.1 pc .lmul 1 pc2) (k : jj_R M d kc ks τ pc2 ls (.long (x * y) :: st) Q) : jj_R M d kc ks τ pc ls (.long y :: .long x :: st) Q := by
  obtain ⟨hd, rfl⟩ := hd
  intro p l e R s m args below meth c H locs cells slots D cs A ad n0 ad0 L h
  exact lv_lmul h.1.1 h.1.2.1 hd (k p l e R s m args below meth c H locs cells slots D cs A ad n0 ad0 L h)
theorem rr_land {x y : Int64} (hd : jj_D M.2.1 pc .land 1 pc2) (k : jj_R M d kc ks τ pc2 ls (.long (x &&& y) :: st) Q) : jj_R M d kc ks τ pc ls (.long y :: .long x :: st) Q := by
  obtain ⟨hd, rfl⟩ := hd
  intro p l e R s m args below meth c H locs cells slots D cs A ad n0 ad0 L h
  exact lv_land h.1.1 h.1.2.1 hd (k p l e R s m args below meth c H locs cells slots D cs A ad n0 ad0 L h)
theorem rr_ldiv {x y : Int64} (hne : ¬ y = 0) (hd : jj_D M.2.1 pc .ldiv 1 pc2) (k : jj_R M d kc ks τ pc2 ls (.long (x / y) :: st) Q) : jj_R M d kc ks τ pc ls (.long y :: .long x :: st) Q := by
  obtain ⟨hd, rfl⟩ := hd
  intro p l e R s m args below meth c H locs cells slots D cs A ad n0 ad0 L h
  exact lv_ldiv h.1.1 h.1.2.1 hd hne (k p l e R s m args below meth c H locs cells slots D cs A ad n0 ad0 L h)
theorem rr_lrem {x y : Int64} (hne : ¬ y = 0) (hd : jj_D M.2.1 pc .lrem 1 pc2) (k : jj_R M d kc ks τ pc2 ls (.long (x - x / y * y) :: st) Q) : jj_R M d kc ks τ pc ls (.long y :: .long x :: st) Q := by
  obtain ⟨hd, rfl⟩ := hd
  intro p l e R s m args below meth c H locs cells slots D cs A ad n0 ad0 L h
  exact lv_lrem h.1.1 h.1.2.1 hd hne (k p l e R s m args below meth c H locs cells slots D cs A ad n0 ad0 L h)
theorem rr_lshl {x : Int64} {y : Int32} (hd : jj_D M.2.1 pc .lshl 1 pc2) (k : jj_R M d kc ks τ pc2 ls (.long (x <<< (y.toInt64 &&& 63)) :: st) Q) : jj_R M d kc ks τ pc ls (.int y :: .long x :: st) Q := by
  obtain ⟨hd, rfl⟩ := hd
  intro p l e R s m args below meth c H locs cells slots D cs A ad n0 ad0 L h
  exact lv_lshl h.1.1 h.1.2.1 hd rfl (k p l e R s m args below meth c H locs cells slots D cs A ad n0 ad0 L h)
theorem rr_lshr {x : Int64} {y : Int32} (hd : jj_D M.2.1 pc .lshr 1 pc2) (k : jj_R M d kc ks τ pc2 ls (.long (x >>> (y.toInt64 &&& 63)) :: st) Q) : jj_R M d kc ks τ pc ls (.int y :: .long x :: st) Q := by
  obtain ⟨hd, rfl⟩ := hd
  intro p l e R s m args below meth c H locs cells slots D cs A ad n0 ad0 L h
  exact lv_lshr h.1.1 h.1.2.1 hd rfl (k p l e R s m args below meth c H locs cells slots D cs A ad n0 ad0 L h)
theorem rr_lcmp {x y : Int64} (hd : jj_D M.2.1 pc .lcmp 1 pc2) (k : jj_R M d kc ks τ pc2 ls (.int (lg_cmp x y) :: st) Q) : jj_R M d kc ks τ pc ls (.long y :: .long x :: st) Q := by
  obtain ⟨hd, rfl⟩ := hd
  intro p l e R s m args below meth c H locs cells slots D cs A ad n0 ad0 L h
  exact W.lcmp h.1.1 h.1.2.1 hd (k p l e R s m args below meth c H locs cells slots D cs A ad n0 ad0 L h)
theorem rr_dup {v : Value} (hv : v.category = 1) (hd : jj_D M.2.1 pc .dup 1 pc2) (k : jj_R M d kc ks τ pc2 ls (v :: v :: st) Q) : jj_R M d kc ks τ pc ls (v :: st) Q := by
  obtain ⟨hd, rfl⟩ := hd
  intro p l e R s m args below meth c H locs cells slots D cs A ad n0 ad0 L h
  exact lv_dup h.1.1 h.1.2.1 hd (jj_cz_cat.trans hv) (k p l e R s m args below meth c H locs cells slots D cs A ad n0 ad0 L h)
theorem rr_pop {v : Value} (hv : v.category = 1) (hd : jj_D M.2.1 pc .pop 1 pc2) (k : jj_R M d kc ks τ pc2 ls (st) Q) : jj_R M d kc ks τ pc ls (v :: st) Q := by
  obtain ⟨hd, rfl⟩ := hd
  intro p l e R s m args below meth c H locs cells slots D cs A ad n0 ad0 L h
  exact lv_pop h.1.1 h.1.2.1 hd (jj_cz_cat.trans hv) (k p l e R s m args below meth c H locs cells slots D cs A ad n0 ad0 L h)
theorem rr_dup2 {v w : Value} (hv : v.category = 1) (hw : w.category = 1) (hd : jj_D M.2.1 pc .dup2 1 pc2) (k : jj_R M d kc ks τ pc2 ls (v :: w :: v :: w :: st) Q) : jj_R M d kc ks τ pc ls (v :: w :: st) Q := by
  obtain ⟨hd, rfl⟩ := hd
  intro p l e R s m args below meth c H locs cells slots D cs A ad n0 ad0 L h
  exact lv_dup2_11 h.1.1 h.1.2.1 hd (jj_cz_cat.trans hv) (jj_cz_cat.trans hw) (k p l e R s m args below meth c H locs cells slots D cs A ad n0 ad0 L h)
theorem rr_if_eq {x : Int32} {tgt : Nat} (hd : jj_J M.2.1 pc (.ifCond .eq) pc2 tgt) (kt : x = 0 → jj_R M d kc ks τ tgt ls st Q) (kf : ¬ x = 0 → jj_R M d kc ks τ pc2 ls st Q) : jj_R M d kc ks τ pc ls (.int x :: st) Q := by
  obtain ⟨off, hd, rfl, ht⟩ := hd
  intro p l e R s m args below meth c H locs cells slots D cs A ad n0 ad0 L h
  exact lv_if_eq h.1.1 h.1.2.1 hd ht (fun q => kt q p l e R s m args below meth c H locs cells slots D cs A ad n0 ad0 L h) (fun q => kf q p l e R s m args below meth c H locs cells slots D cs A ad n0 ad0 L h)
theorem rr_if_ne {x : Int32} {tgt : Nat} (hd : jj_J M.2.1 pc (.ifCond .ne) pc2 tgt) (kt : ¬ x = 0 → jj_R M d kc ks τ tgt ls st Q) (kf : x = 0 → jj_R M d kc ks τ pc2 ls st Q) : jj_R M d kc ks τ pc ls (.int x :: st) Q := by
  obtain ⟨off, hd, rfl, ht⟩ := hd
  intro p l e R s m args below meth c H locs cells slots D cs A ad n0 ad0 L h
  exact lv_if_ne h.1.1 h.1.2.1 hd ht (fun q => kt q p l e R s m args below meth c H locs cells slots D cs A ad n0 ad0 L h) (fun q => kf q p l e R s m args below meth c H locs cells slots D cs A ad n0 ad0 L h)
theorem rr_if_lt {x : Int32} {tgt : Nat} (hd : jj_J M.2.1 pc (.ifCond .lt) pc2 tgt) (kt : x < 0 → jj_R M d kc ks τ tgt ls st Q) (kf : ¬ x < 0 → jj_R M d kc ks τ pc2 ls st Q) : jj_R M d kc ks τ pc ls (.int x :: st) Q := by
  obtain ⟨off, hd, rfl, ht⟩ := hd
  intro p l e R s m args below meth c H locs cells slots D cs A ad n0 ad0 L h
  exact lv_if_lt h.1.1 h.1.2.1 hd ht (fun q => kt q p l e R s m args below meth c H locs cells slots D cs A ad n0 ad0 L h) (fun q => kf q p l e R s m args below meth c H locs cells slots D cs A ad n0 ad0 L h)
theorem rr_if_ge {x : Int32} {tgt : Nat} (hd : jj_J M.2.1 pc (.ifCond .ge) pc2 tgt) (kt : 0 ≤ x → jj_R M d kc ks τ tgt ls st Q) (kf : ¬ 0 ≤ x → jj_R M d kc ks τ pc2 ls st Q) : jj_R M d kc ks τ pc ls (.int x :: st) Q := by
  obtain ⟨off, hd, rfl, ht⟩ := hd
  intro p l e R s m args below meth c H locs cells slots D cs A ad n0 ad0 L h
  exact lv_if_ge h.1.1 h.1.2.1 hd ht (fun q => kt q p l e R s m args below meth c H locs cells slots D cs A ad n0 ad0 L h) (fun q => kf q p l e R s m args below meth c H locs cells slots D cs A ad n0 ad0 L h)
theorem rr_if_gt {x : Int32} {tgt : Nat} (hd : jj_J M.2.1 pc (.ifCond .gt) pc2 tgt) (kt : 0 < x → jj_R M d kc ks τ tgt ls st Q) (kf : ¬ 0 < x → jj_R M d kc ks τ pc2 ls st Q) : jj_R M d kc ks τ pc ls (.int x :: st) Q := by
  obtain ⟨off, hd, rfl, ht⟩ := hd
  intro p l e R s m args below meth c H locs cells slots D cs A ad n0 ad0 L h
  exact lv_if_gt h.1.1 h.1.2.1 hd ht (fun q => kt q p l e R s m args below meth c H locs cells slots D cs A ad n0 ad0 L h) (fun q => kf q p l e R s m args below meth c H locs cells slots D cs A ad n0 ad0 L h)
theorem rr_if_le {x : Int32} {tgt : Nat} (hd : jj_J M.2.1 pc (.ifCond .le) pc2 tgt) (kt : x ≤ 0 → jj_R M d kc ks τ tgt ls st Q) (kf : ¬ x ≤ 0 → jj_R M d kc ks τ pc2 ls st Q) : jj_R M d kc ks τ pc ls (.int x :: st) Q := by
  obtain ⟨off, hd, rfl, ht⟩ := hd
  intro p l e R s m args below meth c H locs cells slots D cs A ad n0 ad0 L h
  exact lv_if_le h.1.1 h.1.2.1 hd ht (fun q => kt q p l e R s m args below meth c H locs cells slots D cs A ad n0 ad0 L h) (fun q => kf q p l e R s m args below meth c H locs cells slots D cs A ad n0 ad0 L h)
theorem rr_icmp_eq {x y : Int32} {tgt : Nat} (hd : jj_J M.2.1 pc (.if_icmp .eq) pc2 tgt) (kt : x = y → jj_R M d kc ks τ tgt ls st Q) (kf : ¬ x = y → jj_R M d kc ks τ pc2 ls st Q) : jj_R M d kc ks τ pc ls (.int y :: .int x :: st) Q := by
  obtain ⟨off, hd, rfl, ht⟩ := hd
  intro p l e R s m args below meth c H locs cells slots D cs A ad n0 ad0 L h
  exact lv_icmp_eq h.1.1 h.1.2.1 hd ht (fun q => kt q p l e R s m args below meth c H locs cells slots D cs A ad n0 ad0 L h) (fun q => kf q p l e R s m args below meth c H locs cells slots D cs A ad n0 ad0 L h)
theorem rr_icmp_ne {x y : Int32} {tgt : Nat} (hd : jj_J M.2.1 pc (.if_icmp .ne) pc2 tgt) (kt : ¬ x = y → jj_R M d kc ks τ tgt ls st Q) (kf : x = y → jj_R M d kc ks τ pc2 ls st Q) : jj_R M d kc ks τ pc ls (.int y :: .int x :: st) Q := by
  obtain ⟨off, hd, rfl, ht⟩ := hd
  intro p l e R s m args below meth c H locs cells slots D cs A ad n0 ad0 L h
  exact lv_icmp_ne h.1.1 h.1.2.1 hd ht (fun q => kt q p l e R s m args below meth c H locs cells slots D cs A ad n0 ad0 L h) (fun q => kf q p l e R s m args below meth c H locs cells slots D cs A ad n0 ad0 L h)
theorem rr_icmp_lt {x y : Int32} {tgt : Nat} (hd : jj_J M.2.1 pc (.if_icmp .lt) pc2 tgt) (kt : x < y → jj_R M d kc ks τ tgt ls st Q) (kf : ¬ x < y → jj_R M d kc ks τ pc2 ls st Q) : jj_R M d kc ks τ pc ls (.int y :: .int x :: st) Q := by
  obtain ⟨off, hd, rfl, ht⟩ := hd
  intro p l e R s m args below meth c H locs cells slots D cs A ad n0 ad0 L h
  exact lv_icmp_lt h.1.1 h.1.2.1 hd ht (fun q => kt q p l e R s m args below meth c H locs cells slots D cs A ad n0 ad0 L h) (fun q => kf q p l e R s m args below meth c H locs cells slots D cs A ad n0 ad0 L h)
theorem rr_icmp_ge {x y : Int32} {tgt : Nat} (hd : jj_J M.2.1 pc (.if_icmp .ge) pc2 tgt) (kt : y ≤ x → jj_R M d kc ks τ tgt ls st Q) (kf : ¬ y ≤ x → jj_R M d kc ks τ pc2 ls st Q) : jj_R M d kc ks τ pc ls (.int y :: .int x :: st) Q := by
  obtain ⟨off, hd, rfl, ht⟩ := hd
  intro p l e R s m args below meth c H locs cells slots D cs A ad n0 ad0 L h
  exact lv_icmp_ge h.1.1 h.1.2.1 hd ht (fun q => kt q p l e R s m args below meth c H locs cells slots D cs A ad n0 ad0 L h) (fun q => kf q p l e R s m args below meth c H locs cells slots D cs A ad n0 ad0 L h)
theorem rr_icmp_gt {x y : Int32} {tgt : Nat} (hd : jj_J M.2.1 pc (.if_icmp .gt) pc2 tgt) (kt : y < x → jj_R M d kc ks τ tgt ls st Q) (kf : ¬ y < x → jj_R M d kc ks τ pc2 ls st Q) : jj_R M d kc ks τ pc ls (.int y :: .int x :: st) Q := by
  obtain ⟨off, hd, rfl, ht⟩ := hd
  intro p l e R s m args below meth c H locs cells slots D cs A ad n0 ad0 L h
  exact lv_icmp_gt h.1.1 h.1.2.1 hd ht (fun q => kt q p l e R s m args below meth c H locs cells slots D cs A ad n0 ad0 L h) (fun q => kf q p l e R s m args below meth c H locs cells slots D cs A ad n0 ad0 L h)
theorem rr_icmp_le {x y : Int32} {tgt : Nat} (hd : jj_J M.2.1 pc (.if_icmp .le) pc2 tgt) (kt : x ≤ y → jj_R M d kc ks τ tgt ls st Q) (kf : ¬ x ≤ y → jj_R M d kc ks τ pc2 ls st Q) : jj_R M d kc ks τ pc ls (.int y :: .int x :: st) Q := by
  obtain ⟨off, hd, rfl, ht⟩ := hd
  intro p l e R s m args below meth c H locs cells slots D cs A ad n0 ad0 L h
  exact lv_icmp_le h.1.1 h.1.2.1 hd ht (fun q => kt q p l e R s m args below meth c H locs cells slots D cs A ad n0 ad0 L h) (fun q => kf q p l e R s m args below meth c H locs cells slots D cs A ad n0 ad0 L h)
theorem rr_goto {tgt : Nat} (hd : jj_J M.2.1 pc .goto pc2 tgt) (k : jj_R M d kc ks τ tgt ls st Q) : jj_R M d kc ks τ pc ls st Q := by
  obtain ⟨off, hd, rfl, ht⟩ := hd
  intro p l e R s m args below meth c H locs cells slots D cs A ad n0 ad0 L h
  exact lv_goto h.1.1 h.1.2.1 hd ht (k p l e R s m args below meth c H locs cells slots D cs A ad n0 ad0 L h)
theorem rr_ifnonnull {x tgt : Nat} (hd : jj_J M.2.1 pc .ifnonnull pc2 tgt) (k : jj_R M d kc ks τ tgt ls st Q) : jj_R M d kc ks τ pc ls (.ref x :: st) Q := by
  obtain ⟨off, hd, rfl, ht⟩ := hd
  intro p l e R s m args below meth c H locs cells slots D cs A ad n0 ad0 L h
  exact lv_ifnonnull h.1.1 h.1.2.1 hd ht (k p l e R s m args below meth c H locs cells slots D cs A ad n0 ad0 L h)
theorem rr_ifnonnullN {tgt : Nat} (hd : jj_J M.2.1 pc .ifnonnull pc2 tgt) (k : jj_R M d kc ks τ pc2 ls st Q) : jj_R M d kc ks τ pc ls (.null :: st) Q := by
  obtain ⟨off, hd, rfl, ht⟩ := hd
  intro p l e R s m args below meth c H locs cells slots D cs A ad n0 ad0 L h
  exact lv_ifnonnullN h.1.1 h.1.2.1 hd (k p l e R s m args below meth c H locs cells slots D cs A ad n0 ad0 L h)
theorem rr_tableIn {dflt lo hi : Int} {offs : Array Int} {len tgt : Nat} {x : Int32} (off : Int) (hd : decode M.2.1 pc = .ok (.tableswitch dflt lo hi offs, len)) (h1 : ¬ x.toInt < lo) (h2 : ¬ hi < x.toInt) (ho : offs[(x.toInt - lo).toNat]? = some off) (ht : (pc : Int) + off = (tgt : Int)) (k : jj_R M d kc ks τ tgt ls st Q) : jj_R M d kc ks τ pc ls (.int x :: st) Q := by
  intro p l e R s m args below meth c H locs cells slots D cs A ad n0 ad0 L h
  exact lv_tableIn h.1.1 h.1.2.1 hd h1 h2 ho ht (k p l e R s m args below meth c H locs cells slots D cs A ad n0 ad0 L h)
theorem rr_tableOut {dflt lo hi : Int} {offs : Array Int} {len tgt : Nat} {x : Int32} (hd : decode M.2.1 pc = .ok (.tableswitch dflt lo hi offs, len)) (h1 : x.toInt < lo ∨ hi < x.toInt) (ht : (pc : Int) + dflt = (tgt : Int)) (k : jj_R M d kc ks τ tgt ls st Q) : jj_R M d kc ks τ pc ls (.int x :: st) Q := by
  intro p l e R s m args below meth c H locs cells slots D cs A ad n0 ad0 L h
  exact lv_tableOut h.1.1 h.1.2.1 hd h1 ht (k p l e R s m args below meth c H locs cells slots D cs A ad n0 ad0 L h)
theorem rr_lookup {dflt off : Int} {ps : Array (Int × Int)} {len tgt : Nat} {x : Int32} (hd : decode M.2.1 pc = .ok (.lookupswitch dflt ps, len)) (hp : (ps.toList.zip (ps.toList.drop 1)).all (fun (a, next) => a.1 < next.1) = true) (ho : Op.lookupswitch.offset ps.toList dflt x.toInt = off) (ht : (pc : Int) + off = (tgt : Int)) (k : jj_R M d kc ks τ tgt ls st Q) : jj_R M d kc ks τ pc ls (.int x :: st) Q := by
  intro p l e R s m args below meth c H locs cells slots D cs A ad n0 ad0 L h
  exact lv_lookup h.1.1 h.1.2.1 hd hp ho ht (k p l e R s m args below meth c H locs cells slots D cs A ad n0 ad0 L h)
theorem rr_ldc {idx : Nat} {v : Int32} (hc : Cond.constant M.1.cls idx v ∈ jj_tg) (hd : jj_D M.2.1 pc (.ldc idx) 2 pc2) (k : jj_R M d kc ks τ pc2 ls (.int v :: st) Q) : jj_R M d kc ks τ pc ls (st) Q := by
  obtain ⟨hd, rfl⟩ := hd
  intro p l e R s m args below meth c H locs cells slots D cs A ad n0 ad0 L h
  exact lv_ldc h.1.1 h.1.2.1 h.1.2.2.2.2.2.1 (h.1.2.2.2.2.2.2.2.1 _ hc) hd (k p l e R s m args below meth c H locs cells slots D cs A ad n0 ad0 L h)
theorem rr_ldc_w {idx : Nat} {v : Int32} (hc : Cond.constant M.1.cls idx v ∈ jj_tg) (hd : jj_D M.2.1 pc (.ldc_w idx) 3 pc2) (k : jj_R M d kc ks τ pc2 ls (.int v :: st) Q) : jj_R M d kc ks τ pc ls (st) Q := by
  obtain ⟨hd, rfl⟩ := hd
  intro p l e R s m args below meth c H locs cells slots D cs A ad n0 ad0 L h
  exact lv_ldcw h.1.1 h.1.2.1 h.1.2.2.2.2.2.1 (h.1.2.2.2.2.2.2.2.1 _ hc) hd (k p l e R s m args below meth c H locs cells slots D cs A ad n0 ad0 L h)
theorem rr_ldcS {idx : Nat} {tx : String} {by_ : List Int32} (i : Nat) (hq : jj_ss[i]? = some (M.1.cls, idx, tx, by_)) (hd : jj_D M.2.1 pc (.ldc idx) 2 pc2) (k : jj_R M d kc ks τ pc2 ls (.ref (1000000 + i) :: st) Q) : jj_R M d kc ks τ pc ls (st) Q := by
  obtain ⟨hd, rfl⟩ := hd
  intro p l e R s m args below meth c H locs cells slots D cs A ad n0 ad0 L h
  exact va_ldcS h.1.1 h.1.2.1 h.1.2.2.2.2.2.1 ((h.1.2.2.2.2.2.2.2.2.2.2.2.2.2.2.1.1 i _ hq).2.2.2.2) hd (k p l e R s m args below meth c H locs cells slots D cs A ad n0 ad0 L h)
theorem rr_sub (ls2 : List (Nat × Value)) (js : List Nat) (hp : lv_pick ls js = ls2) (k : jj_R M d kc ks τ pc ls2 st Q) : jj_R M d kc ks τ pc ls st Q := by
  intro p l e R s m args below meth c H locs cells slots D cs A ad n0 ad0 L h
  refine k p l e R s m args below meth c H locs cells slots D cs A ad n0 ad0 L (jj_locs h ⟨h.2.2.2.2.2.2.1, h.2.2.2.2.2.2.2.1, fun q hq => h.2.2.2.2.2.2.2.2 q ?_⟩)
  obtain ⟨z, hz, rfl⟩ := List.mem_map.mp hq
  rw [← hp] at hz
  obtain ⟨j, -, hj⟩ := List.mem_filterMap.mp hz
  exact List.mem_map.mpr ⟨z, List.mem_of_getElem? hj, rfl⟩
theorem rr_ireturn {x : Int32} (hd : decode M.2.1 pc = .ok (.ireturn, 1)) (hr : M.2.2.2.1 = some .int) (kq : Q (.inl (some (.int x))) τ) : jj_R M d kc ks τ pc ls [.int x] Q := by
  intro p l e R s m args below meth c H locs cells slots D cs A ad n0 ad0 L h
  have hq : ∀ t : State, t.heap = H → s.WarmedH t.vm → jj_Qc D cs A ad0 n0 Q args s (.returned (some (.int x))) t := fun t ht hW => ⟨⟨(some (.int x)), τ, ad, rfl, kq, h.2.2.2.2.2.1, h.2.2.2.2.1, by rw [ht]; exact h.2.2.1⟩, h.2.2.2.1.F ht⟩
  refine vx_ret (W.widen (Nat.le_trans (Nat.le_add_right _ _) h.2.1.1) (Nat.le_trans (Nat.le_add_right _ _) h.2.1.2) ?_)
  exact W.iret h.1.1 h.1.2.1 (h.1.2.2.2.1.trans hr) hq h.2.2.2.1.2.2 hd (hlocks := h.1.2.2.2.2.1)
theorem rr_zreturn {x : Int32} (hd : decode M.2.1 pc = .ok (.ireturn, 1)) (hr : M.2.2.2.1 = some .boolean) (hx : narrow .boolean (.int x) = .int x) (kq : Q (.inl (some (.int x))) τ) : jj_R M d kc ks τ pc ls [.int x] Q := by
  intro p l e R s m args below meth c H locs cells slots D cs A ad n0 ad0 L h
  have hq : ∀ t : State, t.heap = H → s.WarmedH t.vm → jj_Qc D cs A ad0 n0 Q args s (.returned (some (.int x))) t := fun t ht hW => ⟨⟨(some (.int x)), τ, ad, rfl, kq, h.2.2.2.2.2.1, h.2.2.2.2.1, by rw [ht]; exact h.2.2.1⟩, h.2.2.2.1.F ht⟩
  refine vx_ret (W.widen (Nat.le_trans (Nat.le_add_right _ _) h.2.1.1) (Nat.le_trans (Nat.le_add_right _ _) h.2.1.2) ?_)
  exact W.zret h.1.1 h.1.2.1 (h.1.2.2.2.1.trans hr) hx hq h.2.2.2.1.2.2 hd (hlocks := h.1.2.2.2.2.1)
theorem rr_lreturn {x : Int64} (hd : decode M.2.1 pc = .ok (.lreturn, 1)) (hr : M.2.2.2.1 = some .long) (kq : Q (.inl (some (.long x))) τ) : jj_R M d kc ks τ pc ls [.long x] Q := by
  intro p l e R s m args below meth c H locs cells slots D cs A ad n0 ad0 L h
  have hq : ∀ t : State, t.heap = H → s.WarmedH t.vm → jj_Qc D cs A ad0 n0 Q args s (.returned (some (.long x))) t := fun t ht hW => ⟨⟨(some (.long x)), τ, ad, rfl, kq, h.2.2.2.2.2.1, h.2.2.2.2.1, by rw [ht]; exact h.2.2.1⟩, h.2.2.2.1.F ht⟩
  refine vx_ret (W.widen (Nat.le_trans (Nat.le_add_right _ _) h.2.1.1) (Nat.le_trans (Nat.le_add_right _ _) h.2.1.2) ?_)
  exact W.lret h.1.1 h.1.2.1 (h.1.2.2.2.1.trans hr) hq h.2.2.2.1.2.2 hd (hlocks := h.1.2.2.2.2.1)
theorem rr_return  (hd : decode M.2.1 pc = .ok (.return_, 1)) (hr : M.2.2.2.1 = none) (kq : Q (.inl none) τ) : jj_R M d kc ks τ pc ls [] Q := by
  intro p l e R s m args below meth c H locs cells slots D cs A ad n0 ad0 L h
  have hq : ∀ t : State, t.heap = H → s.WarmedH t.vm → jj_Qc D cs A ad0 n0 Q args s (.returned none) t := fun t ht hW => ⟨⟨none, τ, ad, rfl, kq, h.2.2.2.2.2.1, h.2.2.2.2.1, by rw [ht]; exact h.2.2.1⟩, h.2.2.2.1.F ht⟩
  refine vx_ret (W.widen (Nat.le_trans (Nat.le_add_right _ _) h.2.1.1) (Nat.le_trans (Nat.le_add_right _ _) h.2.1.2) ?_)
  exact W.vret h.1.1 h.1.2.1 (h.1.2.2.2.1.trans hr) hq h.2.2.2.1.2.2 hd (hlocks := h.1.2.2.2.2.1)
end RR
