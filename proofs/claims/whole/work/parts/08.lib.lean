/-! ===== the library's members: Math, arraycopy, String ===== -/
theorem jj_wmax : Cond.static Lib.Math.max.name ∈ jj_tg ∧ Cond.initialized "java/lang/Math" ∈ jj_tg ∧ Cond.code Lib.Math.max.name Lib.Math.max.code 2 (some .int) ∈ jj_tg := ⟨jj_mem 545 (by decide +kernel) (by decide +kernel), jj_mem 107 (by decide +kernel) (by decide +kernel), jj_mem 546 (by decide +kernel) (by decide +kernel)⟩
theorem jj_wmin : Cond.static Lib.Math.min.name ∈ jj_tg ∧ Cond.initialized "java/lang/Math" ∈ jj_tg ∧ Cond.code Lib.Math.min.name Lib.Math.min.code 2 (some .int) ∈ jj_tg := ⟨jj_mem 542 (by decide +kernel) (by decide +kernel), jj_mem 107 (by decide +kernel) (by decide +kernel), jj_mem 543 (by decide +kernel) (by decide +kernel)⟩
theorem jj_wabs : Cond.static Lib.Math.abs.name ∈ jj_tg ∧ Cond.initialized "java/lang/Math" ∈ jj_tg ∧ Cond.code Lib.Math.abs.name Lib.Math.abs.code 1 (some .int) ∈ jj_tg := ⟨jj_mem 1092 (by decide +kernel) (by decide +kernel), jj_mem 107 (by decide +kernel) (by decide +kernel), jj_mem 1093 (by decide +kernel) (by decide +kernel)⟩
theorem jj_wcopy : Cond.native arraycopyName ∈ jj_tg ∧ Cond.static arraycopyName ∈ jj_tg ∧ Cond.initialized "java/lang/System" ∈ jj_tg := ⟨jj_mem 574 (by decide +kernel) (by decide +kernel), jj_mem 573 (by decide +kernel) (by decide +kernel), jj_mem 106 (by decide +kernel) (by decide +kernel)⟩
def jj_cp (h : Nat → Nat → Int32) (a b sp dp k : Nat) : Nat → Nat → Int32 := fun o => if o = b then va_cpy (h a) (h b) sp dp k else h o
section RL
variable {M : jj_Mt} {d kc ks : Nat} {S : Nat → jj_Sh} {n : Nat} {h : Nat → Nat → Int32} {g : Nat → Nat → Int64} {pc pc2 idx : Nat} {ls : List (Nat × Value)} {st : List Value} {Q : jj_Rs → jj_St → Prop}
theorem jj_sum8 {ad : Nat → Nat} {st : List Value} (hr : (st.map fun v => v.category).sum ≤ 8) : ((st.map (jj_cz ad)).map fun v => v.category).sum ≤ 8 := by
  rw [List.map_map]
  simpa [jj_cz_cat, Function.comp_def] using hr
theorem rr_mmax {x y : Int32} (hd : jj_D M.2.1 pc (.invokestatic idx) 3 pc2) (hl : Cond.methodLink M.1.cls idx Lib.Math.max.name ∈ jj_tg) (hr : (st.map fun v => v.category).sum ≤ 8) (kk : jj_R M (d + 1) kc ks (S, n, h, g) pc2 ls (.int (if x < y then y else x) :: st) Q) : jj_R M (d + 1) kc ks (S, n, h, g) pc ls (.int y :: .int x :: st) Q := by
  obtain ⟨hd, rfl⟩ := hd
  intro p l e R s m args below meth c H locs cells slots D cs A ad n0 ad0 L q
  have h1 := q.1.2.2.2.2.2.2.2.2.2.1
  have h2 := q.1.2.2.2.2.2.2.2.2.2.2.1
  have h3 := jj_sum8 (ad := ad) hr
  have hts := q.1.2.2.2.2.2.2.2.1
  exact va_mmax q.1.1 q.1.2.1 (q.1.2.2.1.trans q.2.2.2.2.2.2.1.symm) q.1.2.2.2.2.2.1 (hts _ hl) (hts _ jj_wmax.1) (hts _ jj_wmax.2.1) (hts _ jj_wmax.2.2) (by omega) (by omega) (Nat.le_trans (Nat.le_add_right _ _) q.2.1.1) (Nat.le_trans (Nat.le_add_right _ _) q.2.1.2) hd (kk p l e R s m args below meth c H locs cells slots D cs A ad n0 ad0 L q)
theorem rr_mmin {x y : Int32} (hd : jj_D M.2.1 pc (.invokestatic idx) 3 pc2) (hl : Cond.methodLink M.1.cls idx Lib.Math.min.name ∈ jj_tg) (hr : (st.map fun v => v.category).sum ≤ 8) (kk : jj_R M (d + 1) kc ks (S, n, h, g) pc2 ls (.int (if y < x then y else x) :: st) Q) : jj_R M (d + 1) kc ks (S, n, h, g) pc ls (.int y :: .int x :: st) Q := by
  obtain ⟨hd, rfl⟩ := hd
  intro p l e R s m args below meth c H locs cells slots D cs A ad n0 ad0 L q
  have h1 := q.1.2.2.2.2.2.2.2.2.2.1
  have h2 := q.1.2.2.2.2.2.2.2.2.2.2.1
  have h3 := jj_sum8 (ad := ad) hr
  have hts := q.1.2.2.2.2.2.2.2.1
  exact va_mmin q.1.1 q.1.2.1 (q.1.2.2.1.trans q.2.2.2.2.2.2.1.symm) q.1.2.2.2.2.2.1 (hts _ hl) (hts _ jj_wmin.1) (hts _ jj_wmin.2.1) (hts _ jj_wmin.2.2) (by omega) (by omega) (Nat.le_trans (Nat.le_add_right _ _) q.2.1.1) (Nat.le_trans (Nat.le_add_right _ _) q.2.1.2) hd (kk p l e R s m args below meth c H locs cells slots D cs A ad n0 ad0 L q)
theorem rr_mabs {x : Int32} (hd : jj_D M.2.1 pc (.invokestatic idx) 3 pc2) (hl : Cond.methodLink M.1.cls idx Lib.Math.abs.name ∈ jj_tg) (hr : (st.map fun v => v.category).sum ≤ 8) (kk : jj_R M (d + 1) kc ks (S, n, h, g) pc2 ls (.int (if 0 ≤ x then x else 0 - x) :: st) Q) : jj_R M (d + 1) kc ks (S, n, h, g) pc ls (.int x :: st) Q := by
  obtain ⟨hd, rfl⟩ := hd
  intro p l e R s m args below meth c H locs cells slots D cs A ad n0 ad0 L q
  have h1 := q.1.2.2.2.2.2.2.2.2.2.1
  have h2 := q.1.2.2.2.2.2.2.2.2.2.2.1
  have h3 := jj_sum8 (ad := ad) hr
  have hts := q.1.2.2.2.2.2.2.2.1
  exact va_mabs q.1.1 q.1.2.1 (q.1.2.2.1.trans q.2.2.2.2.2.2.1.symm) q.1.2.2.2.2.2.1 (hts _ hl) (hts _ jj_wabs.1) (hts _ jj_wabs.2.1) (hts _ jj_wabs.2.2) (by omega) (by omega) (Nat.le_trans (Nat.le_add_right _ _) q.2.1.1) (Nat.le_trans (Nat.le_add_right _ _) q.2.1.2) hd (kk p l e R s m args below meth c H locs cells slots D cs A ad n0 ad0 L q)
theorem rr_copy {a b l0 l1 : Nat} {sp dp k : Int32} (hd : jj_D M.2.1 pc (.invokestatic idx) 3 pc2) (hl : Cond.methodLink M.1.cls idx arraycopyName ∈ jj_tg) (hr : (st.map fun v => v.category).sum ≤ 8) (ha : a < n) (hb : b < n) (hsa : S a = .inr (.inl (0, l0))) (hsb : S b = .inr (.inl (0, l1))) (h1 : ¬ sp < 0) (h2 : ¬ dp < 0) (h3 : ¬ k < 0) (h4 : sp.toNatClampNeg + k.toNatClampNeg ≤ l0) (h5 : dp.toNatClampNeg + k.toNatClampNeg ≤ l1)
    (kk : jj_R M (d + 1) kc ks (S, n, jj_cp h a b sp.toNatClampNeg dp.toNatClampNeg k.toNatClampNeg, g) pc2 ls st Q) : jj_R M (d + 1) kc ks (S, n, h, g) pc ls (.int k :: .int dp :: .ref b :: .int sp :: .ref a :: st) Q := by
  obtain ⟨hd, rfl⟩ := hd
  intro p l e R s m args below meth c H locs cells slots D cs A ad n0 ad0 L q
  have g1 := q.1.2.2.2.2.2.2.2.2.2.1
  have g2 := q.1.2.2.2.2.2.2.2.2.2.2.1
  have g3 := jj_sum8 (ad := ad) hr
  have hts := q.1.2.2.2.2.2.2.2.1
  have hnf : nativeFrameWords "java/lang/System" "arraycopy" 5 ≤ 40 := by decide +kernel
  refine va_copyi (ty := .int) q.1.1 q.1.2.1 (q.1.2.2.1.trans q.2.2.2.2.2.2.1.symm) q.1.2.2.2.2.2.1 (hts _ hl) (hts _ jj_wcopy.1) (hts _ jj_wcopy.2.1) (hts _ jj_wcopy.2.2) q.1.2.2.2.2.2.2.2.2.2.2.2.2.1 q.2.2.1.1 q.2.2.1.2 q.2.2.2.1 a b 0 0 (jj_hei ha hsa) (jj_hei hb hsb) rfl rfl rfl h1 h2 h3 h4 h5 (fun _ _ => rfl) (by omega) (by omega) hd (fun H1 locs1 hP hD hS => ?_)
  have e1 : (jj_W cs ad (S, n, h, g)).set b (ad b, .inl (cs 0, l1, .inl (va_cpy (h a) (h b) sp.toNatClampNeg dp.toNatClampNeg k.toNatClampNeg))) = jj_W cs ad (S, n, jj_cp h a b sp.toNatClampNeg dp.toNatClampNeg k.toNatClampNeg, g) := by
    refine jj_W_set rfl ?_ (fun x hx => ?_)
    · show (ad b, jj_ce cs ad (S b) (jj_cp h a b _ _ _ b) (g b)) = _
      rw [hsb]
      simp [jj_cp, jj_ce]
    · show (ad x, jj_ce cs ad (S x) (jj_cp h a b _ _ _ x) (g x)) = (ad x, jj_ce cs ad (S x) (h x) (g x))
      simp [jj_cp, hx]
  rw [e1] at hP hD
  exact kk p l e R s m args below meth c H1 locs1 cells slots D cs A ad n0 ad0 L (q.heap (Nat.le_refl _) ⟨hP, hD⟩ hS)
/-! String constants: the cell 1000000 + i, its bytes 2000000 + i -/
theorem rr_sgetC {i : Nat} {z : jj_Sc} (hz : jj_ss[i]? = some z) (hd : jj_D M.2.1 pc (.getfield idx) 3 pc2) (hl : Cond.fieldLink M.1.cls idx "java/lang/String" "coder" "B" ∈ jj_tg) (kk : jj_R M d kc ks (S, n, h, g) pc2 ls (.int 0 :: st) Q) : jj_R M d kc ks (S, n, h, g) pc ls (.ref (1000000 + i) :: st) Q := by
  obtain ⟨hd, rfl⟩ := hd
  intro p l e R s m args below meth c H locs cells slots D cs A ad n0 ad0 L q
  exact vk_getf q.1.1 q.1.2.1 (q.1.2.2.2.2.2.2.2.2.2.2.2.2.2.2.1.1 i z hz).2.1 q.2.2.2.1 q.1.2.2.2.2.2.1 (q.1.2.2.2.2.2.2.2.1 _ hl) (fun _ y => y) hd (kk p l e R s m args below meth c H locs cells slots D cs A ad n0 ad0 L q)
theorem rr_sgetV {i : Nat} {z : jj_Sc} (hz : jj_ss[i]? = some z) (hd : jj_D M.2.1 pc (.getfield idx) 3 pc2) (hl : Cond.fieldLink M.1.cls idx "java/lang/String" "value" "[B" ∈ jj_tg) (kk : jj_R M d kc ks (S, n, h, g) pc2 ls (.ref (2000000 + i) :: st) Q) : jj_R M d kc ks (S, n, h, g) pc ls (.ref (1000000 + i) :: st) Q := by
  obtain ⟨hd, rfl⟩ := hd
  intro p l e R s m args below meth c H locs cells slots D cs A ad n0 ad0 L q
  exact vk_getf q.1.1 q.1.2.1 (q.1.2.2.2.2.2.2.2.2.2.2.2.2.2.2.1.1 i z hz).2.2.1 q.2.2.2.1 q.1.2.2.2.2.2.1 (q.1.2.2.2.2.2.2.2.1 _ hl) (fun _ y => y) hd (kk p l e R s m args below meth c H locs cells slots D cs A ad n0 ad0 L q)
theorem rr_talen {i : Nat} {z : jj_Sc} (hz : jj_ss[i]? = some z) (hd : jj_D M.2.1 pc .arraylength 1 pc2) (kk : jj_R M d kc ks (S, n, h, g) pc2 ls (.int (Int32.ofNat z.2.2.2.length) :: st) Q) : jj_R M d kc ks (S, n, h, g) pc ls (.ref (2000000 + i) :: st) Q := by
  obtain ⟨hd, rfl⟩ := hd
  intro p l e R s m args below meth c H locs cells slots D cs A ad n0 ad0 L q
  exact va_tlen q.1.1 q.1.2.1 (q.1.2.2.2.2.2.2.2.2.2.2.2.2.2.2.1.1 i z hz).2.2.2.1 q.2.2.2.1 rfl hd (kk p l e R s m args below meth c H locs cells slots D cs A ad n0 ad0 L q)
theorem rr_tbaload {i : Nat} {z : jj_Sc} {j : Int32} (hz : jj_ss[i]? = some z) (hd : jj_D M.2.1 pc .baload 1 pc2) (hj : vp_in j z.2.2.2.length) (kk : jj_R M d kc ks (S, n, h, g) pc2 ls (.int (z.2.2.2.getD j.toNatClampNeg 0) :: st) Q) : jj_R M d kc ks (S, n, h, g) pc ls (.int j :: .ref (2000000 + i) :: st) Q := by
  obtain ⟨hd, rfl⟩ := hd
  intro p l e R s m args below meth c H locs cells slots D cs A ad n0 ad0 L q
  exact va_tb q.1.1 q.1.2.1 (q.1.2.2.2.2.2.2.2.2.2.2.2.2.2.2.1.1 i z hz).2.2.2.1 q.2.2.2.1 hj rfl hd (kk p l e R s m args below meth c H locs cells slots D cs A ad n0 ad0 L q)
theorem rr_gets (hd : jj_D M.2.1 pc (.getstatic idx) 3 pc2) (hl : Cond.fieldLink M.1.cls idx "java/lang/String" "COMPACT_STRINGS" "Z" ∈ jj_tg) (kk : jj_R M d kc ks (S, n, h, g) pc2 ls (.int 1 :: st) Q) : jj_R M d kc ks (S, n, h, g) pc ls st Q := by
  obtain ⟨hd, rfl⟩ := hd
  intro p l e R s m args below meth c H locs cells slots D cs A ad n0 ad0 L q
  exact va_gets q.1.1 q.1.2.1 q.1.2.2.2.2.2.2.2.2.2.2.2.2.2.2.1.2.1 q.2.2.2.1 q.1.2.2.2.2.2.1 (q.1.2.2.2.2.2.2.2.1 _ hl) (fun _ y => y) hd (kk p l e R s m args below meth c H locs cells slots D cs A ad n0 ad0 L q)
theorem rr_getsQ (hd : jj_D M.2.1 pc (.getstatic idx) 3 pc2) (hl : Cond.fieldLink M.1.cls idx "jdk/internal/util/Preconditions" "SIOOBE_FORMATTER" "Ljava/util/function/BiFunction;" ∈ jj_tg) (k1 : jj_R M d kc ks (S, n, h, g) pc2 ls (.null :: st) Q) (k2 : jj_R M d kc ks (S, n, h, g) pc2 ls (.ref 999997 :: st) Q) : jj_R M d kc ks (S, n, h, g) pc ls st Q := by
  obtain ⟨hd, rfl⟩ := hd
  intro p l e R s m args below meth c H locs cells slots D cs A ad n0 ad0 L q
  rcases q.1.2.2.2.2.2.2.2.2.2.2.2.2.2.2.1.2.2.2.2.2.2.2 with hz | hz
  · exact va_gets q.1.1 q.1.2.1 hz q.2.2.2.1 q.1.2.2.2.2.2.1 (q.1.2.2.2.2.2.2.2.1 _ hl) (fun _ y => y) hd (k1 p l e R s m args below meth c H locs cells slots D cs A ad n0 ad0 L q)
  · exact va_gets q.1.1 q.1.2.1 hz q.2.2.2.1 q.1.2.2.2.2.2.1 (q.1.2.2.2.2.2.2.2.1 _ hl) (fun _ y => y) hd (k2 p l e R s m args below meth c H locs cells slots D cs A ad n0 ad0 L q)
theorem rr_i2c {x : Int32} (hd : jj_D M.2.1 pc .i2c 1 pc2) (kk : jj_R M d kc ks (S, n, h, g) pc2 ls (.int (x.toUInt32 % 65536).toInt32 :: st) Q) : jj_R M d kc ks (S, n, h, g) pc ls (.int x :: st) Q := by
  obtain ⟨hd, rfl⟩ := hd
  intro p l e R s m args below meth c H locs cells slots D cs A ad n0 ad0 L q
  exact lv_i2c q.1.1 q.1.2.1 hd rfl (kk p l e R s m args below meth c H locs cells slots D cs A ad n0 ad0 L q)
theorem rr_nreturn {ty : FieldType} {x : Int32} (hd : decode M.2.1 pc = .ok (.ireturn, 1)) (hr : M.2.2.2.1 = some ty) (hx : narrow ty (.int x) = .int x) (kq : Q (.inl (some (.int x))) (S, n, h, g)) : jj_R M d kc ks (S, n, h, g) pc ls [.int x] Q := by
  intro p l e R s m args below meth c H locs cells slots D cs A ad n0 ad0 L q
  have hq : ∀ t : State, t.heap = H → s.WarmedH t.vm → jj_Qc D cs A ad0 n0 Q args s (.returned (some (.int x))) t := fun t ht hW => ⟨⟨some (.int x), (S, n, h, g), ad, rfl, kq, q.2.2.2.2.2.1, q.2.2.2.2.1, by rw [ht]; exact q.2.2.1⟩, q.2.2.2.1.F ht⟩
  refine vx_ret (W.widen (Nat.le_trans (Nat.le_add_right _ _) q.2.1.1) (Nat.le_trans (Nat.le_add_right _ _) q.2.1.2) ?_)
  exact W.zret q.1.1 q.1.2.1 (q.1.2.2.2.1.trans hr) hx hq q.2.2.2.1.2.2 hd (hlocks := q.1.2.2.2.2.1)
end RL
