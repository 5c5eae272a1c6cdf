/-! ===== the heap behind the constructors; the law from its first instruction ===== -/
theorem hB_iv : IVx hB_ := by
  have q42 : ∀ p, p < 8 → hB_ 42 p = -1 := by decide +kernel
  have q497 : ∀ p, p < 8 → hB_ 497 p = 0 ∧ hB_ 497 (8 + p) = 0 ∧ hB_ 497 (16 + p) = 0 ∧ hB_ 497 (24 + p) = -1 := by decide +kernel
  have e497 : hB_ 497 33 = 0 ∧ hB_ 497 34 = 0 ∧ hB_ 497 32 = 0 := by decide +kernel
  have q500 : ∀ w, w < 16 → ∀ i, i < 35 → hB_ (500 + w) i = 0 := by decide +kernel
  have z0 : (0 : Int32) = nI 0 := rfl
  have n1 : nn (hB_ 38) (hB_ 39) (hB_ 40) (hB_ 41) (hB_ 42) (hB_ 497) := by
    refine ⟨⟨⟨e497.1.trans rfl, e497.2.1.trans rfl, e497.2.2.trans rfl⟩, fun p hp => ?_⟩, ⟨0, rfl, by omega, fun p hp => ⟨0, rfl, by omega⟩⟩, fun p hp => ⟨Or.inl rfl, Or.inl (q42 p hp)⟩⟩
    obtain ⟨a1, a2, a3, a4⟩ := q497 p hp
    exact ⟨a1.trans rfl, a2.trans rfl, a3.trans rfl, a4.trans (q42 p hp).symm⟩
  exact iv_0 (fun k _ => rfl) (fun k _ => rfl) rfl rfl rfl rfl rfl rfl rfl rfl rfl (fun p _ => rfl) rfl rfl n1 rfl rfl rfl rfl rfl rfl (fun i _ => rfl) q500
/-- references that are set need not be asked for null -/
def jj_nz (f : Nat → Int32) (s : jj_Sh) : Bool := match s with
  | .inl (_, sl) => (List.range sl.length).all (fun k => match sl.getD k none with | some (false, _) => !(f k == 0) | _ => true)
  | .inr _ => true
theorem jj_nz0 : (List.range 782).all (fun o => jj_nz (hB_ o) (jj_S o)) = true := by decide +kernel
theorem jj_ce_tr {cs : Nat → ClassId} {ad : Nat → Nat} {s : jj_Sh} {f : Nat → Int32} {g : Nat → Int64} (h : jj_nz f s = true) : jj_ce cs ad (jj_tr s) f g = jj_ce cs ad s f g := by
  match s, h with
  | .inl (ci, sl), h =>
    show Sum.inr (ci, jj_fs ad f (sl.map (fun x => x.map (fun q => (true, q.2))))) = Sum.inr (ci, jj_fs ad f sl)
    have e : jj_fs ad f (sl.map (fun x => x.map (fun q => (true, q.2)))) = jj_fs ad f sl := by
      unfold jj_fs
      rw [List.length_map]
      apply List.map_congr_left
      intro k hk
      have hk2 : k < sl.length := List.mem_range.mp hk
      have h1 := List.all_eq_true.mp h k hk
      have e1 : (sl.map (fun x => x.map (fun q => (true, q.2)))).getD k none = (sl.getD k none).map (fun q => (true, q.2)) := by
        rw [List.getD, List.getD, List.getElem?_map, List.getElem?_eq_getElem hk2]
        rfl
      rw [e1]
      generalize sl.getD k none = x at h1 ⊢
      match x, h1 with
      | none, _ => rfl
      | some (true, r), _ => rfl
      | some (false, r), h1 =>
        have h2 : ¬ f k = 0 := by simpa using h1
        show jj_sv ad (f k) (some (true, r)) = jj_sv ad (f k) (some (false, r))
        simp [jj_sv, h2]
    rw [e]
  | .inr _, _ => rfl
theorem jj_TS {cs : Nat → ClassId} {ad : Nat → Nat} : jj_W cs ad (jj_T, 782, hB_, gz_) = jj_W cs ad (jj_S, 782, hB_, gz_) := by
  unfold jj_W
  apply List.map_congr_left
  intro o ho
  show (ad o, jj_ce cs ad (jj_tr (jj_S o)) (hB_ o) (gz_ o)) = (ad o, jj_ce cs ad (jj_S o) (hB_ o) (gz_ o))
  rw [jj_ce_tr (List.all_eq_true.mp jj_nz0 o ho)]
/-- the whole law over any script -/
theorem law_all {len : Nat} {xs : Nat → Int32} {Q : jj_Rs → jj_St → Prop} (hl : len ≤ 4608) (kq : ∀ h g, Q (.inl (some (.int 1))) (jj_S, 782, h, g)) : jj_R (mLw len xs) (4 + 66) 2830 26357 (jj_T, 0, hz_, gz_) 0 [(0, .ref 999998)] [] Q := by
  refine lw_open (d := 4) ?_
  refine jj_resh (τ2 := (jj_S, 782, hB_, gz_)) rfl (fun cs ad => jj_TS) ?_
  exact lw_loop (d := 4) (kc := 0) (ks := 0) hl kq 512 0 hB_ gz_ hB_iv (by omega) (by omega)
/-! what holds at the entry -/
theorem jj_inst0 : jj_cl.all (fun q => jj_tg.contains (Cond.instantiable q.1 q.2.2)) = true := by decide +kernel
theorem jj_K0 {s : State} {args : Array Value} (hts : ∀ w ∈ jj_tg, w.before args s = true) (ho : (Cond.arrayOver (.array .int)).before args s = true) : ∃ (D : va_G) (cs : Nat → ClassId), va_K D jj_cl (jj_ty cs) s := by
  have h1 : ∀ c : Nat, ∃ x : ClassId × (Nat → Nat), ∀ q : vw_C, jj_cl[c]? = some q → u_Kn s q.1 q.2.1 q.2.2 x.1 x.2 := by
    intro c
    cases hq : jj_cl[c]? with
    | none => exact ⟨((0 : Nat), fun _ => 0), fun q h => by cases h⟩
    | some q =>
      obtain ⟨C, T, N⟩ := q
      have hi : Cond.instantiable C N ∈ jj_tg := List.contains_iff_mem.mp (List.all_eq_true.mp jj_inst0 (C, T, N) (List.mem_of_getElem? hq))
      obtain ⟨cC, iS, hK⟩ := u_known hts (jj_uin hq) (hts _ hi)
      exact ⟨(cC, iS), fun q h => by cases h; exact hK⟩
  obtain ⟨F, hF⟩ := Classical.axiomOfChoice h1
  obtain ⟨c0, k0, m0, a0, b0, d0⟩ := Cond.arrayClass_spec (hts (Cond.arrayClass .int) (jj_mem 158 (by decide +kernel) (by decide +kernel)))
  obtain ⟨c1, k1, m1, a1, b1, d1⟩ := Cond.arrayClass_spec (hts (Cond.arrayClass .byte) (jj_mem 241 (by decide +kernel) (by decide +kernel)))
  obtain ⟨c2, k2, m2, a2, b2, d2⟩ := Cond.arrayClass_spec (hts (Cond.arrayClass .boolean) (jj_mem 322 (by decide +kernel) (by decide +kernel)))
  obtain ⟨c3, k3, m3, a3, b3, d3⟩ := Cond.arrayClass_spec (hts (Cond.arrayClass .long) (jj_mem 1519 (by decide +kernel) (by decide +kernel)))
  obtain ⟨m4, c4, k4, -, -, b4, d4, a4⟩ := arrayOverA_spec ho
  refine ⟨(fun c => (F c).1, fun c => (F c).2), fun t => if t = 0 then c0 else if t = 1 then c1 else if t = 2 then c2 else if t = 3 then c3 else c4, fun c q hq => hF c q hq, ?_⟩
  intro k q hk
  match k, hk with
  | 0, hk => cases hk; exact ⟨fun n z => ⟨fun k h => (by cases h), k0, b0, m0, d0⟩, a0⟩
  | 1, hk => cases hk; exact ⟨fun n z => ⟨fun k h => (by cases h), k1, b1, m1, d1⟩, a1⟩
  | 2, hk => cases hk; exact ⟨fun n z => ⟨fun k h => (by cases h), k2, b2, m2, d2⟩, a2⟩
  | 3, hk => cases hk; exact ⟨fun n z => ⟨fun k h => (by cases h), k3, b3, m3, d3⟩, a3⟩
  | 4, hk => cases hk; exact ⟨fun n z => ⟨fun k h => (by cases h), k4, b4, m4, d4⟩, a4⟩
  | k + 5, hk => simp [jj_ty] at hk
def jj_fw : List Cond := flatC (Jvm.Cond.and given_1 narrow_1)
/-- the words of a String constant -/
def jj_sw (q : jj_Sc) : List Cond := .exactly (.string q.1 q.2.1) "java/lang/String" :: .eq (.field (.string q.1 q.2.1) "java/lang/String" "coder" "B") (.int 0) :: .arrayOf (.field (.string q.1 q.2.1) "java/lang/String" "value" "[B") .byte :: .eq (.length (.field (.string q.1 q.2.1) "java/lang/String" "value" "[B")) (.int (Int32.ofNat q.2.2.2.length)) ::
  (List.range q.2.2.2.length).map (fun j => .eq (.elem (.field (.string q.1 q.2.1) "java/lang/String" "value" "[B") (.int (Int32.ofNat j))) (.int (q.2.2.2.getD j 0)))
def jj_ps : List Nat := [35, 88, 99, 111, 124, 139, 153, 169, 186, 204, 221, 240, 258, 279, 300, 321, 346, 369, 394, 420, 446, 475]
theorem jj_sw0 : (jj_ss.zip jj_ps).all (fun z => decide ((jj_fw.drop z.2).take (jj_sw z.1).length = jj_sw z.1)) = true := by decide +kernel
theorem jj_sr0 : jj_ss.all (fun q => lw_tbl.contains (Cond.stringRef q.1 q.2.1 q.2.2.1) && decide (q.2.2.2.length < 1000)) = true := by decide +kernel
theorem jj_swm {i : Nat} {q : jj_Sc} (h : jj_ss[i]? = some q) : ∀ w ∈ jj_sw q, w ∈ jj_fw := by
  have hi : i < 22 := (List.getElem?_eq_some_iff.mp h).1
  have hz : (jj_ss.zip jj_ps)[i]? = some (q, jj_ps.getD i 0) := by
    rw [List.getElem?_zip_eq_some]
    refine ⟨h, ?_⟩
    rw [List.getD, List.getElem?_eq_getElem (show i < jj_ps.length from hi)]
    rfl
  have h1 := List.all_eq_true.mp jj_sw0 _ (List.mem_of_getElem? hz)
  rw [decide_eq_true_eq] at h1
  intro w hw
  rw [← h1] at hw
  exact List.mem_of_mem_drop (List.mem_of_mem_take hw)
theorem jj_X0 {s : State} {args : Array Value} (hts : ∀ w ∈ lw_tbl, w.before args s = true) (hs : ∀ w ∈ jj_fw, w.before args s = true) : ∃ (K V : Nat → Nat) (f : Nat), ∀ ad : Nat → Nat, (∀ i, i < 22 → ad (1000000 + i) = K i ∧ ad (2000000 + i) = V i) → ad 999997 = f → jj_X jj_ss (fun q => s.heap.size ≤ q) ad s s.heap := by
  have hA : ∀ a : Nat, a < s.heap.size → ¬ (fun q => s.heap.size ≤ q) a := fun a h => Nat.not_le.mpr h
  have htg : ∀ w ∈ jj_tg, w.before args s = true := fun w hw => hts w (List.mem_filter.mp hw).1
  have h0 : ∀ i : Nat, ∃ x : Nat × Nat, ∀ q : jj_Sc, jj_ss[i]? = some q → va_O "java/lang/String" x.1 (fun q => s.heap.size ≤ q) s s.heap ∧ va_OF "java/lang/String" "coder" "B" (.int 0) x.1 (fun q => s.heap.size ≤ q) s s.heap ∧ va_OF "java/lang/String" "value" "[B" (.ref x.2) x.1 (fun q => s.heap.size ≤ q) s s.heap ∧ va_T .byte x.2 q.2.2.2.length (fun j => .int (q.2.2.2.getD j 0)) (fun q => s.heap.size ≤ q) s s.heap ∧ vk_R q.1 q.2.1 q.2.2.1 x.1 s := by
    intro i
    cases hq : jj_ss[i]? with
    | none => exact ⟨(0, 0), fun q h => by cases h⟩
    | some q =>
      have hw := jj_swm hq
      have hr := List.all_eq_true.mp jj_sr0 q (List.mem_of_getElem? hq)
      rw [Bool.and_eq_true, decide_eq_true_eq] at hr
      have hlen : q.2.2.2.length < 2 ^ 31 := Nat.lt_trans hr.2 (by decide)
      obtain ⟨a, c, cA, kA, q1, q2, q3, q4, q5, q6, -⟩ := Cond.exactly_spec (args := args) (first := s) (o := none) (s := s) (idx := []) (t := .string q.1 q.2.1) (cls := "java/lang/String") (hs _ (hw _ (by simp [jj_sw])))
      obtain ⟨t, ht, hT⟩ := va_Tof (tm := .field (.string q.1 q.2.1) "java/lang/String" "value" "[B") (ty := .byte) (f := fun j => .int (q.2.2.2.getD j 0)) (A := fun q => s.heap.size ≤ q) hlen (hs _ (hw _ (by simp [jj_sw]))) (va_eqt (hs _ (hw _ (by simp [jj_sw])))) (fun j hj => va_eqt (hs _ (hw _ (List.mem_cons_of_mem _ (List.mem_cons_of_mem _ (List.mem_cons_of_mem _ (List.mem_cons_of_mem _ (List.mem_map.mpr ⟨j, List.mem_range.mpr hj, rfl⟩)))))))) hA
      exact ⟨(a, t), fun q9 h => by cases h; exact ⟨⟨cA, q3, q5, by rw [q6]; exact q2, hA a (Array.getElem?_eq_some_iff.mp q3).1⟩, vk_OFof q1 (va_eqt (hs _ (hw _ (by simp [jj_sw])))) hA, vk_OFof q1 ht hA, hT, vk_R.of (hts _ (List.contains_iff_mem.mp hr.1)) q1⟩⟩
  obtain ⟨F, hF⟩ := Classical.axiomOfChoice h0
  have hfl : ∀ {w : Cond} (i : Nat), jj_fw[i]? = some w → w.before args s = true := fun i h => hs _ (List.mem_of_getElem? h)
  have z2 : va_Z "java/lang/String" "COMPACT_STRINGS" "Z" (.int 1) (fun q => s.heap.size ≤ q) s s.heap := va_Zof (hts _ (List.mem_of_getElem? (i := 704) (by decide +kernel))) (htg _ (jj_mem 102 (by decide +kernel) (by decide +kernel))) (va_eqt (hfl 6 (by decide +kernel))) hA
  have z3 : vx_Zq Bundle.tN "UNASSIGNED_STACK" Bundle.steD (fun q => s.heap.size ≤ q) s s.heap := vx_Zqof (hts _ (List.mem_of_getElem? (i := 634) (by decide +kernel))) (htg _ (jj_mem 98 (by decide +kernel) (by decide +kernel))) (hfl 4 (by decide +kernel)) hA
  have z4 : vx_Zq Bundle.tN "SUPPRESSED_SENTINEL" Bundle.listD (fun q => s.heap.size ≤ q) s s.heap := vx_Zqof (hts _ (List.mem_of_getElem? (i := 636) (by decide +kernel))) (htg _ (jj_mem 98 (by decide +kernel) (by decide +kernel))) (hfl 5 (by decide +kernel)) hA
  have z5 : ∀ w ∈ jj_nt, va_Nw w s := fun w hw => va_Nw.of (jj_nt_ot hw) (hts w (List.mem_filter.mp hw).1)
  have z6 : va_Nc "java/lang/IllegalArgumentException" "java/util/NoSuchElementException" s := va_Nc.of (hfl 34 (by decide +kernel))
  have z7 : va_AOA .int s := hts (Cond.arrayOver (.array .int)) (List.mem_of_getElem? (i := 1368) (by decide +kernel))
  have z8 : va_Zq "jdk/internal/util/Preconditions" "SIOOBE_FORMATTER" "Ljava/util/function/BiFunction;" (fun q => s.heap.size ≤ q) s s.heap := va_Zqof (hts _ (List.mem_of_getElem? (i := 720) (by decide +kernel))) (htg _ (jj_mem 104 (by decide +kernel) (by decide +kernel))) (hfl 7 (by decide +kernel)) hA
  have zs : ∀ (ad : Nat → Nat), (∀ i, i < 22 → ad (1000000 + i) = (F i).1 ∧ ad (2000000 + i) = (F i).2) → ∀ (i : Nat) (q : jj_Sc), jj_ss[i]? = some q → va_O "java/lang/String" (ad (1000000 + i)) (fun q => s.heap.size ≤ q) s s.heap ∧ va_OF "java/lang/String" "coder" "B" (.int 0) (ad (1000000 + i)) (fun q => s.heap.size ≤ q) s s.heap ∧ va_OF "java/lang/String" "value" "[B" (.ref (ad (2000000 + i))) (ad (1000000 + i)) (fun q => s.heap.size ≤ q) s s.heap ∧ va_T .byte (ad (2000000 + i)) q.2.2.2.length (fun j => .int (q.2.2.2.getD j 0)) (fun q => s.heap.size ≤ q) s s.heap ∧ vk_R q.1 q.2.1 q.2.2.1 (ad (1000000 + i)) s := by
    intro ad hd i q hi
    have hi2 : i < 22 := (List.getElem?_eq_some_iff.mp hi).1
    rw [(hd i hi2).1, (hd i hi2).2]
    exact hF i q hi
  rcases z8 with z8 | ⟨t, z8⟩
  · exact ⟨fun i => (F i).1, fun i => (F i).2, 0, fun ad hd _ => ⟨zs ad hd, z2, z3, z4, z5, z6, z7, Or.inl z8⟩⟩
  · exact ⟨fun i => (F i).1, fun i => (F i).2, t, fun ad hd h9 => ⟨zs ad hd, z2, z3, z4, z5, z6, z7, Or.inr (by rw [h9]; exact z8)⟩⟩
