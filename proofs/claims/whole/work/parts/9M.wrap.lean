/-! ===== the law's wrappers: a call of the class, its exceptions counted ===== -/
theorem jn_mem {w : Cond} (i : Nat) (h : lw_tbl[i]? = some w) (hg : jj_nk w = true) : w ∈ jj_nt := List.mem_filter.mpr ⟨List.mem_of_getElem? h, hg⟩
theorem cl_13 : Cond.classLink RL 13 "java/lang/IllegalArgumentException" ∈ jj_tg := jj_mem 598 (by decide +kernel) (by decide +kernel)
theorem cl_31 : Cond.classLink RL 31 "java/util/NoSuchElementException" ∈ jj_tg := jj_mem 997 (by decide +kernel) (by decide +kernel)
theorem ca_iae : Cond.castable "java/lang/IllegalArgumentException" "java/lang/IllegalArgumentException" ∈ jj_nt := jn_mem 609 (by decide +kernel) (by decide +kernel)
theorem ca_nse : Cond.castable "java/util/NoSuchElementException" "java/util/NoSuchElementException" ∈ jj_nt := jn_mem 1012 (by decide +kernel) (by decide +kernel)
theorem vp01 : vp_in 0 1 := vp_in_nI (show 0 < 1 by decide) (by decide)
theorem sb_S0 : ∀ o, o < 782 → jj_sr 999996 (jj_S o) = true := by decide +kernel
theorem sb_S {h : hp_} {g : Nat → Nat → Int64} : jj_sb 999996 (jj_S, 782, h, g) := sb_S0
/-- how a wrapper goes on: b, c: NoSuchElementException, IllegalArgumentException may come; e: the number of IllegalArgumentException -/
def wQ (b c : Bool) (e : Int32) (Q : jj_Rs → jj_St → Prop) (r : jj_Rs) (τ : jj_St) : Prop := ∃ (h9 : hp_) (g9 : Nat → Nat → Int64), τ = (jj_S, 782, h9, g9) ∧ ((∃ v : Int32, r = .inl (some (.int v)) ∧ Q (.inl (some (.int 0))) (jj_S, 782, h9, jj_u3 g9 781 (0 : Int32).toNatClampNeg v.toInt64)) ∨ (b = true ∧ r = .inr "java/util/NoSuchElementException" ∧ Q (.inl (some (.int 1))) (jj_S, 782, h9, g9)) ∨ (c = true ∧ r = .inr "java/lang/IllegalArgumentException" ∧ Q (.inl (some (.int e))) (jj_S, 782, h9, g9)))
def wQB (Q : jj_Rs → jj_St → Prop) (r : jj_Rs) (τ : jj_St) : Prop := ∃ (h9 : hp_) (g9 : Nat → Nat → Int64), τ = (jj_S, 782, h9, g9) ∧ ((∃ v : Int32, r = .inl (some (.int v)) ∧ Q (.inl (some (.int 0))) (jj_S, 782, h9, jj_u3 g9 781 (0 : Int32).toNatClampNeg (if v = 0 then 0 else 1))) ∨ (r = .inr "java/util/NoSuchElementException" ∧ Q (.inl (some (.int 1))) (jj_S, 782, h9, g9)))
def wQL (e : Int32) (Q : jj_Rs → jj_St → Prop) (r : jj_Rs) (τ : jj_St) : Prop := ∃ (h9 : hp_) (g9 : Nat → Nat → Int64), τ = (jj_S, 782, h9, g9) ∧ ((∃ v : Int64, r = .inl (some (.long v)) ∧ Q (.inl (some (.int 0))) (jj_S, 782, h9, jj_u3 g9 781 (0 : Int32).toNatClampNeg v)) ∨ (r = .inr "java/lang/IllegalArgumentException" ∧ Q (.inl (some (.int e))) (jj_S, 782, h9, g9)))
abbrev mL_street : jj_Mt := (yL_street, cL_street, 4, (some .int), [(0, 9, 12, 13)], none)
set_option maxRecDepth 100000 in
theorem okL_street : jj_okW mL_street 3 := ⟨jj_mem 597 rfl rfl, jj_mem 86 (by decide +kernel) (by decide +kernel), by decide +kernel, ⟨by decide +kernel, by decide +kernel, by decide +kernel⟩, by decide, jj_mem 596 (by decide +kernel) (by decide +kernel), rfl⟩
theorem hoL_street : jj_ho mL_street 4 "java/lang/IllegalArgumentException" 12 := ⟨[], _, [], _, rfl, fun z hz => absurd hz (List.not_mem_nil), rfl, by decide, cl_13, ca_iae, rfl⟩
theorem w_street {a1 : Int32} {d kc ks : Nat} {h : hp_} {g : Nat → Nat → Int64} {Q : jj_Rs → jj_St → Prop} (hk : ∀ Q2 : jj_Rs → jj_St → Prop, (∀ r τ, wQ false true 1 Q r τ → Q2 r τ) → jj_R mX9_street d kc ks (jj_S, 782, h, g) 0 [(0, .ref 0), (1, .int a1)] [] Q2) : jj_R mL_street (d + 1) kc ks (jj_S, 782, h, g) 0 [(0, .ref 0), (1, .int a1), (2, .ref 781)] [] Q := by
  refine rr_aload_n 2 rfl rfl dL_street_0 ?_
  refine rr_iconst 0 rfl dL_street_1 ?_
  refine rr_aload_n 0 rfl rfl dL_street_2 ?_
  refine rr_iload_n 1 rfl rfl dL_street_3 ?_
  refine rr_callVH (As := [.int a1]) (rest := [.int 0, .ref 781]) (kc2 := kc) (ks2 := ks) dL_street_4 okX9_street lL_7 lo_0 sh_0 rfl rfl (Nat.le_of_ble_eq_true rfl) (Nat.le_of_ble_eq_true rfl) (by omega) (by simp [jj_rk]) (by simp [jj_rk]) ?_
  refine hk _ (fun r τ w => ?_)
  obtain ⟨h9, g9, rfl, ⟨v, rfl, q⟩ | ⟨z, _⟩ | ⟨_, rfl, q⟩⟩ := w
  · show jj_R mL_street (d + 1) _ _ (jj_S, 782, h9, g9) 7 [(0, .ref 0), (1, .int a1), (2, .ref 781)] [.int v, .int 0, .ref 781] Q
    refine rr_i2l dL_street_7 ?_
    refine rr_lastore dL_street_8 lo_781 sh_781 vp01 ?_
    refine rr_goto dL_street_9 ?_
    refine rr_iconst 0 rfl dL_street_15 ?_
    exact rr_ireturn dL_street_16 rfl q
  · cases z
  · refine ⟨sb_S, by show 782 ≤ 999996; decide, 12, hoL_street, ?_⟩
    refine rr_astore_n [(0, .ref 0), (1, .int a1), (2, .ref 781), (3, .ref 999996)] dL_street_12 rfl (by decide) rfl ?_
    refine rr_iconst 1 rfl dL_street_13 ?_
    exact rr_ireturn dL_street_14 rfl q
abbrev mL_law : jj_Mt := (yL_law, cL_law, 4, (some .int), [(0, 9, 12, 13)], none)
set_option maxRecDepth 100000 in
theorem okL_law : jj_okW mL_law 3 := ⟨jj_mem 806 rfl rfl, jj_mem 86 (by decide +kernel) (by decide +kernel), by decide +kernel, ⟨by decide +kernel, by decide +kernel, by decide +kernel⟩, by decide, jj_mem 805 (by decide +kernel) (by decide +kernel), rfl⟩
theorem hoL_law : jj_ho mL_law 4 "java/lang/IllegalArgumentException" 12 := ⟨[], _, [], _, rfl, fun z hz => absurd hz (List.not_mem_nil), rfl, by decide, cl_13, ca_iae, rfl⟩
theorem w_law {a1 : Int32} {d kc ks : Nat} {h : hp_} {g : Nat → Nat → Int64} {Q : jj_Rs → jj_St → Prop} (hk : ∀ Q2 : jj_Rs → jj_St → Prop, (∀ r τ, wQ false true 1 Q r τ → Q2 r τ) → jj_R mX9_law d kc ks (jj_S, 782, h, g) 0 [(0, .ref 0), (1, .int a1)] [] Q2) : jj_R mL_law (d + 1) kc ks (jj_S, 782, h, g) 0 [(0, .ref 0), (1, .int a1), (2, .ref 781)] [] Q := by
  refine rr_aload_n 2 rfl rfl dL_law_0 ?_
  refine rr_iconst 0 rfl dL_law_1 ?_
  refine rr_aload_n 0 rfl rfl dL_law_2 ?_
  refine rr_iload_n 1 rfl rfl dL_law_3 ?_
  refine rr_callVH (As := [.int a1]) (rest := [.int 0, .ref 781]) (kc2 := kc) (ks2 := ks) dL_law_4 okX9_law lL_15 lo_0 sh_0 rfl rfl (Nat.le_of_ble_eq_true rfl) (Nat.le_of_ble_eq_true rfl) (by omega) (by simp [jj_rk]) (by simp [jj_rk]) ?_
  refine hk _ (fun r τ w => ?_)
  obtain ⟨h9, g9, rfl, ⟨v, rfl, q⟩ | ⟨z, _⟩ | ⟨_, rfl, q⟩⟩ := w
  · show jj_R mL_law (d + 1) _ _ (jj_S, 782, h9, g9) 7 [(0, .ref 0), (1, .int a1), (2, .ref 781)] [.int v, .int 0, .ref 781] Q
    refine rr_i2l dL_law_7 ?_
    refine rr_lastore dL_law_8 lo_781 sh_781 vp01 ?_
    refine rr_goto dL_law_9 ?_
    refine rr_iconst 0 rfl dL_law_15 ?_
    exact rr_ireturn dL_law_16 rfl q
  · cases z
  · refine ⟨sb_S, by show 782 ≤ 999996; decide, 12, hoL_law, ?_⟩
    refine rr_astore_n [(0, .ref 0), (1, .int a1), (2, .ref 781), (3, .ref 999996)] dL_law_12 rfl (by decide) rfl ?_
    refine rr_iconst 1 rfl dL_law_13 ?_
    exact rr_ireturn dL_law_14 rfl q
abbrev mL_work : jj_Mt := (yL_work, cL_work, 4, (some .int), [(0, 9, 12, 13)], none)
set_option maxRecDepth 100000 in
theorem okL_work : jj_okW mL_work 3 := ⟨jj_mem 858 rfl rfl, jj_mem 86 (by decide +kernel) (by decide +kernel), by decide +kernel, ⟨by decide +kernel, by decide +kernel, by decide +kernel⟩, by decide, jj_mem 857 (by decide +kernel) (by decide +kernel), rfl⟩
theorem hoL_work : jj_ho mL_work 4 "java/lang/IllegalArgumentException" 12 := ⟨[], _, [], _, rfl, fun z hz => absurd hz (List.not_mem_nil), rfl, by decide, cl_13, ca_iae, rfl⟩
theorem w_work {a1 : Int32} {d kc ks : Nat} {h : hp_} {g : Nat → Nat → Int64} {Q : jj_Rs → jj_St → Prop} (hk : ∀ Q2 : jj_Rs → jj_St → Prop, (∀ r τ, wQ false true 1 Q r τ → Q2 r τ) → jj_R mX9_work d kc ks (jj_S, 782, h, g) 0 [(0, .ref 0), (1, .int a1)] [] Q2) : jj_R mL_work (d + 1) kc ks (jj_S, 782, h, g) 0 [(0, .ref 0), (1, .int a1), (2, .ref 781)] [] Q := by
  refine rr_aload_n 2 rfl rfl dL_work_0 ?_
  refine rr_iconst 0 rfl dL_work_1 ?_
  refine rr_aload_n 0 rfl rfl dL_work_2 ?_
  refine rr_iload_n 1 rfl rfl dL_work_3 ?_
  refine rr_callVH (As := [.int a1]) (rest := [.int 0, .ref 781]) (kc2 := kc) (ks2 := ks) dL_work_4 okX9_work lL_18 lo_0 sh_0 rfl rfl (Nat.le_of_ble_eq_true rfl) (Nat.le_of_ble_eq_true rfl) (by omega) (by simp [jj_rk]) (by simp [jj_rk]) ?_
  refine hk _ (fun r τ w => ?_)
  obtain ⟨h9, g9, rfl, ⟨v, rfl, q⟩ | ⟨z, _⟩ | ⟨_, rfl, q⟩⟩ := w
  · show jj_R mL_work (d + 1) _ _ (jj_S, 782, h9, g9) 7 [(0, .ref 0), (1, .int a1), (2, .ref 781)] [.int v, .int 0, .ref 781] Q
    refine rr_i2l dL_work_7 ?_
    refine rr_lastore dL_work_8 lo_781 sh_781 vp01 ?_
    refine rr_goto dL_work_9 ?_
    refine rr_iconst 0 rfl dL_work_15 ?_
    exact rr_ireturn dL_work_16 rfl q
  · cases z
  · refine ⟨sb_S, by show 782 ≤ 999996; decide, 12, hoL_work, ?_⟩
    refine rr_astore_n [(0, .ref 0), (1, .int a1), (2, .ref 781), (3, .ref 999996)] dL_work_12 rfl (by decide) rfl ?_
    refine rr_iconst 1 rfl dL_work_13 ?_
    exact rr_ireturn dL_work_14 rfl q
abbrev mL_book : jj_Mt := (yL_book, cL_book, 4, (some .int), [(0, 9, 12, 13)], none)
set_option maxRecDepth 100000 in
theorem okL_book : jj_okW mL_book 3 := ⟨jj_mem 948 rfl rfl, jj_mem 86 (by decide +kernel) (by decide +kernel), by decide +kernel, ⟨by decide +kernel, by decide +kernel, by decide +kernel⟩, by decide, jj_mem 947 (by decide +kernel) (by decide +kernel), rfl⟩
theorem hoL_book : jj_ho mL_book 4 "java/lang/IllegalArgumentException" 12 := ⟨[], _, [], _, rfl, fun z hz => absurd hz (List.not_mem_nil), rfl, by decide, cl_13, ca_iae, rfl⟩
theorem w_book {a1 : Int32} {d kc ks : Nat} {h : hp_} {g : Nat → Nat → Int64} {Q : jj_Rs → jj_St → Prop} (hk : ∀ Q2 : jj_Rs → jj_St → Prop, (∀ r τ, wQ false true 1 Q r τ → Q2 r τ) → jj_R mX9_book d kc ks (jj_S, 782, h, g) 0 [(0, .ref 0), (1, .int a1)] [] Q2) : jj_R mL_book (d + 1) kc ks (jj_S, 782, h, g) 0 [(0, .ref 0), (1, .int a1), (2, .ref 781)] [] Q := by
  refine rr_aload_n 2 rfl rfl dL_book_0 ?_
  refine rr_iconst 0 rfl dL_book_1 ?_
  refine rr_aload_n 0 rfl rfl dL_book_2 ?_
  refine rr_iload_n 1 rfl rfl dL_book_3 ?_
  refine rr_callVH (As := [.int a1]) (rest := [.int 0, .ref 781]) (kc2 := kc) (ks2 := ks) dL_book_4 okX9_book lL_21 lo_0 sh_0 rfl rfl (Nat.le_of_ble_eq_true rfl) (Nat.le_of_ble_eq_true rfl) (by omega) (by simp [jj_rk]) (by simp [jj_rk]) ?_
  refine hk _ (fun r τ w => ?_)
  obtain ⟨h9, g9, rfl, ⟨v, rfl, q⟩ | ⟨z, _⟩ | ⟨_, rfl, q⟩⟩ := w
  · show jj_R mL_book (d + 1) _ _ (jj_S, 782, h9, g9) 7 [(0, .ref 0), (1, .int a1), (2, .ref 781)] [.int v, .int 0, .ref 781] Q
    refine rr_i2l dL_book_7 ?_
    refine rr_lastore dL_book_8 lo_781 sh_781 vp01 ?_
    refine rr_goto dL_book_9 ?_
    refine rr_iconst 0 rfl dL_book_15 ?_
    exact rr_ireturn dL_book_16 rfl q
  · cases z
  · refine ⟨sb_S, by show 782 ≤ 999996; decide, 12, hoL_book, ?_⟩
    refine rr_astore_n [(0, .ref 0), (1, .int a1), (2, .ref 781), (3, .ref 999996)] dL_book_12 rfl (by decide) rfl ?_
    refine rr_iconst 1 rfl dL_book_13 ?_
    exact rr_ireturn dL_book_14 rfl q
abbrev mL_told : jj_Mt := (yL_told, cL_told, 4, (some .int), [(0, 9, 12, 13)], none)
set_option maxRecDepth 100000 in
theorem okL_told : jj_okW mL_told 3 := ⟨jj_mem 972 rfl rfl, jj_mem 86 (by decide +kernel) (by decide +kernel), by decide +kernel, ⟨by decide +kernel, by decide +kernel, by decide +kernel⟩, by decide, jj_mem 971 (by decide +kernel) (by decide +kernel), rfl⟩
theorem hoL_told : jj_ho mL_told 4 "java/lang/IllegalArgumentException" 12 := ⟨[], _, [], _, rfl, fun z hz => absurd hz (List.not_mem_nil), rfl, by decide, cl_13, ca_iae, rfl⟩
theorem w_told {a1 : Int32} {d kc ks : Nat} {h : hp_} {g : Nat → Nat → Int64} {Q : jj_Rs → jj_St → Prop} (hk : ∀ Q2 : jj_Rs → jj_St → Prop, (∀ r τ, wQ false true 1 Q r τ → Q2 r τ) → jj_R mX9_told d kc ks (jj_S, 782, h, g) 0 [(0, .ref 0), (1, .int a1)] [] Q2) : jj_R mL_told (d + 1) kc ks (jj_S, 782, h, g) 0 [(0, .ref 0), (1, .int a1), (2, .ref 781)] [] Q := by
  refine rr_aload_n 2 rfl rfl dL_told_0 ?_
  refine rr_iconst 0 rfl dL_told_1 ?_
  refine rr_aload_n 0 rfl rfl dL_told_2 ?_
  refine rr_iload_n 1 rfl rfl dL_told_3 ?_
  refine rr_callVH (As := [.int a1]) (rest := [.int 0, .ref 781]) (kc2 := kc) (ks2 := ks) dL_told_4 okX9_told lL_24 lo_0 sh_0 rfl rfl (Nat.le_of_ble_eq_true rfl) (Nat.le_of_ble_eq_true rfl) (by omega) (by simp [jj_rk]) (by simp [jj_rk]) ?_
  refine hk _ (fun r τ w => ?_)
  obtain ⟨h9, g9, rfl, ⟨v, rfl, q⟩ | ⟨z, _⟩ | ⟨_, rfl, q⟩⟩ := w
  · show jj_R mL_told (d + 1) _ _ (jj_S, 782, h9, g9) 7 [(0, .ref 0), (1, .int a1), (2, .ref 781)] [.int v, .int 0, .ref 781] Q
    refine rr_i2l dL_told_7 ?_
    refine rr_lastore dL_told_8 lo_781 sh_781 vp01 ?_
    refine rr_goto dL_told_9 ?_
    refine rr_iconst 0 rfl dL_told_15 ?_
    exact rr_ireturn dL_told_16 rfl q
  · cases z
  · refine ⟨sb_S, by show 782 ≤ 999996; decide, 12, hoL_told, ?_⟩
    refine rr_astore_n [(0, .ref 0), (1, .int a1), (2, .ref 781), (3, .ref 999996)] dL_told_12 rfl (by decide) rfl ?_
    refine rr_iconst 1 rfl dL_told_13 ?_
    exact rr_ireturn dL_told_14 rfl q
abbrev mL_person : jj_Mt := (yL_person, cL_person, 5, (some .int), [(0, 10, 13, 31), (0, 10, 17, 13)], none)
set_option maxRecDepth 100000 in
theorem okL_person : jj_okW mL_person 4 := ⟨jj_mem 996 rfl rfl, jj_mem 86 (by decide +kernel) (by decide +kernel), by decide +kernel, ⟨by decide +kernel, by decide +kernel, by decide +kernel⟩, by decide, jj_mem 995 (by decide +kernel) (by decide +kernel), rfl⟩
theorem hoL_person_n : jj_ho mL_person 5 "java/util/NoSuchElementException" 13 := ⟨[], _, _, _, rfl, fun z hz => absurd hz (List.not_mem_nil), rfl, by decide, cl_31, ca_nse, rfl⟩
theorem hoL_person : jj_ho mL_person 5 "java/lang/IllegalArgumentException" 17 := ⟨[⟨0, 10, 13, 31⟩], _, [], _, rfl, fun z hz => by
  rw [List.mem_singleton] at hz
  rw [hz]
  exact ⟨rfl, by decide, cl_31⟩, rfl, by decide, cl_13, ca_iae, rfl⟩
theorem w_person {a1 a2 : Int32} {d kc ks : Nat} {h : hp_} {g : Nat → Nat → Int64} {Q : jj_Rs → jj_St → Prop} (hk : ∀ Q2 : jj_Rs → jj_St → Prop, (∀ r τ, wQ true true 2 Q r τ → Q2 r τ) → jj_R mX9_person d kc ks (jj_S, 782, h, g) 0 [(0, .ref 0), (1, .int a1), (2, .int a2)] [] Q2) : jj_R mL_person (d + 1) kc ks (jj_S, 782, h, g) 0 [(0, .ref 0), (1, .int a1), (2, .int a2), (3, .ref 781)] [] Q := by
  refine rr_aload_n 3 rfl rfl dL_person_0 ?_
  refine rr_iconst 0 rfl dL_person_1 ?_
  refine rr_aload_n 0 rfl rfl dL_person_2 ?_
  refine rr_iload_n 1 rfl rfl dL_person_3 ?_
  refine rr_iload_n 2 rfl rfl dL_person_4 ?_
  refine rr_callVH (As := [.int a1, .int a2]) (rest := [.int 0, .ref 781]) (kc2 := kc) (ks2 := ks) dL_person_5 okX9_person lL_27 lo_0 sh_0 rfl rfl (Nat.le_of_ble_eq_true rfl) (Nat.le_of_ble_eq_true rfl) (by omega) (by simp [jj_rk]) (by simp [jj_rk]) ?_
  refine hk _ (fun r τ w => ?_)
  obtain ⟨h9, g9, rfl, ⟨v, rfl, q⟩ | ⟨_, rfl, q⟩ | ⟨_, rfl, q⟩⟩ := w
  · show jj_R mL_person (d + 1) _ _ (jj_S, 782, h9, g9) 8 [(0, .ref 0), (1, .int a1), (2, .int a2), (3, .ref 781)] [.int v, .int 0, .ref 781] Q
    refine rr_i2l dL_person_8 ?_
    refine rr_lastore dL_person_9 lo_781 sh_781 vp01 ?_
    refine rr_goto dL_person_10 ?_
    refine rr_iconst 0 rfl dL_person_21 ?_
    exact rr_ireturn dL_person_22 rfl q
  · refine ⟨sb_S, by show 782 ≤ 999996; decide, 13, hoL_person_n, ?_⟩
    refine rr_astore [(0, .ref 0), (1, .int a1), (2, .int a2), (3, .ref 781), (4, .ref 999996)] dL_person_13 (by decide) rfl ?_
    refine rr_iconst 1 rfl dL_person_15 ?_
    exact rr_ireturn dL_person_16 rfl q
  · refine ⟨sb_S, by show 782 ≤ 999996; decide, 17, hoL_person, ?_⟩
    refine rr_astore [(0, .ref 0), (1, .int a1), (2, .int a2), (3, .ref 781), (4, .ref 999996)] dL_person_17 (by decide) rfl ?_
    refine rr_iconst 2 rfl dL_person_19 ?_
    exact rr_ireturn dL_person_20 rfl q
abbrev mL_hold : jj_Mt := (yL_hold, cL_hold, 6, (some .int), [(0, 12, 15, 31), (0, 12, 19, 13)], none)
set_option maxRecDepth 100000 in
theorem okL_hold : jj_okW mL_hold 5 := ⟨jj_mem 1030 rfl rfl, jj_mem 86 (by decide +kernel) (by decide +kernel), by decide +kernel, ⟨by decide +kernel, by decide +kernel, by decide +kernel⟩, by decide, jj_mem 1029 (by decide +kernel) (by decide +kernel), rfl⟩
theorem hoL_hold_n : jj_ho mL_hold 7 "java/util/NoSuchElementException" 15 := ⟨[], _, _, _, rfl, fun z hz => absurd hz (List.not_mem_nil), rfl, by decide, cl_31, ca_nse, rfl⟩
theorem hoL_hold : jj_ho mL_hold 7 "java/lang/IllegalArgumentException" 19 := ⟨[⟨0, 12, 15, 31⟩], _, [], _, rfl, fun z hz => by
  rw [List.mem_singleton] at hz
  rw [hz]
  exact ⟨rfl, by decide, cl_31⟩, rfl, by decide, cl_13, ca_iae, rfl⟩
theorem w_hold {a1 a2 a3 : Int32} {d kc ks : Nat} {h : hp_} {g : Nat → Nat → Int64} {Q : jj_Rs → jj_St → Prop} (hk : ∀ Q2 : jj_Rs → jj_St → Prop, (∀ r τ, wQ true true 2 Q r τ → Q2 r τ) → jj_R mX9_hold d kc ks (jj_S, 782, h, g) 0 [(0, .ref 0), (1, .int a1), (2, .int a2), (3, .int a3)] [] Q2) : jj_R mL_hold (d + 1) kc ks (jj_S, 782, h, g) 0 [(0, .ref 0), (1, .int a1), (2, .int a2), (3, .int a3), (4, .ref 781)] [] Q := by
  refine rr_aload 4 rfl dL_hold_0 ?_
  refine rr_iconst 0 rfl dL_hold_2 ?_
  refine rr_aload_n 0 rfl rfl dL_hold_3 ?_
  refine rr_iload_n 1 rfl rfl dL_hold_4 ?_
  refine rr_iload_n 2 rfl rfl dL_hold_5 ?_
  refine rr_iload_n 3 rfl rfl dL_hold_6 ?_
  refine rr_callVH (As := [.int a1, .int a2, .int a3]) (rest := [.int 0, .ref 781]) (kc2 := kc) (ks2 := ks) dL_hold_7 okX9_hold lL_33 lo_0 sh_0 rfl rfl (Nat.le_of_ble_eq_true rfl) (Nat.le_of_ble_eq_true rfl) (by omega) (by simp [jj_rk]) (by simp [jj_rk]) ?_
  refine hk _ (fun r τ w => ?_)
  obtain ⟨h9, g9, rfl, ⟨v, rfl, q⟩ | ⟨_, rfl, q⟩ | ⟨_, rfl, q⟩⟩ := w
  · show jj_R mL_hold (d + 1) _ _ (jj_S, 782, h9, g9) 10 [(0, .ref 0), (1, .int a1), (2, .int a2), (3, .int a3), (4, .ref 781)] [.int v, .int 0, .ref 781] Q
    refine rr_i2l dL_hold_10 ?_
    refine rr_lastore dL_hold_11 lo_781 sh_781 vp01 ?_
    refine rr_goto dL_hold_12 ?_
    refine rr_iconst 0 rfl dL_hold_23 ?_
    exact rr_ireturn dL_hold_24 rfl q
  · refine ⟨sb_S, by show 782 ≤ 999996; decide, 15, hoL_hold_n, ?_⟩
    refine rr_astore [(0, .ref 0), (1, .int a1), (2, .int a2), (3, .int a3), (4, .ref 781), (5, .ref 999996)] dL_hold_15 (by decide) rfl ?_
    refine rr_iconst 1 rfl dL_hold_17 ?_
    exact rr_ireturn dL_hold_18 rfl q
  · refine ⟨sb_S, by show 782 ≤ 999996; decide, 19, hoL_hold, ?_⟩
    refine rr_astore [(0, .ref 0), (1, .int a1), (2, .int a2), (3, .int a3), (4, .ref 781), (5, .ref 999996)] dL_hold_19 (by decide) rfl ?_
    refine rr_iconst 2 rfl dL_hold_21 ?_
    exact rr_ireturn dL_hold_22 rfl q
abbrev mL_would : jj_Mt := (yL_would, cL_would, 11, (some .int), [(0, 22, 25, 13)], none)
set_option maxRecDepth 100000 in
theorem okL_would : jj_okW mL_would 10 := ⟨jj_mem 1041 rfl rfl, jj_mem 86 (by decide +kernel) (by decide +kernel), by decide +kernel, ⟨by decide +kernel, by decide +kernel, by decide +kernel⟩, by decide, jj_mem 1040 (by decide +kernel) (by decide +kernel), rfl⟩
theorem hoL_would : jj_ho mL_would 17 "java/lang/IllegalArgumentException" 25 := ⟨[], _, [], _, rfl, fun z hz => absurd hz (List.not_mem_nil), rfl, by decide, cl_13, ca_iae, rfl⟩
theorem w_would {a1 a2 a3 a4 a5 a6 a7 a8 : Int32} {d kc ks : Nat} {h : hp_} {g : Nat → Nat → Int64} {Q : jj_Rs → jj_St → Prop} (hk : ∀ Q2 : jj_Rs → jj_St → Prop, (∀ r τ, wQ false true 1 Q r τ → Q2 r τ) → jj_R mX9_would d kc ks (jj_S, 782, h, g) 0 [(0, .ref 0), (1, .int a1), (2, .int a2), (3, .int a3), (4, .int a4), (5, .int a5), (6, .int a6), (7, .int a7), (8, .int a8)] [] Q2) : jj_R mL_would (d + 1) kc ks (jj_S, 782, h, g) 0 [(0, .ref 0), (1, .int a1), (2, .int a2), (3, .int a3), (4, .int a4), (5, .int a5), (6, .int a6), (7, .int a7), (8, .int a8), (9, .ref 781)] [] Q := by
  refine rr_aload 9 rfl dL_would_0 ?_
  refine rr_iconst 0 rfl dL_would_2 ?_
  refine rr_aload_n 0 rfl rfl dL_would_3 ?_
  refine rr_iload_n 1 rfl rfl dL_would_4 ?_
  refine rr_iload_n 2 rfl rfl dL_would_5 ?_
  refine rr_iload_n 3 rfl rfl dL_would_6 ?_
  refine rr_iload 4 rfl dL_would_7 ?_
  refine rr_iload 5 rfl dL_would_9 ?_
  refine rr_iload 6 rfl dL_would_11 ?_
  refine rr_iload 7 rfl dL_would_13 ?_
  refine rr_iload 8 rfl dL_would_15 ?_
  refine rr_callVH (As := [.int a1, .int a2, .int a3, .int a4, .int a5, .int a6, .int a7, .int a8]) (rest := [.int 0, .ref 781]) (kc2 := kc) (ks2 := ks) dL_would_17 okX9_would lL_37 lo_0 sh_0 rfl rfl (Nat.le_of_ble_eq_true rfl) (Nat.le_of_ble_eq_true rfl) (by omega) (by simp [jj_rk]) (by simp [jj_rk]) ?_
  refine hk _ (fun r τ w => ?_)
  obtain ⟨h9, g9, rfl, ⟨v, rfl, q⟩ | ⟨z, _⟩ | ⟨_, rfl, q⟩⟩ := w
  · show jj_R mL_would (d + 1) _ _ (jj_S, 782, h9, g9) 20 [(0, .ref 0), (1, .int a1), (2, .int a2), (3, .int a3), (4, .int a4), (5, .int a5), (6, .int a6), (7, .int a7), (8, .int a8), (9, .ref 781)] [.int v, .int 0, .ref 781] Q
    refine rr_i2l dL_would_20 ?_
    refine rr_lastore dL_would_21 lo_781 sh_781 vp01 ?_
    refine rr_goto dL_would_22 ?_
    refine rr_iconst 0 rfl dL_would_29 ?_
    exact rr_ireturn dL_would_30 rfl q
  · cases z
  · refine ⟨sb_S, by show 782 ≤ 999996; decide, 25, hoL_would, ?_⟩
    refine rr_astore [(0, .ref 0), (1, .int a1), (2, .int a2), (3, .int a3), (4, .int a4), (5, .int a5), (6, .int a6), (7, .int a7), (8, .int a8), (9, .ref 781), (10, .ref 999996)] dL_would_25 (by decide) rfl ?_
    refine rr_iconst 1 rfl dL_would_27 ?_
    exact rr_ireturn dL_would_28 rfl q
abbrev mL_can : jj_Mt := (yL_can, cL_can, 5, (some .int), [(0, 17, 20, 31)], none)
set_option maxRecDepth 100000 in
theorem okL_can : jj_okW mL_can 4 := ⟨jj_mem 1050 rfl rfl, jj_mem 86 (by decide +kernel) (by decide +kernel), by decide +kernel, ⟨by decide +kernel, by decide +kernel, by decide +kernel⟩, by decide, jj_mem 1049 (by decide +kernel) (by decide +kernel), rfl⟩
theorem hoL_can_n : jj_ho mL_can 5 "java/util/NoSuchElementException" 20 := ⟨[], _, [], _, rfl, fun z hz => absurd hz (List.not_mem_nil), rfl, by decide, cl_31, ca_nse, rfl⟩
theorem w_can {a1 a2 : Int32} {d kc ks : Nat} {h : hp_} {g : Nat → Nat → Int64} {Q : jj_Rs → jj_St → Prop} (hk : ∀ Q2 : jj_Rs → jj_St → Prop, (∀ r τ, wQB Q r τ → Q2 r τ) → jj_R mX9_can d kc ks (jj_S, 782, h, g) 0 [(0, .ref 0), (1, .int a1), (2, .int a2)] [] Q2) : jj_R mL_can (d + 1) kc ks (jj_S, 782, h, g) 0 [(0, .ref 0), (1, .int a1), (2, .int a2), (3, .ref 781)] [] Q := by
  refine rr_aload_n 3 rfl rfl dL_can_0 ?_
  refine rr_iconst 0 rfl dL_can_1 ?_
  refine rr_aload_n 0 rfl rfl dL_can_2 ?_
  refine rr_iload_n 1 rfl rfl dL_can_3 ?_
  refine rr_iload_n 2 rfl rfl dL_can_4 ?_
  refine rr_callVH (As := [.int a1, .int a2]) (rest := [.int 0, .ref 781]) (kc2 := kc) (ks2 := ks) dL_can_5 okX9_can lL_41 lo_0 sh_0 rfl rfl (Nat.le_of_ble_eq_true rfl) (Nat.le_of_ble_eq_true rfl) (by omega) (by simp [jj_rk]) (by simp [jj_rk]) ?_
  refine hk _ (fun r τ w => ?_)
  obtain ⟨h9, g9, rfl, ⟨v, rfl, q⟩ | ⟨rfl, q⟩⟩ := w
  · show jj_R mL_can (d + 1) _ _ (jj_S, 782, h9, g9) 8 [(0, .ref 0), (1, .int a1), (2, .int a2), (3, .ref 781)] [.int v, .int 0, .ref 781] Q
    refine rr_if_eq dL_can_8 (fun c0 => ?_) (fun c0 => ?_)
    · rw [if_pos c0] at q
      refine rr_lconst 0 rfl dL_can_15 ?_
      refine rr_lastore dL_can_16 lo_781 sh_781 vp01 ?_
      refine rr_goto dL_can_17 ?_
      refine rr_iconst 0 rfl dL_can_24 ?_
      exact rr_ireturn dL_can_25 rfl q
    · rw [if_neg c0] at q
      refine rr_lconst 1 rfl dL_can_11 ?_
      refine rr_goto dL_can_12 ?_
      refine rr_lastore dL_can_16 lo_781 sh_781 vp01 ?_
      refine rr_goto dL_can_17 ?_
      refine rr_iconst 0 rfl dL_can_24 ?_
      exact rr_ireturn dL_can_25 rfl q
  · refine ⟨sb_S, by show 782 ≤ 999996; decide, 20, hoL_can_n, ?_⟩
    refine rr_astore [(0, .ref 0), (1, .int a1), (2, .int a2), (3, .ref 781), (4, .ref 999996)] dL_can_20 (by decide) rfl ?_
    refine rr_iconst 1 rfl dL_can_22 ?_
    exact rr_ireturn dL_can_23 rfl q
abbrev mL_ahead : jj_Mt := (yL_ahead, cL_ahead, 5, (some .int), [(0, 10, 13, 13)], none)
set_option maxRecDepth 100000 in
theorem okL_ahead : jj_okW mL_ahead 4 := ⟨jj_mem 1058 rfl rfl, jj_mem 86 (by decide +kernel) (by decide +kernel), by decide +kernel, ⟨by decide +kernel, by decide +kernel, by decide +kernel⟩, by decide, jj_mem 1057 (by decide +kernel) (by decide +kernel), rfl⟩
theorem hoL_ahead : jj_ho mL_ahead 5 "java/lang/IllegalArgumentException" 13 := ⟨[], _, [], _, rfl, fun z hz => absurd hz (List.not_mem_nil), rfl, by decide, cl_13, ca_iae, rfl⟩
theorem w_ahead {a1 a2 : Int32} {d kc ks : Nat} {h : hp_} {g : Nat → Nat → Int64} {Q : jj_Rs → jj_St → Prop} (hk : ∀ Q2 : jj_Rs → jj_St → Prop, (∀ r τ, wQ false true 1 Q r τ → Q2 r τ) → jj_R mX9_ahead d kc ks (jj_S, 782, h, g) 0 [(0, .ref 0), (1, .int a1), (2, .int a2)] [] Q2) : jj_R mL_ahead (d + 1) kc ks (jj_S, 782, h, g) 0 [(0, .ref 0), (1, .int a1), (2, .int a2), (3, .ref 781)] [] Q := by
  refine rr_aload_n 3 rfl rfl dL_ahead_0 ?_
  refine rr_iconst 0 rfl dL_ahead_1 ?_
  refine rr_aload_n 0 rfl rfl dL_ahead_2 ?_
  refine rr_iload_n 1 rfl rfl dL_ahead_3 ?_
  refine rr_iload_n 2 rfl rfl dL_ahead_4 ?_
  refine rr_callVH (As := [.int a1, .int a2]) (rest := [.int 0, .ref 781]) (kc2 := kc) (ks2 := ks) dL_ahead_5 okX9_ahead lL_45 lo_0 sh_0 rfl rfl (Nat.le_of_ble_eq_true rfl) (Nat.le_of_ble_eq_true rfl) (by omega) (by simp [jj_rk]) (by simp [jj_rk]) ?_
  refine hk _ (fun r τ w => ?_)
  obtain ⟨h9, g9, rfl, ⟨v, rfl, q⟩ | ⟨z, _⟩ | ⟨_, rfl, q⟩⟩ := w
  · show jj_R mL_ahead (d + 1) _ _ (jj_S, 782, h9, g9) 8 [(0, .ref 0), (1, .int a1), (2, .int a2), (3, .ref 781)] [.int v, .int 0, .ref 781] Q
    refine rr_i2l dL_ahead_8 ?_
    refine rr_lastore dL_ahead_9 lo_781 sh_781 vp01 ?_
    refine rr_goto dL_ahead_10 ?_
    refine rr_iconst 0 rfl dL_ahead_17 ?_
    exact rr_ireturn dL_ahead_18 rfl q
  · cases z
  · refine ⟨sb_S, by show 782 ≤ 999996; decide, 13, hoL_ahead, ?_⟩
    refine rr_astore [(0, .ref 0), (1, .int a1), (2, .int a2), (3, .ref 781), (4, .ref 999996)] dL_ahead_13 (by decide) rfl ?_
    refine rr_iconst 1 rfl dL_ahead_15 ?_
    exact rr_ireturn dL_ahead_16 rfl q
abbrev mL_catches : jj_Mt := (yL_catches, cL_catches, 4, (some .int), [(0, 9, 12, 31)], none)
set_option maxRecDepth 100000 in
theorem okL_catches : jj_okW mL_catches 3 := ⟨jj_mem 1074 rfl rfl, jj_mem 86 (by decide +kernel) (by decide +kernel), by decide +kernel, ⟨by decide +kernel, by decide +kernel, by decide +kernel⟩, by decide, jj_mem 1073 (by decide +kernel) (by decide +kernel), rfl⟩
theorem hoL_catches_n : jj_ho mL_catches 4 "java/util/NoSuchElementException" 12 := ⟨[], _, [], _, rfl, fun z hz => absurd hz (List.not_mem_nil), rfl, by decide, cl_31, ca_nse, rfl⟩
theorem w_catches {a1 : Int32} {d kc ks : Nat} {h : hp_} {g : Nat → Nat → Int64} {Q : jj_Rs → jj_St → Prop} (hk : ∀ Q2 : jj_Rs → jj_St → Prop, (∀ r τ, wQ true false 0 Q r τ → Q2 r τ) → jj_R mX9_catches d kc ks (jj_S, 782, h, g) 0 [(0, .ref 0), (1, .int a1)] [] Q2) : jj_R mL_catches (d + 1) kc ks (jj_S, 782, h, g) 0 [(0, .ref 0), (1, .int a1), (2, .ref 781)] [] Q := by
  refine rr_aload_n 2 rfl rfl dL_catches_0 ?_
  refine rr_iconst 0 rfl dL_catches_1 ?_
  refine rr_aload_n 0 rfl rfl dL_catches_2 ?_
  refine rr_iload_n 1 rfl rfl dL_catches_3 ?_
  refine rr_callVH (As := [.int a1]) (rest := [.int 0, .ref 781]) (kc2 := kc) (ks2 := ks) dL_catches_4 okX9_catches lL_48 lo_0 sh_0 rfl rfl (Nat.le_of_ble_eq_true rfl) (Nat.le_of_ble_eq_true rfl) (by omega) (by simp [jj_rk]) (by simp [jj_rk]) ?_
  refine hk _ (fun r τ w => ?_)
  obtain ⟨h9, g9, rfl, ⟨v, rfl, q⟩ | ⟨_, rfl, q⟩ | ⟨z, _⟩⟩ := w
  · show jj_R mL_catches (d + 1) _ _ (jj_S, 782, h9, g9) 7 [(0, .ref 0), (1, .int a1), (2, .ref 781)] [.int v, .int 0, .ref 781] Q
    refine rr_i2l dL_catches_7 ?_
    refine rr_lastore dL_catches_8 lo_781 sh_781 vp01 ?_
    refine rr_goto dL_catches_9 ?_
    refine rr_iconst 0 rfl dL_catches_15 ?_
    exact rr_ireturn dL_catches_16 rfl q
  · refine ⟨sb_S, by show 782 ≤ 999996; decide, 12, hoL_catches_n, ?_⟩
    refine rr_astore_n [(0, .ref 0), (1, .int a1), (2, .ref 781), (3, .ref 999996)] dL_catches_12 rfl (by decide) rfl ?_
    refine rr_iconst 1 rfl dL_catches_13 ?_
    exact rr_ireturn dL_catches_14 rfl q
  · cases z
abbrev mL_far : jj_Mt := (yL_far, cL_far, 5, (some .int), [(0, 10, 13, 31)], none)
set_option maxRecDepth 100000 in
theorem okL_far : jj_okW mL_far 4 := ⟨jj_mem 1082 rfl rfl, jj_mem 86 (by decide +kernel) (by decide +kernel), by decide +kernel, ⟨by decide +kernel, by decide +kernel, by decide +kernel⟩, by decide, jj_mem 1081 (by decide +kernel) (by decide +kernel), rfl⟩
theorem hoL_far_n : jj_ho mL_far 5 "java/util/NoSuchElementException" 13 := ⟨[], _, [], _, rfl, fun z hz => absurd hz (List.not_mem_nil), rfl, by decide, cl_31, ca_nse, rfl⟩
theorem w_far {a1 a2 : Int32} {d kc ks : Nat} {h : hp_} {g : Nat → Nat → Int64} {Q : jj_Rs → jj_St → Prop} (hk : ∀ Q2 : jj_Rs → jj_St → Prop, (∀ r τ, wQ true false 0 Q r τ → Q2 r τ) → jj_R mX9_far d kc ks (jj_S, 782, h, g) 0 [(0, .ref 0), (1, .int a1), (2, .int a2)] [] Q2) : jj_R mL_far (d + 1) kc ks (jj_S, 782, h, g) 0 [(0, .ref 0), (1, .int a1), (2, .int a2), (3, .ref 781)] [] Q := by
  refine rr_aload_n 3 rfl rfl dL_far_0 ?_
  refine rr_iconst 0 rfl dL_far_1 ?_
  refine rr_aload_n 0 rfl rfl dL_far_2 ?_
  refine rr_iload_n 1 rfl rfl dL_far_3 ?_
  refine rr_iload_n 2 rfl rfl dL_far_4 ?_
  refine rr_callVH (As := [.int a1, .int a2]) (rest := [.int 0, .ref 781]) (kc2 := kc) (ks2 := ks) dL_far_5 okX9_far lL_51 lo_0 sh_0 rfl rfl (Nat.le_of_ble_eq_true rfl) (Nat.le_of_ble_eq_true rfl) (by omega) (by simp [jj_rk]) (by simp [jj_rk]) ?_
  refine hk _ (fun r τ w => ?_)
  obtain ⟨h9, g9, rfl, ⟨v, rfl, q⟩ | ⟨_, rfl, q⟩ | ⟨z, _⟩⟩ := w
  · show jj_R mL_far (d + 1) _ _ (jj_S, 782, h9, g9) 8 [(0, .ref 0), (1, .int a1), (2, .int a2), (3, .ref 781)] [.int v, .int 0, .ref 781] Q
    refine rr_i2l dL_far_8 ?_
    refine rr_lastore dL_far_9 lo_781 sh_781 vp01 ?_
    refine rr_goto dL_far_10 ?_
    refine rr_iconst 0 rfl dL_far_17 ?_
    exact rr_ireturn dL_far_18 rfl q
  · refine ⟨sb_S, by show 782 ≤ 999996; decide, 13, hoL_far_n, ?_⟩
    refine rr_astore [(0, .ref 0), (1, .int a1), (2, .int a2), (3, .ref 781), (4, .ref 999996)] dL_far_13 (by decide) rfl ?_
    refine rr_iconst 1 rfl dL_far_15 ?_
    exact rr_ireturn dL_far_16 rfl q
  · cases z
abbrev mL_round : jj_Mt := (yL_round, cL_round, 5, (some .int), [(0, 10, 13, 31), (0, 10, 17, 13)], none)
set_option maxRecDepth 100000 in
theorem okL_round : jj_okW mL_round 4 := ⟨jj_mem 1096 rfl rfl, jj_mem 86 (by decide +kernel) (by decide +kernel), by decide +kernel, ⟨by decide +kernel, by decide +kernel, by decide +kernel⟩, by decide, jj_mem 1095 (by decide +kernel) (by decide +kernel), rfl⟩
theorem hoL_round_n : jj_ho mL_round 5 "java/util/NoSuchElementException" 13 := ⟨[], _, _, _, rfl, fun z hz => absurd hz (List.not_mem_nil), rfl, by decide, cl_31, ca_nse, rfl⟩
theorem hoL_round : jj_ho mL_round 5 "java/lang/IllegalArgumentException" 17 := ⟨[⟨0, 10, 13, 31⟩], _, [], _, rfl, fun z hz => by
  rw [List.mem_singleton] at hz
  rw [hz]
  exact ⟨rfl, by decide, cl_31⟩, rfl, by decide, cl_13, ca_iae, rfl⟩
theorem w_round {a1 a2 : Int32} {d kc ks : Nat} {h : hp_} {g : Nat → Nat → Int64} {Q : jj_Rs → jj_St → Prop} (hk : ∀ Q2 : jj_Rs → jj_St → Prop, (∀ r τ, wQ true true 2 Q r τ → Q2 r τ) → jj_R mX9_round d kc ks (jj_S, 782, h, g) 0 [(0, .ref 0), (1, .int a1), (2, .int a2)] [] Q2) : jj_R mL_round (d + 1) kc ks (jj_S, 782, h, g) 0 [(0, .ref 0), (1, .int a1), (2, .int a2), (3, .ref 781)] [] Q := by
  refine rr_aload_n 3 rfl rfl dL_round_0 ?_
  refine rr_iconst 0 rfl dL_round_1 ?_
  refine rr_aload_n 0 rfl rfl dL_round_2 ?_
  refine rr_iload_n 1 rfl rfl dL_round_3 ?_
  refine rr_iload_n 2 rfl rfl dL_round_4 ?_
  refine rr_callVH (As := [.int a1, .int a2]) (rest := [.int 0, .ref 781]) (kc2 := kc) (ks2 := ks) dL_round_5 okX9_round lL_54 lo_0 sh_0 rfl rfl (Nat.le_of_ble_eq_true rfl) (Nat.le_of_ble_eq_true rfl) (by omega) (by simp [jj_rk]) (by simp [jj_rk]) ?_
  refine hk _ (fun r τ w => ?_)
  obtain ⟨h9, g9, rfl, ⟨v, rfl, q⟩ | ⟨_, rfl, q⟩ | ⟨_, rfl, q⟩⟩ := w
  · show jj_R mL_round (d + 1) _ _ (jj_S, 782, h9, g9) 8 [(0, .ref 0), (1, .int a1), (2, .int a2), (3, .ref 781)] [.int v, .int 0, .ref 781] Q
    refine rr_i2l dL_round_8 ?_
    refine rr_lastore dL_round_9 lo_781 sh_781 vp01 ?_
    refine rr_goto dL_round_10 ?_
    refine rr_iconst 0 rfl dL_round_21 ?_
    exact rr_ireturn dL_round_22 rfl q
  · refine ⟨sb_S, by show 782 ≤ 999996; decide, 13, hoL_round_n, ?_⟩
    refine rr_astore [(0, .ref 0), (1, .int a1), (2, .int a2), (3, .ref 781), (4, .ref 999996)] dL_round_13 (by decide) rfl ?_
    refine rr_iconst 1 rfl dL_round_15 ?_
    exact rr_ireturn dL_round_16 rfl q
  · refine ⟨sb_S, by show 782 ≤ 999996; decide, 17, hoL_round, ?_⟩
    refine rr_astore [(0, .ref 0), (1, .int a1), (2, .int a2), (3, .ref 781), (4, .ref 999996)] dL_round_17 (by decide) rfl ?_
    refine rr_iconst 2 rfl dL_round_19 ?_
    exact rr_ireturn dL_round_20 rfl q
abbrev mL_kneel : jj_Mt := (yL_kneel, cL_kneel, 4, (some .int), [(0, 9, 12, 13)], none)
set_option maxRecDepth 100000 in
theorem okL_kneel : jj_okW mL_kneel 3 := ⟨jj_mem 1122 rfl rfl, jj_mem 86 (by decide +kernel) (by decide +kernel), by decide +kernel, ⟨by decide +kernel, by decide +kernel, by decide +kernel⟩, by decide, jj_mem 1121 (by decide +kernel) (by decide +kernel), rfl⟩
theorem hoL_kneel : jj_ho mL_kneel 4 "java/lang/IllegalArgumentException" 12 := ⟨[], _, [], _, rfl, fun z hz => absurd hz (List.not_mem_nil), rfl, by decide, cl_13, ca_iae, rfl⟩
theorem w_kneel {a1 : Int32} {d kc ks : Nat} {h : hp_} {g : Nat → Nat → Int64} {Q : jj_Rs → jj_St → Prop} (hk : ∀ Q2 : jj_Rs → jj_St → Prop, (∀ r τ, wQ false true 1 Q r τ → Q2 r τ) → jj_R mX9_kneel d kc ks (jj_S, 782, h, g) 0 [(0, .ref 0), (1, .int a1)] [] Q2) : jj_R mL_kneel (d + 1) kc ks (jj_S, 782, h, g) 0 [(0, .ref 0), (1, .int a1), (2, .ref 781)] [] Q := by
  refine rr_aload_n 2 rfl rfl dL_kneel_0 ?_
  refine rr_iconst 0 rfl dL_kneel_1 ?_
  refine rr_aload_n 0 rfl rfl dL_kneel_2 ?_
  refine rr_iload_n 1 rfl rfl dL_kneel_3 ?_
  refine rr_callVH (As := [.int a1]) (rest := [.int 0, .ref 781]) (kc2 := kc) (ks2 := ks) dL_kneel_4 okX9_kneel lL_57 lo_0 sh_0 rfl rfl (Nat.le_of_ble_eq_true rfl) (Nat.le_of_ble_eq_true rfl) (by omega) (by simp [jj_rk]) (by simp [jj_rk]) ?_
  refine hk _ (fun r τ w => ?_)
  obtain ⟨h9, g9, rfl, ⟨v, rfl, q⟩ | ⟨z, _⟩ | ⟨_, rfl, q⟩⟩ := w
  · show jj_R mL_kneel (d + 1) _ _ (jj_S, 782, h9, g9) 7 [(0, .ref 0), (1, .int a1), (2, .ref 781)] [.int v, .int 0, .ref 781] Q
    refine rr_i2l dL_kneel_7 ?_
    refine rr_lastore dL_kneel_8 lo_781 sh_781 vp01 ?_
    refine rr_goto dL_kneel_9 ?_
    refine rr_iconst 0 rfl dL_kneel_15 ?_
    exact rr_ireturn dL_kneel_16 rfl q
  · cases z
  · refine ⟨sb_S, by show 782 ≤ 999996; decide, 12, hoL_kneel, ?_⟩
    refine rr_astore_n [(0, .ref 0), (1, .int a1), (2, .ref 781), (3, .ref 999996)] dL_kneel_12 rfl (by decide) rfl ?_
    refine rr_iconst 1 rfl dL_kneel_13 ?_
    exact rr_ireturn dL_kneel_14 rfl q
abbrev mL_kneels : jj_Mt := (yL_kneels, cL_kneels, 4, (some .int), [(0, 9, 12, 31)], none)
set_option maxRecDepth 100000 in
theorem okL_kneels : jj_okW mL_kneels 3 := ⟨jj_mem 1148 rfl rfl, jj_mem 86 (by decide +kernel) (by decide +kernel), by decide +kernel, ⟨by decide +kernel, by decide +kernel, by decide +kernel⟩, by decide, jj_mem 1147 (by decide +kernel) (by decide +kernel), rfl⟩
theorem hoL_kneels_n : jj_ho mL_kneels 4 "java/util/NoSuchElementException" 12 := ⟨[], _, [], _, rfl, fun z hz => absurd hz (List.not_mem_nil), rfl, by decide, cl_31, ca_nse, rfl⟩
theorem w_kneels {a1 : Int32} {d kc ks : Nat} {h : hp_} {g : Nat → Nat → Int64} {Q : jj_Rs → jj_St → Prop} (hk : ∀ Q2 : jj_Rs → jj_St → Prop, (∀ r τ, wQ true false 0 Q r τ → Q2 r τ) → jj_R mX9_kneels d kc ks (jj_S, 782, h, g) 0 [(0, .ref 0), (1, .int a1)] [] Q2) : jj_R mL_kneels (d + 1) kc ks (jj_S, 782, h, g) 0 [(0, .ref 0), (1, .int a1), (2, .ref 781)] [] Q := by
  refine rr_aload_n 2 rfl rfl dL_kneels_0 ?_
  refine rr_iconst 0 rfl dL_kneels_1 ?_
  refine rr_aload_n 0 rfl rfl dL_kneels_2 ?_
  refine rr_iload_n 1 rfl rfl dL_kneels_3 ?_
  refine rr_callVH (As := [.int a1]) (rest := [.int 0, .ref 781]) (kc2 := kc) (ks2 := ks) dL_kneels_4 okX9_kneels lL_60 lo_0 sh_0 rfl rfl (Nat.le_of_ble_eq_true rfl) (Nat.le_of_ble_eq_true rfl) (by omega) (by simp [jj_rk]) (by simp [jj_rk]) ?_
  refine hk _ (fun r τ w => ?_)
  obtain ⟨h9, g9, rfl, ⟨v, rfl, q⟩ | ⟨_, rfl, q⟩ | ⟨z, _⟩⟩ := w
  · show jj_R mL_kneels (d + 1) _ _ (jj_S, 782, h9, g9) 7 [(0, .ref 0), (1, .int a1), (2, .ref 781)] [.int v, .int 0, .ref 781] Q
    refine rr_i2l dL_kneels_7 ?_
    refine rr_lastore dL_kneels_8 lo_781 sh_781 vp01 ?_
    refine rr_goto dL_kneels_9 ?_
    refine rr_iconst 0 rfl dL_kneels_15 ?_
    exact rr_ireturn dL_kneels_16 rfl q
  · refine ⟨sb_S, by show 782 ≤ 999996; decide, 12, hoL_kneels_n, ?_⟩
    refine rr_astore_n [(0, .ref 0), (1, .int a1), (2, .ref 781), (3, .ref 999996)] dL_kneels_12 rfl (by decide) rfl ?_
    refine rr_iconst 1 rfl dL_kneels_13 ?_
    exact rr_ireturn dL_kneels_14 rfl q
  · cases z
abbrev mL_ring : jj_Mt := (yL_ring, cL_ring, 5, (some .int), [(0, 10, 13, 31), (0, 10, 17, 13)], none)
set_option maxRecDepth 100000 in
theorem okL_ring : jj_okW mL_ring 4 := ⟨jj_mem 1155 rfl rfl, jj_mem 86 (by decide +kernel) (by decide +kernel), by decide +kernel, ⟨by decide +kernel, by decide +kernel, by decide +kernel⟩, by decide, jj_mem 1154 (by decide +kernel) (by decide +kernel), rfl⟩
theorem hoL_ring_n : jj_ho mL_ring 5 "java/util/NoSuchElementException" 13 := ⟨[], _, _, _, rfl, fun z hz => absurd hz (List.not_mem_nil), rfl, by decide, cl_31, ca_nse, rfl⟩
theorem hoL_ring : jj_ho mL_ring 5 "java/lang/IllegalArgumentException" 17 := ⟨[⟨0, 10, 13, 31⟩], _, [], _, rfl, fun z hz => by
  rw [List.mem_singleton] at hz
  rw [hz]
  exact ⟨rfl, by decide, cl_31⟩, rfl, by decide, cl_13, ca_iae, rfl⟩
theorem w_ring {a1 a2 : Int32} {d kc ks : Nat} {h : hp_} {g : Nat → Nat → Int64} {Q : jj_Rs → jj_St → Prop} (hk : ∀ Q2 : jj_Rs → jj_St → Prop, (∀ r τ, wQ true true 2 Q r τ → Q2 r τ) → jj_R mX9_ring d kc ks (jj_S, 782, h, g) 0 [(0, .ref 0), (1, .int a1), (2, .int a2)] [] Q2) : jj_R mL_ring (d + 1) kc ks (jj_S, 782, h, g) 0 [(0, .ref 0), (1, .int a1), (2, .int a2), (3, .ref 781)] [] Q := by
  refine rr_aload_n 3 rfl rfl dL_ring_0 ?_
  refine rr_iconst 0 rfl dL_ring_1 ?_
  refine rr_aload_n 0 rfl rfl dL_ring_2 ?_
  refine rr_iload_n 1 rfl rfl dL_ring_3 ?_
  refine rr_iload_n 2 rfl rfl dL_ring_4 ?_
  refine rr_callVH (As := [.int a1, .int a2]) (rest := [.int 0, .ref 781]) (kc2 := kc) (ks2 := ks) dL_ring_5 okX9_ring lL_63 lo_0 sh_0 rfl rfl (Nat.le_of_ble_eq_true rfl) (Nat.le_of_ble_eq_true rfl) (by omega) (by simp [jj_rk]) (by simp [jj_rk]) ?_
  refine hk _ (fun r τ w => ?_)
  obtain ⟨h9, g9, rfl, ⟨v, rfl, q⟩ | ⟨_, rfl, q⟩ | ⟨_, rfl, q⟩⟩ := w
  · show jj_R mL_ring (d + 1) _ _ (jj_S, 782, h9, g9) 8 [(0, .ref 0), (1, .int a1), (2, .int a2), (3, .ref 781)] [.int v, .int 0, .ref 781] Q
    refine rr_i2l dL_ring_8 ?_
    refine rr_lastore dL_ring_9 lo_781 sh_781 vp01 ?_
    refine rr_goto dL_ring_10 ?_
    refine rr_iconst 0 rfl dL_ring_21 ?_
    exact rr_ireturn dL_ring_22 rfl q
  · refine ⟨sb_S, by show 782 ≤ 999996; decide, 13, hoL_ring_n, ?_⟩
    refine rr_astore [(0, .ref 0), (1, .int a1), (2, .int a2), (3, .ref 781), (4, .ref 999996)] dL_ring_13 (by decide) rfl ?_
    refine rr_iconst 1 rfl dL_ring_15 ?_
    exact rr_ireturn dL_ring_16 rfl q
  · refine ⟨sb_S, by show 782 ≤ 999996; decide, 17, hoL_ring, ?_⟩
    refine rr_astore [(0, .ref 0), (1, .int a1), (2, .int a2), (3, .ref 781), (4, .ref 999996)] dL_ring_17 (by decide) rfl ?_
    refine rr_iconst 2 rfl dL_ring_19 ?_
    exact rr_ireturn dL_ring_20 rfl q
abbrev mL_fits : jj_Mt := (yL_fits, cL_fits, 4, (some .int), [(0, 9, 12, 13)], none)
set_option maxRecDepth 100000 in
theorem okL_fits : jj_okW mL_fits 3 := ⟨jj_mem 1162 rfl rfl, jj_mem 86 (by decide +kernel) (by decide +kernel), by decide +kernel, ⟨by decide +kernel, by decide +kernel, by decide +kernel⟩, by decide, jj_mem 1161 (by decide +kernel) (by decide +kernel), rfl⟩
theorem hoL_fits : jj_ho mL_fits 4 "java/lang/IllegalArgumentException" 12 := ⟨[], _, [], _, rfl, fun z hz => absurd hz (List.not_mem_nil), rfl, by decide, cl_13, ca_iae, rfl⟩
theorem w_fits {a1 : Int32} {d kc ks : Nat} {h : hp_} {g : Nat → Nat → Int64} {Q : jj_Rs → jj_St → Prop} (hk : ∀ Q2 : jj_Rs → jj_St → Prop, (∀ r τ, wQ false true 1 Q r τ → Q2 r τ) → jj_R mX9_fits d kc ks (jj_S, 782, h, g) 0 [(0, .ref 0), (1, .int a1)] [] Q2) : jj_R mL_fits (d + 1) kc ks (jj_S, 782, h, g) 0 [(0, .ref 0), (1, .int a1), (2, .ref 781)] [] Q := by
  refine rr_aload_n 2 rfl rfl dL_fits_0 ?_
  refine rr_iconst 0 rfl dL_fits_1 ?_
  refine rr_aload_n 0 rfl rfl dL_fits_2 ?_
  refine rr_iload_n 1 rfl rfl dL_fits_3 ?_
  refine rr_callVH (As := [.int a1]) (rest := [.int 0, .ref 781]) (kc2 := kc) (ks2 := ks) dL_fits_4 okX9_fits lL_66 lo_0 sh_0 rfl rfl (Nat.le_of_ble_eq_true rfl) (Nat.le_of_ble_eq_true rfl) (by omega) (by simp [jj_rk]) (by simp [jj_rk]) ?_
  refine hk _ (fun r τ w => ?_)
  obtain ⟨h9, g9, rfl, ⟨v, rfl, q⟩ | ⟨z, _⟩ | ⟨_, rfl, q⟩⟩ := w
  · show jj_R mL_fits (d + 1) _ _ (jj_S, 782, h9, g9) 7 [(0, .ref 0), (1, .int a1), (2, .ref 781)] [.int v, .int 0, .ref 781] Q
    refine rr_i2l dL_fits_7 ?_
    refine rr_lastore dL_fits_8 lo_781 sh_781 vp01 ?_
    refine rr_goto dL_fits_9 ?_
    refine rr_iconst 0 rfl dL_fits_15 ?_
    exact rr_ireturn dL_fits_16 rfl q
  · cases z
  · refine ⟨sb_S, by show 782 ≤ 999996; decide, 12, hoL_fits, ?_⟩
    refine rr_astore_n [(0, .ref 0), (1, .int a1), (2, .ref 781), (3, .ref 999996)] dL_fits_12 rfl (by decide) rfl ?_
    refine rr_iconst 1 rfl dL_fits_13 ?_
    exact rr_ireturn dL_fits_14 rfl q
abbrev mL_look : jj_Mt := (yL_look, cL_look, 4, (some .int), [(0, 9, 12, 13)], none)
set_option maxRecDepth 100000 in
theorem okL_look : jj_okW mL_look 3 := ⟨jj_mem 1187 rfl rfl, jj_mem 86 (by decide +kernel) (by decide +kernel), by decide +kernel, ⟨by decide +kernel, by decide +kernel, by decide +kernel⟩, by decide, jj_mem 1186 (by decide +kernel) (by decide +kernel), rfl⟩
theorem hoL_look : jj_ho mL_look 4 "java/lang/IllegalArgumentException" 12 := ⟨[], _, [], _, rfl, fun z hz => absurd hz (List.not_mem_nil), rfl, by decide, cl_13, ca_iae, rfl⟩
theorem w_look {a1 : Int32} {d kc ks : Nat} {h : hp_} {g : Nat → Nat → Int64} {Q : jj_Rs → jj_St → Prop} (hk : ∀ Q2 : jj_Rs → jj_St → Prop, (∀ r τ, wQ false true 1 Q r τ → Q2 r τ) → jj_R mX9_look d kc ks (jj_S, 782, h, g) 0 [(0, .ref 0), (1, .int a1)] [] Q2) : jj_R mL_look (d + 1) kc ks (jj_S, 782, h, g) 0 [(0, .ref 0), (1, .int a1), (2, .ref 781)] [] Q := by
  refine rr_aload_n 2 rfl rfl dL_look_0 ?_
  refine rr_iconst 0 rfl dL_look_1 ?_
  refine rr_aload_n 0 rfl rfl dL_look_2 ?_
  refine rr_iload_n 1 rfl rfl dL_look_3 ?_
  refine rr_callVH (As := [.int a1]) (rest := [.int 0, .ref 781]) (kc2 := kc) (ks2 := ks) dL_look_4 okX9_look lL_69 lo_0 sh_0 rfl rfl (Nat.le_of_ble_eq_true rfl) (Nat.le_of_ble_eq_true rfl) (by omega) (by simp [jj_rk]) (by simp [jj_rk]) ?_
  refine hk _ (fun r τ w => ?_)
  obtain ⟨h9, g9, rfl, ⟨v, rfl, q⟩ | ⟨z, _⟩ | ⟨_, rfl, q⟩⟩ := w
  · show jj_R mL_look (d + 1) _ _ (jj_S, 782, h9, g9) 7 [(0, .ref 0), (1, .int a1), (2, .ref 781)] [.int v, .int 0, .ref 781] Q
    refine rr_i2l dL_look_7 ?_
    refine rr_lastore dL_look_8 lo_781 sh_781 vp01 ?_
    refine rr_goto dL_look_9 ?_
    refine rr_iconst 0 rfl dL_look_15 ?_
    exact rr_ireturn dL_look_16 rfl q
  · cases z
  · refine ⟨sb_S, by show 782 ≤ 999996; decide, 12, hoL_look, ?_⟩
    refine rr_astore_n [(0, .ref 0), (1, .int a1), (2, .ref 781), (3, .ref 999996)] dL_look_12 rfl (by decide) rfl ?_
    refine rr_iconst 1 rfl dL_look_13 ?_
    exact rr_ireturn dL_look_14 rfl q
abbrev mL_soldier : jj_Mt := (yL_soldier, cL_soldier, 6, (some .int), [(0, 12, 15, 13)], none)
set_option maxRecDepth 100000 in
theorem okL_soldier : jj_okW mL_soldier 5 := ⟨jj_mem 1204 rfl rfl, jj_mem 86 (by decide +kernel) (by decide +kernel), by decide +kernel, ⟨by decide +kernel, by decide +kernel, by decide +kernel⟩, by decide, jj_mem 1203 (by decide +kernel) (by decide +kernel), rfl⟩
theorem hoL_soldier : jj_ho mL_soldier 7 "java/lang/IllegalArgumentException" 15 := ⟨[], _, [], _, rfl, fun z hz => absurd hz (List.not_mem_nil), rfl, by decide, cl_13, ca_iae, rfl⟩
theorem w_soldier {a1 a2 a3 : Int32} {d kc ks : Nat} {h : hp_} {g : Nat → Nat → Int64} {Q : jj_Rs → jj_St → Prop} (hk : ∀ Q2 : jj_Rs → jj_St → Prop, (∀ r τ, wQ false true 1 Q r τ → Q2 r τ) → jj_R mX9_soldier d kc ks (jj_S, 782, h, g) 0 [(0, .ref 0), (1, .int a1), (2, .int a2), (3, .int a3)] [] Q2) : jj_R mL_soldier (d + 1) kc ks (jj_S, 782, h, g) 0 [(0, .ref 0), (1, .int a1), (2, .int a2), (3, .int a3), (4, .ref 781)] [] Q := by
  refine rr_aload 4 rfl dL_soldier_0 ?_
  refine rr_iconst 0 rfl dL_soldier_2 ?_
  refine rr_aload_n 0 rfl rfl dL_soldier_3 ?_
  refine rr_iload_n 1 rfl rfl dL_soldier_4 ?_
  refine rr_iload_n 2 rfl rfl dL_soldier_5 ?_
  refine rr_iload_n 3 rfl rfl dL_soldier_6 ?_
  refine rr_callVH (As := [.int a1, .int a2, .int a3]) (rest := [.int 0, .ref 781]) (kc2 := kc) (ks2 := ks) dL_soldier_7 okX9_soldier lL_72 lo_0 sh_0 rfl rfl (Nat.le_of_ble_eq_true rfl) (Nat.le_of_ble_eq_true rfl) (by omega) (by simp [jj_rk]) (by simp [jj_rk]) ?_
  refine hk _ (fun r τ w => ?_)
  obtain ⟨h9, g9, rfl, ⟨v, rfl, q⟩ | ⟨z, _⟩ | ⟨_, rfl, q⟩⟩ := w
  · show jj_R mL_soldier (d + 1) _ _ (jj_S, 782, h9, g9) 10 [(0, .ref 0), (1, .int a1), (2, .int a2), (3, .int a3), (4, .ref 781)] [.int v, .int 0, .ref 781] Q
    refine rr_i2l dL_soldier_10 ?_
    refine rr_lastore dL_soldier_11 lo_781 sh_781 vp01 ?_
    refine rr_goto dL_soldier_12 ?_
    refine rr_iconst 0 rfl dL_soldier_19 ?_
    exact rr_ireturn dL_soldier_20 rfl q
  · cases z
  · refine ⟨sb_S, by show 782 ≤ 999996; decide, 15, hoL_soldier, ?_⟩
    refine rr_astore [(0, .ref 0), (1, .int a1), (2, .int a2), (3, .int a3), (4, .ref 781), (5, .ref 999996)] dL_soldier_15 (by decide) rfl ?_
    refine rr_iconst 1 rfl dL_soldier_17 ?_
    exact rr_ireturn dL_soldier_18 rfl q
abbrev mL_dry : jj_Mt := (yL_dry, cL_dry, 7, (some .int), [(0, 13, 16, 13)], none)
set_option maxRecDepth 100000 in
theorem okL_dry : jj_okW mL_dry 6 := ⟨jj_mem 1217 rfl rfl, jj_mem 86 (by decide +kernel) (by decide +kernel), by decide +kernel, ⟨by decide +kernel, by decide +kernel, by decide +kernel⟩, by decide, jj_mem 1216 (by decide +kernel) (by decide +kernel), rfl⟩
theorem hoL_dry : jj_ho mL_dry 9 "java/lang/IllegalArgumentException" 16 := ⟨[], _, [], _, rfl, fun z hz => absurd hz (List.not_mem_nil), rfl, by decide, cl_13, ca_iae, rfl⟩
theorem w_dry {a1 a2 a3 a4 : Int32} {d kc ks : Nat} {h : hp_} {g : Nat → Nat → Int64} {Q : jj_Rs → jj_St → Prop} (hk : ∀ Q2 : jj_Rs → jj_St → Prop, (∀ r τ, wQL 1 Q r τ → Q2 r τ) → jj_R mX9_dry d kc ks (jj_S, 782, h, g) 0 [(0, .ref 0), (1, .int a1), (2, .int a2), (3, .int a3), (4, .int a4)] [] Q2) : jj_R mL_dry (d + 1) kc ks (jj_S, 782, h, g) 0 [(0, .ref 0), (1, .int a1), (2, .int a2), (3, .int a3), (4, .int a4), (5, .ref 781)] [] Q := by
  refine rr_aload 5 rfl dL_dry_0 ?_
  refine rr_iconst 0 rfl dL_dry_2 ?_
  refine rr_aload_n 0 rfl rfl dL_dry_3 ?_
  refine rr_iload_n 1 rfl rfl dL_dry_4 ?_
  refine rr_iload_n 2 rfl rfl dL_dry_5 ?_
  refine rr_iload_n 3 rfl rfl dL_dry_6 ?_
  refine rr_iload 4 rfl dL_dry_7 ?_
  refine rr_callVH (As := [.int a1, .int a2, .int a3, .int a4]) (rest := [.int 0, .ref 781]) (kc2 := kc) (ks2 := ks) dL_dry_9 okX9_dry lL_75 lo_0 sh_0 rfl rfl (Nat.le_of_ble_eq_true rfl) (Nat.le_of_ble_eq_true rfl) (by omega) (by simp [jj_rk]) (by simp [jj_rk]) ?_
  refine hk _ (fun r τ w => ?_)
  obtain ⟨h9, g9, rfl, ⟨v, rfl, q⟩ | ⟨rfl, q⟩⟩ := w
  · show jj_R mL_dry (d + 1) _ _ (jj_S, 782, h9, g9) 12 [(0, .ref 0), (1, .int a1), (2, .int a2), (3, .int a3), (4, .int a4), (5, .ref 781)] [.long v, .int 0, .ref 781] Q
    refine rr_lastore dL_dry_12 lo_781 sh_781 vp01 ?_
    refine rr_goto dL_dry_13 ?_
    refine rr_iconst 0 rfl dL_dry_20 ?_
    exact rr_ireturn dL_dry_21 rfl q
  · refine ⟨sb_S, by show 782 ≤ 999996; decide, 16, hoL_dry, ?_⟩
    refine rr_astore [(0, .ref 0), (1, .int a1), (2, .int a2), (3, .int a3), (4, .int a4), (5, .ref 781), (6, .ref 999996)] dL_dry_16 (by decide) rfl ?_
    refine rr_iconst 1 rfl dL_dry_18 ?_
    exact rr_ireturn dL_dry_19 rfl q
abbrev mL_share : jj_Mt := (yL_share, cL_share, 6, (some .int), [(0, 12, 15, 31), (0, 12, 19, 13)], none)
set_option maxRecDepth 100000 in
theorem okL_share : jj_okW mL_share 5 := ⟨jj_mem 1227 rfl rfl, jj_mem 86 (by decide +kernel) (by decide +kernel), by decide +kernel, ⟨by decide +kernel, by decide +kernel, by decide +kernel⟩, by decide, jj_mem 1226 (by decide +kernel) (by decide +kernel), rfl⟩
theorem hoL_share_n : jj_ho mL_share 7 "java/util/NoSuchElementException" 15 := ⟨[], _, _, _, rfl, fun z hz => absurd hz (List.not_mem_nil), rfl, by decide, cl_31, ca_nse, rfl⟩
theorem hoL_share : jj_ho mL_share 7 "java/lang/IllegalArgumentException" 19 := ⟨[⟨0, 12, 15, 31⟩], _, [], _, rfl, fun z hz => by
  rw [List.mem_singleton] at hz
  rw [hz]
  exact ⟨rfl, by decide, cl_31⟩, rfl, by decide, cl_13, ca_iae, rfl⟩
theorem w_share {a1 a2 a3 : Int32} {d kc ks : Nat} {h : hp_} {g : Nat → Nat → Int64} {Q : jj_Rs → jj_St → Prop} (hk : ∀ Q2 : jj_Rs → jj_St → Prop, (∀ r τ, wQ true true 2 Q r τ → Q2 r τ) → jj_R mX9_share d kc ks (jj_S, 782, h, g) 0 [(0, .ref 0), (1, .int a1), (2, .int a2), (3, .int a3)] [] Q2) : jj_R mL_share (d + 1) kc ks (jj_S, 782, h, g) 0 [(0, .ref 0), (1, .int a1), (2, .int a2), (3, .int a3), (4, .ref 781)] [] Q := by
  refine rr_aload 4 rfl dL_share_0 ?_
  refine rr_iconst 0 rfl dL_share_2 ?_
  refine rr_aload_n 0 rfl rfl dL_share_3 ?_
  refine rr_iload_n 1 rfl rfl dL_share_4 ?_
  refine rr_iload_n 2 rfl rfl dL_share_5 ?_
  refine rr_iload_n 3 rfl rfl dL_share_6 ?_
  refine rr_callVH (As := [.int a1, .int a2, .int a3]) (rest := [.int 0, .ref 781]) (kc2 := kc) (ks2 := ks) dL_share_7 okX9_share lL_79 lo_0 sh_0 rfl rfl (Nat.le_of_ble_eq_true rfl) (Nat.le_of_ble_eq_true rfl) (by omega) (by simp [jj_rk]) (by simp [jj_rk]) ?_
  refine hk _ (fun r τ w => ?_)
  obtain ⟨h9, g9, rfl, ⟨v, rfl, q⟩ | ⟨_, rfl, q⟩ | ⟨_, rfl, q⟩⟩ := w
  · show jj_R mL_share (d + 1) _ _ (jj_S, 782, h9, g9) 10 [(0, .ref 0), (1, .int a1), (2, .int a2), (3, .int a3), (4, .ref 781)] [.int v, .int 0, .ref 781] Q
    refine rr_i2l dL_share_10 ?_
    refine rr_lastore dL_share_11 lo_781 sh_781 vp01 ?_
    refine rr_goto dL_share_12 ?_
    refine rr_iconst 0 rfl dL_share_23 ?_
    exact rr_ireturn dL_share_24 rfl q
  · refine ⟨sb_S, by show 782 ≤ 999996; decide, 15, hoL_share_n, ?_⟩
    refine rr_astore [(0, .ref 0), (1, .int a1), (2, .int a2), (3, .int a3), (4, .ref 781), (5, .ref 999996)] dL_share_15 (by decide) rfl ?_
    refine rr_iconst 1 rfl dL_share_17 ?_
    exact rr_ireturn dL_share_18 rfl q
  · refine ⟨sb_S, by show 782 ≤ 999996; decide, 19, hoL_share, ?_⟩
    refine rr_astore [(0, .ref 0), (1, .int a1), (2, .int a2), (3, .int a3), (4, .ref 781), (5, .ref 999996)] dL_share_19 (by decide) rfl ?_
    refine rr_iconst 2 rfl dL_share_21 ?_
    exact rr_ireturn dL_share_22 rfl q
abbrev mL_slowest : jj_Mt := (yL_slowest, cL_slowest, 4, (some .int), [(0, 9, 12, 13)], none)
set_option maxRecDepth 100000 in
theorem okL_slowest : jj_okW mL_slowest 3 := ⟨jj_mem 1239 rfl rfl, jj_mem 86 (by decide +kernel) (by decide +kernel), by decide +kernel, ⟨by decide +kernel, by decide +kernel, by decide +kernel⟩, by decide, jj_mem 1238 (by decide +kernel) (by decide +kernel), rfl⟩
theorem hoL_slowest : jj_ho mL_slowest 4 "java/lang/IllegalArgumentException" 12 := ⟨[], _, [], _, rfl, fun z hz => absurd hz (List.not_mem_nil), rfl, by decide, cl_13, ca_iae, rfl⟩
theorem w_slowest {a1 : Int32} {d kc ks : Nat} {h : hp_} {g : Nat → Nat → Int64} {Q : jj_Rs → jj_St → Prop} (hk : ∀ Q2 : jj_Rs → jj_St → Prop, (∀ r τ, wQ false true 1 Q r τ → Q2 r τ) → jj_R mX9_slowest d kc ks (jj_S, 782, h, g) 0 [(0, .ref 0), (1, .int a1)] [] Q2) : jj_R mL_slowest (d + 1) kc ks (jj_S, 782, h, g) 0 [(0, .ref 0), (1, .int a1), (2, .ref 781)] [] Q := by
  refine rr_aload_n 2 rfl rfl dL_slowest_0 ?_
  refine rr_iconst 0 rfl dL_slowest_1 ?_
  refine rr_aload_n 0 rfl rfl dL_slowest_2 ?_
  refine rr_iload_n 1 rfl rfl dL_slowest_3 ?_
  refine rr_callVH (As := [.int a1]) (rest := [.int 0, .ref 781]) (kc2 := kc) (ks2 := ks) dL_slowest_4 okX9_slowest lL_82 lo_0 sh_0 rfl rfl (Nat.le_of_ble_eq_true rfl) (Nat.le_of_ble_eq_true rfl) (by omega) (by simp [jj_rk]) (by simp [jj_rk]) ?_
  refine hk _ (fun r τ w => ?_)
  obtain ⟨h9, g9, rfl, ⟨v, rfl, q⟩ | ⟨z, _⟩ | ⟨_, rfl, q⟩⟩ := w
  · show jj_R mL_slowest (d + 1) _ _ (jj_S, 782, h9, g9) 7 [(0, .ref 0), (1, .int a1), (2, .ref 781)] [.int v, .int 0, .ref 781] Q
    refine rr_i2l dL_slowest_7 ?_
    refine rr_lastore dL_slowest_8 lo_781 sh_781 vp01 ?_
    refine rr_goto dL_slowest_9 ?_
    refine rr_iconst 0 rfl dL_slowest_15 ?_
    exact rr_ireturn dL_slowest_16 rfl q
  · cases z
  · refine ⟨sb_S, by show 782 ≤ 999996; decide, 12, hoL_slowest, ?_⟩
    refine rr_astore_n [(0, .ref 0), (1, .int a1), (2, .ref 781), (3, .ref 999996)] dL_slowest_12 rfl (by decide) rfl ?_
    refine rr_iconst 1 rfl dL_slowest_13 ?_
    exact rr_ireturn dL_slowest_14 rfl q
abbrev mL_helpers : jj_Mt := (yL_helpers, cL_helpers, 4, (some .int), [(0, 9, 12, 31)], none)
set_option maxRecDepth 100000 in
theorem okL_helpers : jj_okW mL_helpers 3 := ⟨jj_mem 1246 rfl rfl, jj_mem 86 (by decide +kernel) (by decide +kernel), by decide +kernel, ⟨by decide +kernel, by decide +kernel, by decide +kernel⟩, by decide, jj_mem 1245 (by decide +kernel) (by decide +kernel), rfl⟩
theorem hoL_helpers_n : jj_ho mL_helpers 4 "java/util/NoSuchElementException" 12 := ⟨[], _, [], _, rfl, fun z hz => absurd hz (List.not_mem_nil), rfl, by decide, cl_31, ca_nse, rfl⟩
theorem w_helpers {a1 : Int32} {d kc ks : Nat} {h : hp_} {g : Nat → Nat → Int64} {Q : jj_Rs → jj_St → Prop} (hk : ∀ Q2 : jj_Rs → jj_St → Prop, (∀ r τ, wQ true false 0 Q r τ → Q2 r τ) → jj_R mX9_helpers d kc ks (jj_S, 782, h, g) 0 [(0, .ref 0), (1, .int a1)] [] Q2) : jj_R mL_helpers (d + 1) kc ks (jj_S, 782, h, g) 0 [(0, .ref 0), (1, .int a1), (2, .ref 781)] [] Q := by
  refine rr_aload_n 2 rfl rfl dL_helpers_0 ?_
  refine rr_iconst 0 rfl dL_helpers_1 ?_
  refine rr_aload_n 0 rfl rfl dL_helpers_2 ?_
  refine rr_iload_n 1 rfl rfl dL_helpers_3 ?_
  refine rr_callVH (As := [.int a1]) (rest := [.int 0, .ref 781]) (kc2 := kc) (ks2 := ks) dL_helpers_4 okX9_helpers lL_85 lo_0 sh_0 rfl rfl (Nat.le_of_ble_eq_true rfl) (Nat.le_of_ble_eq_true rfl) (by omega) (by simp [jj_rk]) (by simp [jj_rk]) ?_
  refine hk _ (fun r τ w => ?_)
  obtain ⟨h9, g9, rfl, ⟨v, rfl, q⟩ | ⟨_, rfl, q⟩ | ⟨z, _⟩⟩ := w
  · show jj_R mL_helpers (d + 1) _ _ (jj_S, 782, h9, g9) 7 [(0, .ref 0), (1, .int a1), (2, .ref 781)] [.int v, .int 0, .ref 781] Q
    refine rr_i2l dL_helpers_7 ?_
    refine rr_lastore dL_helpers_8 lo_781 sh_781 vp01 ?_
    refine rr_goto dL_helpers_9 ?_
    refine rr_iconst 0 rfl dL_helpers_15 ?_
    exact rr_ireturn dL_helpers_16 rfl q
  · refine ⟨sb_S, by show 782 ≤ 999996; decide, 12, hoL_helpers_n, ?_⟩
    refine rr_astore_n [(0, .ref 0), (1, .int a1), (2, .ref 781), (3, .ref 999996)] dL_helpers_12 rfl (by decide) rfl ?_
    refine rr_iconst 1 rfl dL_helpers_13 ?_
    exact rr_ireturn dL_helpers_14 rfl q
  · cases z
abbrev mL_tied : jj_Mt := (yL_tied, cL_tied, 4, (some .int), [(0, 9, 12, 31)], none)
set_option maxRecDepth 100000 in
theorem okL_tied : jj_okW mL_tied 3 := ⟨jj_mem 1254 rfl rfl, jj_mem 86 (by decide +kernel) (by decide +kernel), by decide +kernel, ⟨by decide +kernel, by decide +kernel, by decide +kernel⟩, by decide, jj_mem 1253 (by decide +kernel) (by decide +kernel), rfl⟩
theorem hoL_tied_n : jj_ho mL_tied 4 "java/util/NoSuchElementException" 12 := ⟨[], _, [], _, rfl, fun z hz => absurd hz (List.not_mem_nil), rfl, by decide, cl_31, ca_nse, rfl⟩
theorem w_tied {a1 : Int32} {d kc ks : Nat} {h : hp_} {g : Nat → Nat → Int64} {Q : jj_Rs → jj_St → Prop} (hk : ∀ Q2 : jj_Rs → jj_St → Prop, (∀ r τ, wQ true false 0 Q r τ → Q2 r τ) → jj_R mX9_tied d kc ks (jj_S, 782, h, g) 0 [(0, .ref 0), (1, .int a1)] [] Q2) : jj_R mL_tied (d + 1) kc ks (jj_S, 782, h, g) 0 [(0, .ref 0), (1, .int a1), (2, .ref 781)] [] Q := by
  refine rr_aload_n 2 rfl rfl dL_tied_0 ?_
  refine rr_iconst 0 rfl dL_tied_1 ?_
  refine rr_aload_n 0 rfl rfl dL_tied_2 ?_
  refine rr_iload_n 1 rfl rfl dL_tied_3 ?_
  refine rr_callVH (As := [.int a1]) (rest := [.int 0, .ref 781]) (kc2 := kc) (ks2 := ks) dL_tied_4 okX9_tied lL_88 lo_0 sh_0 rfl rfl (Nat.le_of_ble_eq_true rfl) (Nat.le_of_ble_eq_true rfl) (by omega) (by simp [jj_rk]) (by simp [jj_rk]) ?_
  refine hk _ (fun r τ w => ?_)
  obtain ⟨h9, g9, rfl, ⟨v, rfl, q⟩ | ⟨_, rfl, q⟩ | ⟨z, _⟩⟩ := w
  · show jj_R mL_tied (d + 1) _ _ (jj_S, 782, h9, g9) 7 [(0, .ref 0), (1, .int a1), (2, .ref 781)] [.int v, .int 0, .ref 781] Q
    refine rr_i2l dL_tied_7 ?_
    refine rr_lastore dL_tied_8 lo_781 sh_781 vp01 ?_
    refine rr_goto dL_tied_9 ?_
    refine rr_iconst 0 rfl dL_tied_15 ?_
    exact rr_ireturn dL_tied_16 rfl q
  · refine ⟨sb_S, by show 782 ≤ 999996; decide, 12, hoL_tied_n, ?_⟩
    refine rr_astore_n [(0, .ref 0), (1, .int a1), (2, .ref 781), (3, .ref 999996)] dL_tied_12 rfl (by decide) rfl ?_
    refine rr_iconst 1 rfl dL_tied_13 ?_
    exact rr_ireturn dL_tied_14 rfl q
  · cases z
abbrev mL_within : jj_Mt := (yL_within, cL_within, 4, (some .int), [(0, 9, 12, 13)], none)
set_option maxRecDepth 100000 in
theorem okL_within : jj_okW mL_within 3 := ⟨jj_mem 1261 rfl rfl, jj_mem 86 (by decide +kernel) (by decide +kernel), by decide +kernel, ⟨by decide +kernel, by decide +kernel, by decide +kernel⟩, by decide, jj_mem 1260 (by decide +kernel) (by decide +kernel), rfl⟩
theorem hoL_within : jj_ho mL_within 4 "java/lang/IllegalArgumentException" 12 := ⟨[], _, [], _, rfl, fun z hz => absurd hz (List.not_mem_nil), rfl, by decide, cl_13, ca_iae, rfl⟩
theorem w_within {a1 : Int32} {d kc ks : Nat} {h : hp_} {g : Nat → Nat → Int64} {Q : jj_Rs → jj_St → Prop} (hk : ∀ Q2 : jj_Rs → jj_St → Prop, (∀ r τ, wQ false true 1 Q r τ → Q2 r τ) → jj_R mX9_within d kc ks (jj_S, 782, h, g) 0 [(0, .ref 0), (1, .int a1)] [] Q2) : jj_R mL_within (d + 1) kc ks (jj_S, 782, h, g) 0 [(0, .ref 0), (1, .int a1), (2, .ref 781)] [] Q := by
  refine rr_aload_n 2 rfl rfl dL_within_0 ?_
  refine rr_iconst 0 rfl dL_within_1 ?_
  refine rr_aload_n 0 rfl rfl dL_within_2 ?_
  refine rr_iload_n 1 rfl rfl dL_within_3 ?_
  refine rr_callVH (As := [.int a1]) (rest := [.int 0, .ref 781]) (kc2 := kc) (ks2 := ks) dL_within_4 okX9_within lL_91 lo_0 sh_0 rfl rfl (Nat.le_of_ble_eq_true rfl) (Nat.le_of_ble_eq_true rfl) (by omega) (by simp [jj_rk]) (by simp [jj_rk]) ?_
  refine hk _ (fun r τ w => ?_)
  obtain ⟨h9, g9, rfl, ⟨v, rfl, q⟩ | ⟨z, _⟩ | ⟨_, rfl, q⟩⟩ := w
  · show jj_R mL_within (d + 1) _ _ (jj_S, 782, h9, g9) 7 [(0, .ref 0), (1, .int a1), (2, .ref 781)] [.int v, .int 0, .ref 781] Q
    refine rr_i2l dL_within_7 ?_
    refine rr_lastore dL_within_8 lo_781 sh_781 vp01 ?_
    refine rr_goto dL_within_9 ?_
    refine rr_iconst 0 rfl dL_within_15 ?_
    exact rr_ireturn dL_within_16 rfl q
  · cases z
  · refine ⟨sb_S, by show 782 ≤ 999996; decide, 12, hoL_within, ?_⟩
    refine rr_astore_n [(0, .ref 0), (1, .int a1), (2, .ref 781), (3, .ref 999996)] dL_within_12 rfl (by decide) rfl ?_
    refine rr_iconst 1 rfl dL_within_13 ?_
    exact rr_ireturn dL_within_14 rfl q
abbrev mL_kin : jj_Mt := (yL_kin, cL_kin, 4, (some .int), [(0, 9, 12, 31)], none)
set_option maxRecDepth 100000 in
theorem okL_kin : jj_okW mL_kin 3 := ⟨jj_mem 1268 rfl rfl, jj_mem 86 (by decide +kernel) (by decide +kernel), by decide +kernel, ⟨by decide +kernel, by decide +kernel, by decide +kernel⟩, by decide, jj_mem 1267 (by decide +kernel) (by decide +kernel), rfl⟩
theorem hoL_kin_n : jj_ho mL_kin 4 "java/util/NoSuchElementException" 12 := ⟨[], _, [], _, rfl, fun z hz => absurd hz (List.not_mem_nil), rfl, by decide, cl_31, ca_nse, rfl⟩
theorem w_kin {a1 : Int32} {d kc ks : Nat} {h : hp_} {g : Nat → Nat → Int64} {Q : jj_Rs → jj_St → Prop} (hk : ∀ Q2 : jj_Rs → jj_St → Prop, (∀ r τ, wQ true false 0 Q r τ → Q2 r τ) → jj_R mX9_kin d kc ks (jj_S, 782, h, g) 0 [(0, .ref 0), (1, .int a1)] [] Q2) : jj_R mL_kin (d + 1) kc ks (jj_S, 782, h, g) 0 [(0, .ref 0), (1, .int a1), (2, .ref 781)] [] Q := by
  refine rr_aload_n 2 rfl rfl dL_kin_0 ?_
  refine rr_iconst 0 rfl dL_kin_1 ?_
  refine rr_aload_n 0 rfl rfl dL_kin_2 ?_
  refine rr_iload_n 1 rfl rfl dL_kin_3 ?_
  refine rr_callVH (As := [.int a1]) (rest := [.int 0, .ref 781]) (kc2 := kc) (ks2 := ks) dL_kin_4 okX9_kin lL_94 lo_0 sh_0 rfl rfl (Nat.le_of_ble_eq_true rfl) (Nat.le_of_ble_eq_true rfl) (by omega) (by simp [jj_rk]) (by simp [jj_rk]) ?_
  refine hk _ (fun r τ w => ?_)
  obtain ⟨h9, g9, rfl, ⟨v, rfl, q⟩ | ⟨_, rfl, q⟩ | ⟨z, _⟩⟩ := w
  · show jj_R mL_kin (d + 1) _ _ (jj_S, 782, h9, g9) 7 [(0, .ref 0), (1, .int a1), (2, .ref 781)] [.int v, .int 0, .ref 781] Q
    refine rr_i2l dL_kin_7 ?_
    refine rr_lastore dL_kin_8 lo_781 sh_781 vp01 ?_
    refine rr_goto dL_kin_9 ?_
    refine rr_iconst 0 rfl dL_kin_15 ?_
    exact rr_ireturn dL_kin_16 rfl q
  · refine ⟨sb_S, by show 782 ≤ 999996; decide, 12, hoL_kin_n, ?_⟩
    refine rr_astore_n [(0, .ref 0), (1, .int a1), (2, .ref 781), (3, .ref 999996)] dL_kin_12 rfl (by decide) rfl ?_
    refine rr_iconst 1 rfl dL_kin_13 ?_
    exact rr_ireturn dL_kin_14 rfl q
  · cases z
abbrev mL_best : jj_Mt := (yL_best, cL_best, 4, (some .int), [(0, 9, 12, 31)], none)
set_option maxRecDepth 100000 in
theorem okL_best : jj_okW mL_best 3 := ⟨jj_mem 1279 rfl rfl, jj_mem 86 (by decide +kernel) (by decide +kernel), by decide +kernel, ⟨by decide +kernel, by decide +kernel, by decide +kernel⟩, by decide, jj_mem 1278 (by decide +kernel) (by decide +kernel), rfl⟩
theorem hoL_best_n : jj_ho mL_best 4 "java/util/NoSuchElementException" 12 := ⟨[], _, [], _, rfl, fun z hz => absurd hz (List.not_mem_nil), rfl, by decide, cl_31, ca_nse, rfl⟩
theorem w_best {a1 : Int32} {d kc ks : Nat} {h : hp_} {g : Nat → Nat → Int64} {Q : jj_Rs → jj_St → Prop} (hk : ∀ Q2 : jj_Rs → jj_St → Prop, (∀ r τ, wQ true false 0 Q r τ → Q2 r τ) → jj_R mX9_best d kc ks (jj_S, 782, h, g) 0 [(0, .ref 0), (1, .int a1)] [] Q2) : jj_R mL_best (d + 1) kc ks (jj_S, 782, h, g) 0 [(0, .ref 0), (1, .int a1), (2, .ref 781)] [] Q := by
  refine rr_aload_n 2 rfl rfl dL_best_0 ?_
  refine rr_iconst 0 rfl dL_best_1 ?_
  refine rr_aload_n 0 rfl rfl dL_best_2 ?_
  refine rr_iload_n 1 rfl rfl dL_best_3 ?_
  refine rr_callVH (As := [.int a1]) (rest := [.int 0, .ref 781]) (kc2 := kc) (ks2 := ks) dL_best_4 okX9_best lL_97 lo_0 sh_0 rfl rfl (Nat.le_of_ble_eq_true rfl) (Nat.le_of_ble_eq_true rfl) (by omega) (by simp [jj_rk]) (by simp [jj_rk]) ?_
  refine hk _ (fun r τ w => ?_)
  obtain ⟨h9, g9, rfl, ⟨v, rfl, q⟩ | ⟨_, rfl, q⟩ | ⟨z, _⟩⟩ := w
  · show jj_R mL_best (d + 1) _ _ (jj_S, 782, h9, g9) 7 [(0, .ref 0), (1, .int a1), (2, .ref 781)] [.int v, .int 0, .ref 781] Q
    refine rr_i2l dL_best_7 ?_
    refine rr_lastore dL_best_8 lo_781 sh_781 vp01 ?_
    refine rr_goto dL_best_9 ?_
    refine rr_iconst 0 rfl dL_best_15 ?_
    exact rr_ireturn dL_best_16 rfl q
  · refine ⟨sb_S, by show 782 ≤ 999996; decide, 12, hoL_best_n, ?_⟩
    refine rr_astore_n [(0, .ref 0), (1, .int a1), (2, .ref 781), (3, .ref 999996)] dL_best_12 rfl (by decide) rfl ?_
    refine rr_iconst 1 rfl dL_best_13 ?_
    exact rr_ireturn dL_best_14 rfl q
  · cases z
abbrev mL_gap : jj_Mt := (yL_gap, cL_gap, 5, (some .int), [(0, 10, 13, 31)], none)
set_option maxRecDepth 100000 in
theorem okL_gap : jj_okW mL_gap 4 := ⟨jj_mem 1286 rfl rfl, jj_mem 86 (by decide +kernel) (by decide +kernel), by decide +kernel, ⟨by decide +kernel, by decide +kernel, by decide +kernel⟩, by decide, jj_mem 1285 (by decide +kernel) (by decide +kernel), rfl⟩
theorem hoL_gap_n : jj_ho mL_gap 5 "java/util/NoSuchElementException" 13 := ⟨[], _, [], _, rfl, fun z hz => absurd hz (List.not_mem_nil), rfl, by decide, cl_31, ca_nse, rfl⟩
theorem w_gap {a1 a2 : Int32} {d kc ks : Nat} {h : hp_} {g : Nat → Nat → Int64} {Q : jj_Rs → jj_St → Prop} (hk : ∀ Q2 : jj_Rs → jj_St → Prop, (∀ r τ, wQ true false 0 Q r τ → Q2 r τ) → jj_R mX9_gap d kc ks (jj_S, 782, h, g) 0 [(0, .ref 0), (1, .int a1), (2, .int a2)] [] Q2) : jj_R mL_gap (d + 1) kc ks (jj_S, 782, h, g) 0 [(0, .ref 0), (1, .int a1), (2, .int a2), (3, .ref 781)] [] Q := by
  refine rr_aload_n 3 rfl rfl dL_gap_0 ?_
  refine rr_iconst 0 rfl dL_gap_1 ?_
  refine rr_aload_n 0 rfl rfl dL_gap_2 ?_
  refine rr_iload_n 1 rfl rfl dL_gap_3 ?_
  refine rr_iload_n 2 rfl rfl dL_gap_4 ?_
  refine rr_callVH (As := [.int a1, .int a2]) (rest := [.int 0, .ref 781]) (kc2 := kc) (ks2 := ks) dL_gap_5 okX9_gap lL_100 lo_0 sh_0 rfl rfl (Nat.le_of_ble_eq_true rfl) (Nat.le_of_ble_eq_true rfl) (by omega) (by simp [jj_rk]) (by simp [jj_rk]) ?_
  refine hk _ (fun r τ w => ?_)
  obtain ⟨h9, g9, rfl, ⟨v, rfl, q⟩ | ⟨_, rfl, q⟩ | ⟨z, _⟩⟩ := w
  · show jj_R mL_gap (d + 1) _ _ (jj_S, 782, h9, g9) 8 [(0, .ref 0), (1, .int a1), (2, .int a2), (3, .ref 781)] [.int v, .int 0, .ref 781] Q
    refine rr_i2l dL_gap_8 ?_
    refine rr_lastore dL_gap_9 lo_781 sh_781 vp01 ?_
    refine rr_goto dL_gap_10 ?_
    refine rr_iconst 0 rfl dL_gap_17 ?_
    exact rr_ireturn dL_gap_18 rfl q
  · refine ⟨sb_S, by show 782 ≤ 999996; decide, 13, hoL_gap_n, ?_⟩
    refine rr_astore [(0, .ref 0), (1, .int a1), (2, .int a2), (3, .ref 781), (4, .ref 999996)] dL_gap_13 (by decide) rfl ?_
    refine rr_iconst 1 rfl dL_gap_15 ?_
    exact rr_ireturn dL_gap_16 rfl q
  · cases z
abbrev mL_nearest : jj_Mt := (yL_nearest, cL_nearest, 4, (some .int), [(0, 9, 12, 31)], none)
set_option maxRecDepth 100000 in
theorem okL_nearest : jj_okW mL_nearest 3 := ⟨jj_mem 1293 rfl rfl, jj_mem 86 (by decide +kernel) (by decide +kernel), by decide +kernel, ⟨by decide +kernel, by decide +kernel, by decide +kernel⟩, by decide, jj_mem 1292 (by decide +kernel) (by decide +kernel), rfl⟩
theorem hoL_nearest_n : jj_ho mL_nearest 4 "java/util/NoSuchElementException" 12 := ⟨[], _, [], _, rfl, fun z hz => absurd hz (List.not_mem_nil), rfl, by decide, cl_31, ca_nse, rfl⟩
theorem w_nearest {a1 : Int32} {d kc ks : Nat} {h : hp_} {g : Nat → Nat → Int64} {Q : jj_Rs → jj_St → Prop} (hk : ∀ Q2 : jj_Rs → jj_St → Prop, (∀ r τ, wQ true false 0 Q r τ → Q2 r τ) → jj_R mX9_nearest d kc ks (jj_S, 782, h, g) 0 [(0, .ref 0), (1, .int a1)] [] Q2) : jj_R mL_nearest (d + 1) kc ks (jj_S, 782, h, g) 0 [(0, .ref 0), (1, .int a1), (2, .ref 781)] [] Q := by
  refine rr_aload_n 2 rfl rfl dL_nearest_0 ?_
  refine rr_iconst 0 rfl dL_nearest_1 ?_
  refine rr_aload_n 0 rfl rfl dL_nearest_2 ?_
  refine rr_iload_n 1 rfl rfl dL_nearest_3 ?_
  refine rr_callVH (As := [.int a1]) (rest := [.int 0, .ref 781]) (kc2 := kc) (ks2 := ks) dL_nearest_4 okX9_nearest lL_103 lo_0 sh_0 rfl rfl (Nat.le_of_ble_eq_true rfl) (Nat.le_of_ble_eq_true rfl) (by omega) (by simp [jj_rk]) (by simp [jj_rk]) ?_
  refine hk _ (fun r τ w => ?_)
  obtain ⟨h9, g9, rfl, ⟨v, rfl, q⟩ | ⟨_, rfl, q⟩ | ⟨z, _⟩⟩ := w
  · show jj_R mL_nearest (d + 1) _ _ (jj_S, 782, h9, g9) 7 [(0, .ref 0), (1, .int a1), (2, .ref 781)] [.int v, .int 0, .ref 781] Q
    refine rr_i2l dL_nearest_7 ?_
    refine rr_lastore dL_nearest_8 lo_781 sh_781 vp01 ?_
    refine rr_goto dL_nearest_9 ?_
    refine rr_iconst 0 rfl dL_nearest_15 ?_
    exact rr_ireturn dL_nearest_16 rfl q
  · refine ⟨sb_S, by show 782 ≤ 999996; decide, 12, hoL_nearest_n, ?_⟩
    refine rr_astore_n [(0, .ref 0), (1, .int a1), (2, .ref 781), (3, .ref 999996)] dL_nearest_12 rfl (by decide) rfl ?_
    refine rr_iconst 1 rfl dL_nearest_13 ?_
    exact rr_ireturn dL_nearest_14 rfl q
  · cases z
abbrev mL_later : jj_Mt := (yL_later, cL_later, 5, (some .int), [(0, 10, 13, 31), (0, 10, 17, 13)], none)
set_option maxRecDepth 100000 in
theorem okL_later : jj_okW mL_later 4 := ⟨jj_mem 1300 rfl rfl, jj_mem 86 (by decide +kernel) (by decide +kernel), by decide +kernel, ⟨by decide +kernel, by decide +kernel, by decide +kernel⟩, by decide, jj_mem 1299 (by decide +kernel) (by decide +kernel), rfl⟩
theorem hoL_later_n : jj_ho mL_later 5 "java/util/NoSuchElementException" 13 := ⟨[], _, _, _, rfl, fun z hz => absurd hz (List.not_mem_nil), rfl, by decide, cl_31, ca_nse, rfl⟩
theorem hoL_later : jj_ho mL_later 5 "java/lang/IllegalArgumentException" 17 := ⟨[⟨0, 10, 13, 31⟩], _, [], _, rfl, fun z hz => by
  rw [List.mem_singleton] at hz
  rw [hz]
  exact ⟨rfl, by decide, cl_31⟩, rfl, by decide, cl_13, ca_iae, rfl⟩
theorem w_later {a1 a2 : Int32} {d kc ks : Nat} {h : hp_} {g : Nat → Nat → Int64} {Q : jj_Rs → jj_St → Prop} (hk : ∀ Q2 : jj_Rs → jj_St → Prop, (∀ r τ, wQ true true 2 Q r τ → Q2 r τ) → jj_R mX9_later d kc ks (jj_S, 782, h, g) 0 [(0, .ref 0), (1, .int a1), (2, .int a2)] [] Q2) : jj_R mL_later (d + 1) kc ks (jj_S, 782, h, g) 0 [(0, .ref 0), (1, .int a1), (2, .int a2), (3, .ref 781)] [] Q := by
  refine rr_aload_n 3 rfl rfl dL_later_0 ?_
  refine rr_iconst 0 rfl dL_later_1 ?_
  refine rr_aload_n 0 rfl rfl dL_later_2 ?_
  refine rr_iload_n 1 rfl rfl dL_later_3 ?_
  refine rr_iload_n 2 rfl rfl dL_later_4 ?_
  refine rr_callVH (As := [.int a1, .int a2]) (rest := [.int 0, .ref 781]) (kc2 := kc) (ks2 := ks) dL_later_5 okX9_later lL_106 lo_0 sh_0 rfl rfl (Nat.le_of_ble_eq_true rfl) (Nat.le_of_ble_eq_true rfl) (by omega) (by simp [jj_rk]) (by simp [jj_rk]) ?_
  refine hk _ (fun r τ w => ?_)
  obtain ⟨h9, g9, rfl, ⟨v, rfl, q⟩ | ⟨_, rfl, q⟩ | ⟨_, rfl, q⟩⟩ := w
  · show jj_R mL_later (d + 1) _ _ (jj_S, 782, h9, g9) 8 [(0, .ref 0), (1, .int a1), (2, .int a2), (3, .ref 781)] [.int v, .int 0, .ref 781] Q
    refine rr_i2l dL_later_8 ?_
    refine rr_lastore dL_later_9 lo_781 sh_781 vp01 ?_
    refine rr_goto dL_later_10 ?_
    refine rr_iconst 0 rfl dL_later_21 ?_
    exact rr_ireturn dL_later_22 rfl q
  · refine ⟨sb_S, by show 782 ≤ 999996; decide, 13, hoL_later_n, ?_⟩
    refine rr_astore [(0, .ref 0), (1, .int a1), (2, .int a2), (3, .ref 781), (4, .ref 999996)] dL_later_13 (by decide) rfl ?_
    refine rr_iconst 1 rfl dL_later_15 ?_
    exact rr_ireturn dL_later_16 rfl q
  · refine ⟨sb_S, by show 782 ≤ 999996; decide, 17, hoL_later, ?_⟩
    refine rr_astore [(0, .ref 0), (1, .int a1), (2, .int a2), (3, .ref 781), (4, .ref 999996)] dL_later_17 (by decide) rfl ?_
    refine rr_iconst 2 rfl dL_later_19 ?_
    exact rr_ireturn dL_later_20 rfl q
abbrev mL_farthest : jj_Mt := (yL_farthest, cL_farthest, 4, (some .int), [(0, 9, 12, 13)], none)
set_option maxRecDepth 100000 in
theorem okL_farthest : jj_okW mL_farthest 3 := ⟨jj_mem 1307 rfl rfl, jj_mem 86 (by decide +kernel) (by decide +kernel), by decide +kernel, ⟨by decide +kernel, by decide +kernel, by decide +kernel⟩, by decide, jj_mem 1306 (by decide +kernel) (by decide +kernel), rfl⟩
theorem hoL_farthest : jj_ho mL_farthest 4 "java/lang/IllegalArgumentException" 12 := ⟨[], _, [], _, rfl, fun z hz => absurd hz (List.not_mem_nil), rfl, by decide, cl_13, ca_iae, rfl⟩
theorem w_farthest {a1 : Int32} {d kc ks : Nat} {h : hp_} {g : Nat → Nat → Int64} {Q : jj_Rs → jj_St → Prop} (hk : ∀ Q2 : jj_Rs → jj_St → Prop, (∀ r τ, wQ false true 1 Q r τ → Q2 r τ) → jj_R mX9_farthest d kc ks (jj_S, 782, h, g) 0 [(0, .ref 0), (1, .int a1)] [] Q2) : jj_R mL_farthest (d + 1) kc ks (jj_S, 782, h, g) 0 [(0, .ref 0), (1, .int a1), (2, .ref 781)] [] Q := by
  refine rr_aload_n 2 rfl rfl dL_farthest_0 ?_
  refine rr_iconst 0 rfl dL_farthest_1 ?_
  refine rr_aload_n 0 rfl rfl dL_farthest_2 ?_
  refine rr_iload_n 1 rfl rfl dL_farthest_3 ?_
  refine rr_callVH (As := [.int a1]) (rest := [.int 0, .ref 781]) (kc2 := kc) (ks2 := ks) dL_farthest_4 okX9_farthest lL_109 lo_0 sh_0 rfl rfl (Nat.le_of_ble_eq_true rfl) (Nat.le_of_ble_eq_true rfl) (by omega) (by simp [jj_rk]) (by simp [jj_rk]) ?_
  refine hk _ (fun r τ w => ?_)
  obtain ⟨h9, g9, rfl, ⟨v, rfl, q⟩ | ⟨z, _⟩ | ⟨_, rfl, q⟩⟩ := w
  · show jj_R mL_farthest (d + 1) _ _ (jj_S, 782, h9, g9) 7 [(0, .ref 0), (1, .int a1), (2, .ref 781)] [.int v, .int 0, .ref 781] Q
    refine rr_i2l dL_farthest_7 ?_
    refine rr_lastore dL_farthest_8 lo_781 sh_781 vp01 ?_
    refine rr_goto dL_farthest_9 ?_
    refine rr_iconst 0 rfl dL_farthest_15 ?_
    exact rr_ireturn dL_farthest_16 rfl q
  · cases z
  · refine ⟨sb_S, by show 782 ≤ 999996; decide, 12, hoL_farthest, ?_⟩
    refine rr_astore_n [(0, .ref 0), (1, .int a1), (2, .ref 781), (3, .ref 999996)] dL_farthest_12 rfl (by decide) rfl ?_
    refine rr_iconst 1 rfl dL_farthest_13 ?_
    exact rr_ireturn dL_farthest_14 rfl q
abbrev mL_mates : jj_Mt := (yL_mates, cL_mates, 4, (some .int), [(0, 9, 12, 31)], none)
set_option maxRecDepth 100000 in
theorem okL_mates : jj_okW mL_mates 3 := ⟨jj_mem 1314 rfl rfl, jj_mem 86 (by decide +kernel) (by decide +kernel), by decide +kernel, ⟨by decide +kernel, by decide +kernel, by decide +kernel⟩, by decide, jj_mem 1313 (by decide +kernel) (by decide +kernel), rfl⟩
theorem hoL_mates_n : jj_ho mL_mates 4 "java/util/NoSuchElementException" 12 := ⟨[], _, [], _, rfl, fun z hz => absurd hz (List.not_mem_nil), rfl, by decide, cl_31, ca_nse, rfl⟩
theorem w_mates {a1 : Int32} {d kc ks : Nat} {h : hp_} {g : Nat → Nat → Int64} {Q : jj_Rs → jj_St → Prop} (hk : ∀ Q2 : jj_Rs → jj_St → Prop, (∀ r τ, wQ true false 0 Q r τ → Q2 r τ) → jj_R mX9_mates d kc ks (jj_S, 782, h, g) 0 [(0, .ref 0), (1, .int a1)] [] Q2) : jj_R mL_mates (d + 1) kc ks (jj_S, 782, h, g) 0 [(0, .ref 0), (1, .int a1), (2, .ref 781)] [] Q := by
  refine rr_aload_n 2 rfl rfl dL_mates_0 ?_
  refine rr_iconst 0 rfl dL_mates_1 ?_
  refine rr_aload_n 0 rfl rfl dL_mates_2 ?_
  refine rr_iload_n 1 rfl rfl dL_mates_3 ?_
  refine rr_callVH (As := [.int a1]) (rest := [.int 0, .ref 781]) (kc2 := kc) (ks2 := ks) dL_mates_4 okX9_mates lL_112 lo_0 sh_0 rfl rfl (Nat.le_of_ble_eq_true rfl) (Nat.le_of_ble_eq_true rfl) (by omega) (by simp [jj_rk]) (by simp [jj_rk]) ?_
  refine hk _ (fun r τ w => ?_)
  obtain ⟨h9, g9, rfl, ⟨v, rfl, q⟩ | ⟨_, rfl, q⟩ | ⟨z, _⟩⟩ := w
  · show jj_R mL_mates (d + 1) _ _ (jj_S, 782, h9, g9) 7 [(0, .ref 0), (1, .int a1), (2, .ref 781)] [.int v, .int 0, .ref 781] Q
    refine rr_i2l dL_mates_7 ?_
    refine rr_lastore dL_mates_8 lo_781 sh_781 vp01 ?_
    refine rr_goto dL_mates_9 ?_
    refine rr_iconst 0 rfl dL_mates_15 ?_
    exact rr_ireturn dL_mates_16 rfl q
  · refine ⟨sb_S, by show 782 ≤ 999996; decide, 12, hoL_mates_n, ?_⟩
    refine rr_astore_n [(0, .ref 0), (1, .int a1), (2, .ref 781), (3, .ref 999996)] dL_mates_12 rfl (by decide) rfl ?_
    refine rr_iconst 1 rfl dL_mates_13 ?_
    exact rr_ireturn dL_mates_14 rfl q
  · cases z
abbrev mL_middle : jj_Mt := (yL_middle, cL_middle, 4, (some .int), [(0, 9, 12, 13)], none)
set_option maxRecDepth 100000 in
theorem okL_middle : jj_okW mL_middle 3 := ⟨jj_mem 1321 rfl rfl, jj_mem 86 (by decide +kernel) (by decide +kernel), by decide +kernel, ⟨by decide +kernel, by decide +kernel, by decide +kernel⟩, by decide, jj_mem 1320 (by decide +kernel) (by decide +kernel), rfl⟩
theorem hoL_middle : jj_ho mL_middle 4 "java/lang/IllegalArgumentException" 12 := ⟨[], _, [], _, rfl, fun z hz => absurd hz (List.not_mem_nil), rfl, by decide, cl_13, ca_iae, rfl⟩
theorem w_middle {a1 : Int32} {d kc ks : Nat} {h : hp_} {g : Nat → Nat → Int64} {Q : jj_Rs → jj_St → Prop} (hk : ∀ Q2 : jj_Rs → jj_St → Prop, (∀ r τ, wQ false true 1 Q r τ → Q2 r τ) → jj_R mX9_middle d kc ks (jj_S, 782, h, g) 0 [(0, .ref 0), (1, .int a1)] [] Q2) : jj_R mL_middle (d + 1) kc ks (jj_S, 782, h, g) 0 [(0, .ref 0), (1, .int a1), (2, .ref 781)] [] Q := by
  refine rr_aload_n 2 rfl rfl dL_middle_0 ?_
  refine rr_iconst 0 rfl dL_middle_1 ?_
  refine rr_aload_n 0 rfl rfl dL_middle_2 ?_
  refine rr_iload_n 1 rfl rfl dL_middle_3 ?_
  refine rr_callVH (As := [.int a1]) (rest := [.int 0, .ref 781]) (kc2 := kc) (ks2 := ks) dL_middle_4 okX9_middle lL_115 lo_0 sh_0 rfl rfl (Nat.le_of_ble_eq_true rfl) (Nat.le_of_ble_eq_true rfl) (by omega) (by simp [jj_rk]) (by simp [jj_rk]) ?_
  refine hk _ (fun r τ w => ?_)
  obtain ⟨h9, g9, rfl, ⟨v, rfl, q⟩ | ⟨z, _⟩ | ⟨_, rfl, q⟩⟩ := w
  · show jj_R mL_middle (d + 1) _ _ (jj_S, 782, h9, g9) 7 [(0, .ref 0), (1, .int a1), (2, .ref 781)] [.int v, .int 0, .ref 781] Q
    refine rr_i2l dL_middle_7 ?_
    refine rr_lastore dL_middle_8 lo_781 sh_781 vp01 ?_
    refine rr_goto dL_middle_9 ?_
    refine rr_iconst 0 rfl dL_middle_15 ?_
    exact rr_ireturn dL_middle_16 rfl q
  · cases z
  · refine ⟨sb_S, by show 782 ≤ 999996; decide, 12, hoL_middle, ?_⟩
    refine rr_astore_n [(0, .ref 0), (1, .int a1), (2, .ref 781), (3, .ref 999996)] dL_middle_12 rfl (by decide) rfl ?_
    refine rr_iconst 1 rfl dL_middle_13 ?_
    exact rr_ireturn dL_middle_14 rfl q
abbrev mL_week : jj_Mt := (yL_week, cL_week, 7, (some .int), [(0, 14, 17, 13)], none)
set_option maxRecDepth 100000 in
theorem okL_week : jj_okW mL_week 6 := ⟨jj_mem 1332 rfl rfl, jj_mem 86 (by decide +kernel) (by decide +kernel), by decide +kernel, ⟨by decide +kernel, by decide +kernel, by decide +kernel⟩, by decide, jj_mem 1331 (by decide +kernel) (by decide +kernel), rfl⟩
theorem hoL_week : jj_ho mL_week 9 "java/lang/IllegalArgumentException" 17 := ⟨[], _, [], _, rfl, fun z hz => absurd hz (List.not_mem_nil), rfl, by decide, cl_13, ca_iae, rfl⟩
theorem w_week {a1 a2 a3 a4 : Int32} {d kc ks : Nat} {h : hp_} {g : Nat → Nat → Int64} {Q : jj_Rs → jj_St → Prop} (hk : ∀ Q2 : jj_Rs → jj_St → Prop, (∀ r τ, wQ false true 1 Q r τ → Q2 r τ) → jj_R mX9_week d kc ks (jj_S, 782, h, g) 0 [(0, .ref 0), (1, .int a1), (2, .int a2), (3, .int a3), (4, .int a4)] [] Q2) : jj_R mL_week (d + 1) kc ks (jj_S, 782, h, g) 0 [(0, .ref 0), (1, .int a1), (2, .int a2), (3, .int a3), (4, .int a4), (5, .ref 781)] [] Q := by
  refine rr_aload 5 rfl dL_week_0 ?_
  refine rr_iconst 0 rfl dL_week_2 ?_
  refine rr_aload_n 0 rfl rfl dL_week_3 ?_
  refine rr_iload_n 1 rfl rfl dL_week_4 ?_
  refine rr_iload_n 2 rfl rfl dL_week_5 ?_
  refine rr_iload_n 3 rfl rfl dL_week_6 ?_
  refine rr_iload 4 rfl dL_week_7 ?_
  refine rr_callVH (As := [.int a1, .int a2, .int a3, .int a4]) (rest := [.int 0, .ref 781]) (kc2 := kc) (ks2 := ks) dL_week_9 okX9_week lL_118 lo_0 sh_0 rfl rfl (Nat.le_of_ble_eq_true rfl) (Nat.le_of_ble_eq_true rfl) (by omega) (by simp [jj_rk]) (by simp [jj_rk]) ?_
  refine hk _ (fun r τ w => ?_)
  obtain ⟨h9, g9, rfl, ⟨v, rfl, q⟩ | ⟨z, _⟩ | ⟨_, rfl, q⟩⟩ := w
  · show jj_R mL_week (d + 1) _ _ (jj_S, 782, h9, g9) 12 [(0, .ref 0), (1, .int a1), (2, .int a2), (3, .int a3), (4, .int a4), (5, .ref 781)] [.int v, .int 0, .ref 781] Q
    refine rr_i2l dL_week_12 ?_
    refine rr_lastore dL_week_13 lo_781 sh_781 vp01 ?_
    refine rr_goto dL_week_14 ?_
    refine rr_iconst 0 rfl dL_week_21 ?_
    exact rr_ireturn dL_week_22 rfl q
  · cases z
  · refine ⟨sb_S, by show 782 ≤ 999996; decide, 17, hoL_week, ?_⟩
    refine rr_astore [(0, .ref 0), (1, .int a1), (2, .int a2), (3, .int a3), (4, .int a4), (5, .ref 781), (6, .ref 999996)] dL_week_17 (by decide) rfl ?_
    refine rr_iconst 1 rfl dL_week_19 ?_
    exact rr_ireturn dL_week_20 rfl q
abbrev mL_span : jj_Mt := (yL_span, cL_span, 9, (some .int), [(0, 18, 21, 13)], none)
set_option maxRecDepth 100000 in
theorem okL_span : jj_okW mL_span 8 := ⟨jj_mem 1354 rfl rfl, jj_mem 86 (by decide +kernel) (by decide +kernel), by decide +kernel, ⟨by decide +kernel, by decide +kernel, by decide +kernel⟩, by decide, jj_mem 1353 (by decide +kernel) (by decide +kernel), rfl⟩
theorem hoL_span : jj_ho mL_span 13 "java/lang/IllegalArgumentException" 21 := ⟨[], _, [], _, rfl, fun z hz => absurd hz (List.not_mem_nil), rfl, by decide, cl_13, ca_iae, rfl⟩
theorem w_span {a1 a2 a3 a4 a5 a6 : Int32} {d kc ks : Nat} {h : hp_} {g : Nat → Nat → Int64} {Q : jj_Rs → jj_St → Prop} (hk : ∀ Q2 : jj_Rs → jj_St → Prop, (∀ r τ, wQ false true 1 Q r τ → Q2 r τ) → jj_R mX9_span d kc ks (jj_S, 782, h, g) 0 [(0, .ref 0), (1, .int a1), (2, .int a2), (3, .int a3), (4, .int a4), (5, .int a5), (6, .int a6)] [] Q2) : jj_R mL_span (d + 1) kc ks (jj_S, 782, h, g) 0 [(0, .ref 0), (1, .int a1), (2, .int a2), (3, .int a3), (4, .int a4), (5, .int a5), (6, .int a6), (7, .ref 781)] [] Q := by
  refine rr_aload 7 rfl dL_span_0 ?_
  refine rr_iconst 0 rfl dL_span_2 ?_
  refine rr_aload_n 0 rfl rfl dL_span_3 ?_
  refine rr_iload_n 1 rfl rfl dL_span_4 ?_
  refine rr_iload_n 2 rfl rfl dL_span_5 ?_
  refine rr_iload_n 3 rfl rfl dL_span_6 ?_
  refine rr_iload 4 rfl dL_span_7 ?_
  refine rr_iload 5 rfl dL_span_9 ?_
  refine rr_iload 6 rfl dL_span_11 ?_
  refine rr_callVH (As := [.int a1, .int a2, .int a3, .int a4, .int a5, .int a6]) (rest := [.int 0, .ref 781]) (kc2 := kc) (ks2 := ks) dL_span_13 okX9_span lL_122 lo_0 sh_0 rfl rfl (Nat.le_of_ble_eq_true rfl) (Nat.le_of_ble_eq_true rfl) (by omega) (by simp [jj_rk]) (by simp [jj_rk]) ?_
  refine hk _ (fun r τ w => ?_)
  obtain ⟨h9, g9, rfl, ⟨v, rfl, q⟩ | ⟨z, _⟩ | ⟨_, rfl, q⟩⟩ := w
  · show jj_R mL_span (d + 1) _ _ (jj_S, 782, h9, g9) 16 [(0, .ref 0), (1, .int a1), (2, .int a2), (3, .int a3), (4, .int a4), (5, .int a5), (6, .int a6), (7, .ref 781)] [.int v, .int 0, .ref 781] Q
    refine rr_i2l dL_span_16 ?_
    refine rr_lastore dL_span_17 lo_781 sh_781 vp01 ?_
    refine rr_goto dL_span_18 ?_
    refine rr_iconst 0 rfl dL_span_25 ?_
    exact rr_ireturn dL_span_26 rfl q
  · cases z
  · refine ⟨sb_S, by show 782 ≤ 999996; decide, 21, hoL_span, ?_⟩
    refine rr_astore [(0, .ref 0), (1, .int a1), (2, .int a2), (3, .int a3), (4, .int a4), (5, .int a5), (6, .int a6), (7, .ref 781), (8, .ref 999996)] dL_span_21 (by decide) rfl ?_
    refine rr_iconst 1 rfl dL_span_23 ?_
    exact rr_ireturn dL_span_24 rfl q
