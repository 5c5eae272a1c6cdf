/-! ===== the constructors of the parts ===== -/
/-- while constructors run every reference may be null -/
def jj_tr (s : jj_Sh) : jj_Sh := match s with
  | .inl (c, sl) => .inl (c, sl.map (fun x => x.map (fun q => (true, q.2))))
  | .inr x => .inr x
def jj_T (o : Nat) : jj_Sh := jj_tr (jj_S o)
theorem th_0 : jj_T 0 = .inl (9, [some (true, 13), some (true, 1), some (true, 15), some (true, 7), some (true, 12), some (true, 21), some (true, 25), some (true, 30), some (true, 34), some (true, 38), some (true, 43), some (true, 48), none, none, none]) := by decide +kernel
theorem th_1 : jj_T 1 = .inl (7, [none, none, some (true, 2), some (true, 3), some (true, 4), some (true, 5), some (true, 6)]) := by decide +kernel
theorem th_2 : jj_T 2 = .inr (.inl (0, 8)) := by decide +kernel
theorem th_3 : jj_T 3 = .inr (.inl (0, 8)) := by decide +kernel
theorem th_4 : jj_T 4 = .inr (.inl (0, 8)) := by decide +kernel
theorem th_5 : jj_T 5 = .inr (.inl (0, 8)) := by decide +kernel
theorem th_6 : jj_T 6 = .inr (.inl (0, 8)) := by decide +kernel
theorem th_7 : jj_T 7 = .inl (4, [some (true, 8), none, some (true, 9), none, some (true, 10), some (true, 11)]) := by decide +kernel
theorem th_8 : jj_T 8 = .inr (.inl (0, 150)) := by decide +kernel
theorem th_9 : jj_T 9 = .inr (.inl (0, 150)) := by decide +kernel
theorem th_10 : jj_T 10 = .inr (.inl (0, 8)) := by decide +kernel
theorem th_11 : jj_T 11 = .inr (.inl (0, 150)) := by decide +kernel
theorem th_12 : jj_T 12 = .inl (3, [some (true, 1), some (true, 7), none]) := by decide +kernel
theorem th_13 : jj_T 13 = .inl (5, [some (true, 14), none, none, none, none, none, none, none, none]) := by decide +kernel
theorem th_14 : jj_T 14 = .inr (.inl (1, 600)) := by decide +kernel
theorem th_15 : jj_T 15 = .inl (7, [none, none, some (true, 16), some (true, 17), some (true, 18), some (true, 19), some (true, 20)]) := by decide +kernel
theorem th_16 : jj_T 16 = .inr (.inl (0, 8)) := by decide +kernel
theorem th_17 : jj_T 17 = .inr (.inl (0, 8)) := by decide +kernel
theorem th_18 : jj_T 18 = .inr (.inl (0, 8)) := by decide +kernel
theorem th_19 : jj_T 19 = .inr (.inl (0, 8)) := by decide +kernel
theorem th_20 : jj_T 20 = .inr (.inl (0, 8)) := by decide +kernel
theorem th_21 : jj_T 21 = .inl (8, [some (true, 12), some (true, 22), some (true, 23), some (true, 24), none, none, some (true, 38), none, none, none]) := by decide +kernel
theorem th_22 : jj_T 22 = .inr (.inl (0, 38)) := by decide +kernel
theorem th_23 : jj_T 23 = .inr (.inl (0, 38)) := by decide +kernel
theorem th_24 : jj_T 24 = .inr (.inl (0, 38)) := by decide +kernel
theorem th_25 : jj_T 25 = .inl (0, [some (true, 1), some (true, 12), none, some (true, 26), none, some (true, 27), some (true, 28), some (true, 29), none, none]) := by decide +kernel
theorem th_26 : jj_T 26 = .inr (.inl (0, 8)) := by decide +kernel
theorem th_27 : jj_T 27 = .inr (.inl (0, 8)) := by decide +kernel
theorem th_28 : jj_T 28 = .inr (.inl (2, 64)) := by decide +kernel
theorem th_29 : jj_T 29 = .inr (.inl (0, 64)) := by decide +kernel
theorem th_30 : jj_T 30 = .inl (2, [some (true, 1), some (true, 12), some (true, 31), some (true, 32), some (true, 33), none, none]) := by decide +kernel
theorem th_31 : jj_T 31 = .inr (.inl (0, 8)) := by decide +kernel
theorem th_32 : jj_T 32 = .inr (.inl (0, 8)) := by decide +kernel
theorem th_33 : jj_T 33 = .inr (.inl (0, 8)) := by decide +kernel
theorem th_34 : jj_T 34 = .inl (1, [none, none, some (true, 35), some (true, 36), some (true, 37)]) := by decide +kernel
theorem th_35 : jj_T 35 = .inr (.inl (0, 560)) := by decide +kernel
theorem th_36 : jj_T 36 = .inr (.inl (0, 1785)) := by decide +kernel
theorem th_37 : jj_T 37 = .inr (.inl (0, 3)) := by decide +kernel
theorem th_38 : jj_T 38 = .inl (6, [none, none, none, some (true, 39), some (true, 40), some (true, 41), some (true, 42)]) := by decide +kernel
theorem th_39 : jj_T 39 = .inr (.inl (0, 8)) := by decide +kernel
theorem th_40 : jj_T 40 = .inr (.inl (0, 8)) := by decide +kernel
theorem th_41 : jj_T 41 = .inr (.inl (0, 8)) := by decide +kernel
theorem th_42 : jj_T 42 = .inr (.inl (0, 8)) := by decide +kernel
theorem th_43 : jj_T 43 = .inl (6, [none, none, none, some (true, 44), some (true, 45), some (true, 46), some (true, 47)]) := by decide +kernel
theorem th_44 : jj_T 44 = .inr (.inl (0, 8)) := by decide +kernel
theorem th_45 : jj_T 45 = .inr (.inl (0, 8)) := by decide +kernel
theorem th_46 : jj_T 46 = .inr (.inl (0, 8)) := by decide +kernel
theorem th_47 : jj_T 47 = .inr (.inl (0, 8)) := by decide +kernel
theorem th_48 : jj_T 48 = .inr (.inl (0, 2048)) := by decide +kernel
theorem th_49 : jj_T 49 = .inl (10, [none, none, none, none, none, none, none, none, none, some (true, 50), some (true, 51), some (true, 52), some (true, 53), some (true, 54), some (true, 63), some (true, 72), some (true, 73), none, none, some (true, 74), some (true, 235), some (true, 396), some (true, 405), some (true, 414), some (true, 415), some (true, 416), none, some (true, 497), some (true, 498), some (true, 499), some (true, 516), none, none, none, none, none, none, none, some (true, 520), some (true, 777), some (true, 778), none, none, some (true, 779), some (true, 780), none]) := by decide +kernel
theorem th_50 : jj_T 50 = .inr (.inl (0, 600)) := by decide +kernel
theorem th_51 : jj_T 51 = .inr (.inl (0, 2)) := by decide +kernel
theorem th_52 : jj_T 52 = .inr (.inl (0, 2)) := by decide +kernel
theorem th_53 : jj_T 53 = .inr (.inl (0, 2)) := by decide +kernel
theorem th_54 : jj_T 54 = .inr (.inr (.inr (8, 55))) := by decide +kernel
theorem th_63 : jj_T 63 = .inr (.inr (.inr (8, 64))) := by decide +kernel
theorem th_72 : jj_T 72 = .inr (.inl (0, 8)) := by decide +kernel
theorem th_73 : jj_T 73 = .inr (.inl (0, 8)) := by decide +kernel
theorem th_74 : jj_T 74 = .inr (.inr (.inr (160, 75))) := by decide +kernel
theorem th_235 : jj_T 235 = .inr (.inr (.inr (160, 236))) := by decide +kernel
theorem th_396 : jj_T 396 = .inr (.inr (.inr (8, 397))) := by decide +kernel
theorem th_405 : jj_T 405 = .inr (.inr (.inr (8, 406))) := by decide +kernel
theorem th_414 : jj_T 414 = .inr (.inl (0, 160)) := by decide +kernel
theorem th_415 : jj_T 415 = .inr (.inl (0, 8)) := by decide +kernel
theorem th_416 : jj_T 416 = .inr (.inr (.inr (80, 417))) := by decide +kernel
theorem th_497 : jj_T 497 = .inr (.inl (0, 35)) := by decide +kernel
theorem th_498 : jj_T 498 = .inr (.inl (0, 35)) := by decide +kernel
theorem th_499 : jj_T 499 = .inr (.inr (.inr (16, 500))) := by decide +kernel
theorem th_516 : jj_T 516 = .inr (.inr (.inr (3, 517))) := by decide +kernel
theorem th_520 : jj_T 520 = .inr (.inr (.inr (256, 521))) := by decide +kernel
theorem th_777 : jj_T 777 = .inr (.inl (0, 8)) := by decide +kernel
theorem th_778 : jj_T 778 = .inr (.inl (0, 8)) := by decide +kernel
theorem th_779 : jj_T 779 = .inr (.inl (0, 1000)) := by decide +kernel
theorem th_780 : jj_T 780 = .inr (.inr (.inl 14)) := by decide +kernel
theorem th_781 : jj_T 781 = .inr (.inr (.inl 1)) := by decide +kernel
theorem tr_54 {j : Nat} (h : j < 8) : jj_T (55 + j) = .inr (.inl (0, 4)) := by
  unfold jj_T
  rw [sr_54 h]
  rfl
theorem tr_63 {j : Nat} (h : j < 8) : jj_T (64 + j) = .inr (.inl (0, 4)) := by
  unfold jj_T
  rw [sr_63 h]
  rfl
theorem tr_74 {j : Nat} (h : j < 160) : jj_T (75 + j) = .inr (.inl (0, 2)) := by
  unfold jj_T
  rw [sr_74 h]
  rfl
theorem tr_235 {j : Nat} (h : j < 160) : jj_T (236 + j) = .inr (.inl (0, 2)) := by
  unfold jj_T
  rw [sr_235 h]
  rfl
theorem tr_396 {j : Nat} (h : j < 8) : jj_T (397 + j) = .inr (.inl (0, 2)) := by
  unfold jj_T
  rw [sr_396 h]
  rfl
theorem tr_405 {j : Nat} (h : j < 8) : jj_T (406 + j) = .inr (.inl (0, 2)) := by
  unfold jj_T
  rw [sr_405 h]
  rfl
theorem tr_416 {j : Nat} (h : j < 80) : jj_T (417 + j) = .inr (.inl (0, 4)) := by
  unfold jj_T
  rw [sr_416 h]
  rfl
theorem tr_499 {j : Nat} (h : j < 16) : jj_T (500 + j) = .inr (.inl (0, 35)) := by
  unfold jj_T
  rw [sr_499 h]
  rfl
theorem tr_516 {j : Nat} (h : j < 3) : jj_T (517 + j) = .inr (.inl (0, 596)) := by
  unfold jj_T
  rw [sr_516 h]
  rfl
theorem tr_520 {j : Nat} (h : j < 256) : jj_T (521 + j) = .inr (.inl (0, 8)) := by
  unfold jj_T
  rw [sr_520 h]
  rfl
theorem nw_L_8 : Cond.classLink RL 8 RX9 ∈ jj_tg ∧ Cond.instantiable RX9 15 ∈ jj_tg ∧ Cond.initialized RX9 ∈ jj_tg := ⟨jj_mem 109 (by decide +kernel) (by decide +kernel), jj_mem 110 (by decide +kernel) (by decide +kernel), jj_mem 87 (by decide +kernel) (by decide +kernel)⟩
theorem nw_L_127 : Cond.classLink RL 127 RX10 ∈ jj_tg ∧ Cond.instantiable RX10 46 ∈ jj_tg ∧ Cond.initialized RX10 ∈ jj_tg := ⟨jj_mem 1361 (by decide +kernel) (by decide +kernel), jj_mem 1362 (by decide +kernel) (by decide +kernel), jj_mem 97 (by decide +kernel) (by decide +kernel)⟩
theorem nw_X9_7 : Cond.classLink RX9 7 RX7 ∈ jj_tg ∧ Cond.instantiable RX7 7 ∈ jj_tg ∧ Cond.initialized RX7 ∈ jj_tg := ⟨jj_mem 117 (by decide +kernel) (by decide +kernel), jj_mem 118 (by decide +kernel) (by decide +kernel), jj_mem 88 (by decide +kernel) (by decide +kernel)⟩
theorem nw_X9_10 : Cond.classLink RX9 10 RX4 ∈ jj_tg ∧ Cond.instantiable RX4 6 ∈ jj_tg ∧ Cond.initialized RX4 ∈ jj_tg := ⟨jj_mem 159 (by decide +kernel) (by decide +kernel), jj_mem 160 (by decide +kernel) (by decide +kernel), jj_mem 89 (by decide +kernel) (by decide +kernel)⟩
theorem nw_X9_13 : Cond.classLink RX9 13 RX3 ∈ jj_tg ∧ Cond.instantiable RX3 3 ∈ jj_tg ∧ Cond.initialized RX3 ∈ jj_tg := ⟨jj_mem 184 (by decide +kernel) (by decide +kernel), jj_mem 185 (by decide +kernel) (by decide +kernel), jj_mem 90 (by decide +kernel) (by decide +kernel)⟩
theorem nw_X9_18 : Cond.classLink RX9 18 RX5 ∈ jj_tg ∧ Cond.instantiable RX5 9 ∈ jj_tg ∧ Cond.initialized RX5 ∈ jj_tg := ⟨jj_mem 200 (by decide +kernel) (by decide +kernel), jj_mem 201 (by decide +kernel) (by decide +kernel), jj_mem 91 (by decide +kernel) (by decide +kernel)⟩
theorem nw_X9_42 : Cond.classLink RX9 42 RX8 ∈ jj_tg ∧ Cond.instantiable RX8 10 ∈ jj_tg ∧ Cond.initialized RX8 ∈ jj_tg := ⟨jj_mem 242 (by decide +kernel) (by decide +kernel), jj_mem 243 (by decide +kernel) (by decide +kernel), jj_mem 92 (by decide +kernel) (by decide +kernel)⟩
theorem nw_X9_51 : Cond.classLink RX9 51 RX0 ∈ jj_tg ∧ Cond.instantiable RX0 10 ∈ jj_tg ∧ Cond.initialized RX0 ∈ jj_tg := ⟨jj_mem 282 (by decide +kernel) (by decide +kernel), jj_mem 283 (by decide +kernel) (by decide +kernel), jj_mem 93 (by decide +kernel) (by decide +kernel)⟩
theorem nw_X9_60 : Cond.classLink RX9 60 RX2 ∈ jj_tg ∧ Cond.instantiable RX2 7 ∈ jj_tg ∧ Cond.initialized RX2 ∈ jj_tg := ⟨jj_mem 323 (by decide +kernel) (by decide +kernel), jj_mem 324 (by decide +kernel) (by decide +kernel), jj_mem 94 (by decide +kernel) (by decide +kernel)⟩
theorem nw_X9_67 : Cond.classLink RX9 67 RX1 ∈ jj_tg ∧ Cond.instantiable RX1 5 ∈ jj_tg ∧ Cond.initialized RX1 ∈ jj_tg := ⟨jj_mem 354 (by decide +kernel) (by decide +kernel), jj_mem 355 (by decide +kernel) (by decide +kernel), jj_mem 95 (by decide +kernel) (by decide +kernel)⟩
theorem nw_X9_74 : Cond.classLink RX9 74 RX6 ∈ jj_tg ∧ Cond.instantiable RX6 7 ∈ jj_tg ∧ Cond.initialized RX6 ∈ jj_tg := ⟨jj_mem 378 (by decide +kernel) (by decide +kernel), jj_mem 379 (by decide +kernel) (by decide +kernel), jj_mem 96 (by decide +kernel) (by decide +kernel)⟩
theorem ol_X0_3 : Cond.methodLink RX0 3 Lib.objectInit ∈ jj_tg := jj_mem 287 (by decide +kernel) (by decide +kernel)
theorem ol_X1_3 : Cond.methodLink RX1 3 Lib.objectInit ∈ jj_tg := jj_mem 359 (by decide +kernel) (by decide +kernel)
theorem ol_X10_1 : Cond.methodLink RX10 1 Lib.objectInit ∈ jj_tg := jj_mem 1366 (by decide +kernel) (by decide +kernel)
theorem ol_X2_3 : Cond.methodLink RX2 3 Lib.objectInit ∈ jj_tg := jj_mem 328 (by decide +kernel) (by decide +kernel)
theorem ol_X3_3 : Cond.methodLink RX3 3 Lib.objectInit ∈ jj_tg := jj_mem 189 (by decide +kernel) (by decide +kernel)
theorem ol_X4_3 : Cond.methodLink RX4 3 Lib.objectInit ∈ jj_tg := jj_mem 164 (by decide +kernel) (by decide +kernel)
theorem ol_X5_3 : Cond.methodLink RX5 3 Lib.objectInit ∈ jj_tg := jj_mem 205 (by decide +kernel) (by decide +kernel)
theorem ol_X6_3 : Cond.methodLink RX6 3 Lib.objectInit ∈ jj_tg := jj_mem 383 (by decide +kernel) (by decide +kernel)
theorem ol_X7_3 : Cond.methodLink RX7 3 Lib.objectInit ∈ jj_tg := jj_mem 122 (by decide +kernel) (by decide +kernel)
theorem ol_X8_3 : Cond.methodLink RX8 3 Lib.objectInit ∈ jj_tg := jj_mem 247 (by decide +kernel) (by decide +kernel)
theorem ol_X9_1 : Cond.methodLink RX9 1 Lib.objectInit ∈ jj_tg := jj_mem 114 (by decide +kernel) (by decide +kernel)
theorem ow_ : Cond.instanceMethod Lib.objectInit ∈ jj_tg ∧ Cond.code Lib.objectInit ⟨#[0xb1]⟩ 1 none ∈ jj_tg := ⟨jj_mem 115 (by decide +kernel) (by decide +kernel), jj_mem 116 (by decide +kernel) (by decide +kernel)⟩
theorem nl_X9_9 : Cond.methodLinkNest RX9 9 yX7_init "DayLaces" ∈ jj_nt := jj_ntm 119 (by decide +kernel) (by decide +kernel)
theorem nl_X9_12 : Cond.methodLinkNest RX9 12 yX4_init "DayLaces" ∈ jj_nt := jj_ntm 161 (by decide +kernel) (by decide +kernel)
theorem nl_X9_20 : Cond.methodLinkNest RX9 20 yX5_init "DayLaces" ∈ jj_nt := jj_ntm 202 (by decide +kernel) (by decide +kernel)
theorem nl_X9_69 : Cond.methodLinkNest RX9 69 yX1_init "DayLaces" ∈ jj_nt := jj_ntm 356 (by decide +kernel) (by decide +kernel)
theorem nl_X9_76 : Cond.methodLinkNest RX9 76 yX6_init "DayLaces" ∈ jj_nt := jj_ntm 380 (by decide +kernel) (by decide +kernel)
theorem mw_X10_26 : Cond.classLink RX10 26 "[[I" ∈ jj_tg := jj_mem 1367 (by decide +kernel) (by decide +kernel)
theorem pn0_0 : ∀ (C2 : String) (T : u_T) (N : Nat), jj_cl[0]? = some (C2, T, N) → (T 0).2.2.2 = true ∧ (T 0).1 = RX0 ∧ parseFieldDescriptor (T 0).2.2.1 = some (.object "DayLaces$Street") := fun C T N h => by cases h; exact ⟨rfl, rfl, by decide +kernel⟩
theorem pn0_1 : ∀ (C2 : String) (T : u_T) (N : Nat), jj_cl[0]? = some (C2, T, N) → (T 1).2.2.2 = true ∧ (T 1).1 = RX0 ∧ parseFieldDescriptor (T 1).2.2.1 = some (.object "DayLaces$Lacing") := fun C T N h => by cases h; exact ⟨rfl, rfl, by decide +kernel⟩
theorem pn0_3 : ∀ (C2 : String) (T : u_T) (N : Nat), jj_cl[0]? = some (C2, T, N) → (T 3).2.2.2 = true ∧ (T 3).1 = RX0 ∧ parseFieldDescriptor (T 3).2.2.1 = some (.array .int) := fun C T N h => by cases h; exact ⟨rfl, rfl, by decide +kernel⟩
theorem pn0_5 : ∀ (C2 : String) (T : u_T) (N : Nat), jj_cl[0]? = some (C2, T, N) → (T 5).2.2.2 = true ∧ (T 5).1 = RX0 ∧ parseFieldDescriptor (T 5).2.2.1 = some (.array .int) := fun C T N h => by cases h; exact ⟨rfl, rfl, by decide +kernel⟩
theorem pn0_6 : ∀ (C2 : String) (T : u_T) (N : Nat), jj_cl[0]? = some (C2, T, N) → (T 6).2.2.2 = true ∧ (T 6).1 = RX0 ∧ parseFieldDescriptor (T 6).2.2.1 = some (.array .boolean) := fun C T N h => by cases h; exact ⟨rfl, rfl, by decide +kernel⟩
theorem pn0_7 : ∀ (C2 : String) (T : u_T) (N : Nat), jj_cl[0]? = some (C2, T, N) → (T 7).2.2.2 = true ∧ (T 7).1 = RX0 ∧ parseFieldDescriptor (T 7).2.2.1 = some (.array .int) := fun C T N h => by cases h; exact ⟨rfl, rfl, by decide +kernel⟩
theorem pn1_2 : ∀ (C2 : String) (T : u_T) (N : Nat), jj_cl[1]? = some (C2, T, N) → (T 2).2.2.2 = true ∧ (T 2).1 = RX1 ∧ parseFieldDescriptor (T 2).2.2.1 = some (.array .int) := fun C T N h => by cases h; exact ⟨rfl, rfl, by decide +kernel⟩
theorem pn1_3 : ∀ (C2 : String) (T : u_T) (N : Nat), jj_cl[1]? = some (C2, T, N) → (T 3).2.2.2 = true ∧ (T 3).1 = RX1 ∧ parseFieldDescriptor (T 3).2.2.1 = some (.array .int) := fun C T N h => by cases h; exact ⟨rfl, rfl, by decide +kernel⟩
theorem pn1_4 : ∀ (C2 : String) (T : u_T) (N : Nat), jj_cl[1]? = some (C2, T, N) → (T 4).2.2.2 = true ∧ (T 4).1 = RX1 ∧ parseFieldDescriptor (T 4).2.2.1 = some (.array .int) := fun C T N h => by cases h; exact ⟨rfl, rfl, by decide +kernel⟩
theorem pn2_0 : ∀ (C2 : String) (T : u_T) (N : Nat), jj_cl[2]? = some (C2, T, N) → (T 0).2.2.2 = true ∧ (T 0).1 = RX2 ∧ parseFieldDescriptor (T 0).2.2.1 = some (.object "DayLaces$Street") := fun C T N h => by cases h; exact ⟨rfl, rfl, by decide +kernel⟩
theorem pn2_1 : ∀ (C2 : String) (T : u_T) (N : Nat), jj_cl[2]? = some (C2, T, N) → (T 1).2.2.2 = true ∧ (T 1).1 = RX2 ∧ parseFieldDescriptor (T 1).2.2.1 = some (.object "DayLaces$Lacing") := fun C T N h => by cases h; exact ⟨rfl, rfl, by decide +kernel⟩
theorem pn2_2 : ∀ (C2 : String) (T : u_T) (N : Nat), jj_cl[2]? = some (C2, T, N) → (T 2).2.2.2 = true ∧ (T 2).1 = RX2 ∧ parseFieldDescriptor (T 2).2.2.1 = some (.array .int) := fun C T N h => by cases h; exact ⟨rfl, rfl, by decide +kernel⟩
theorem pn2_3 : ∀ (C2 : String) (T : u_T) (N : Nat), jj_cl[2]? = some (C2, T, N) → (T 3).2.2.2 = true ∧ (T 3).1 = RX2 ∧ parseFieldDescriptor (T 3).2.2.1 = some (.array .int) := fun C T N h => by cases h; exact ⟨rfl, rfl, by decide +kernel⟩
theorem pn2_4 : ∀ (C2 : String) (T : u_T) (N : Nat), jj_cl[2]? = some (C2, T, N) → (T 4).2.2.2 = true ∧ (T 4).1 = RX2 ∧ parseFieldDescriptor (T 4).2.2.1 = some (.array .int) := fun C T N h => by cases h; exact ⟨rfl, rfl, by decide +kernel⟩
theorem pn3_0 : ∀ (C2 : String) (T : u_T) (N : Nat), jj_cl[3]? = some (C2, T, N) → (T 0).2.2.2 = true ∧ (T 0).1 = RX3 ∧ parseFieldDescriptor (T 0).2.2.1 = some (.object "DayLaces$Street") := fun C T N h => by cases h; exact ⟨rfl, rfl, by decide +kernel⟩
theorem pn3_1 : ∀ (C2 : String) (T : u_T) (N : Nat), jj_cl[3]? = some (C2, T, N) → (T 1).2.2.2 = true ∧ (T 1).1 = RX3 ∧ parseFieldDescriptor (T 1).2.2.1 = some (.object "DayLaces$Law") := fun C T N h => by cases h; exact ⟨rfl, rfl, by decide +kernel⟩
theorem pn4_0 : ∀ (C2 : String) (T : u_T) (N : Nat), jj_cl[4]? = some (C2, T, N) → (T 0).2.2.2 = true ∧ (T 0).1 = RX4 ∧ parseFieldDescriptor (T 0).2.2.1 = some (.array .int) := fun C T N h => by cases h; exact ⟨rfl, rfl, by decide +kernel⟩
theorem pn4_2 : ∀ (C2 : String) (T : u_T) (N : Nat), jj_cl[4]? = some (C2, T, N) → (T 2).2.2.2 = true ∧ (T 2).1 = RX4 ∧ parseFieldDescriptor (T 2).2.2.1 = some (.array .int) := fun C T N h => by cases h; exact ⟨rfl, rfl, by decide +kernel⟩
theorem pn4_4 : ∀ (C2 : String) (T : u_T) (N : Nat), jj_cl[4]? = some (C2, T, N) → (T 4).2.2.2 = true ∧ (T 4).1 = RX4 ∧ parseFieldDescriptor (T 4).2.2.1 = some (.array .int) := fun C T N h => by cases h; exact ⟨rfl, rfl, by decide +kernel⟩
theorem pn4_5 : ∀ (C2 : String) (T : u_T) (N : Nat), jj_cl[4]? = some (C2, T, N) → (T 5).2.2.2 = true ∧ (T 5).1 = RX4 ∧ parseFieldDescriptor (T 5).2.2.1 = some (.array .int) := fun C T N h => by cases h; exact ⟨rfl, rfl, by decide +kernel⟩
theorem pn5_0 : ∀ (C2 : String) (T : u_T) (N : Nat), jj_cl[5]? = some (C2, T, N) → (T 0).2.2.2 = true ∧ (T 0).1 = RX5 ∧ parseFieldDescriptor (T 0).2.2.1 = some (.array .byte) := fun C T N h => by cases h; exact ⟨rfl, rfl, by decide +kernel⟩
theorem pn6_3 : ∀ (C2 : String) (T : u_T) (N : Nat), jj_cl[6]? = some (C2, T, N) → (T 3).2.2.2 = true ∧ (T 3).1 = RX6 ∧ parseFieldDescriptor (T 3).2.2.1 = some (.array .int) := fun C T N h => by cases h; exact ⟨rfl, rfl, by decide +kernel⟩
theorem pn6_4 : ∀ (C2 : String) (T : u_T) (N : Nat), jj_cl[6]? = some (C2, T, N) → (T 4).2.2.2 = true ∧ (T 4).1 = RX6 ∧ parseFieldDescriptor (T 4).2.2.1 = some (.array .int) := fun C T N h => by cases h; exact ⟨rfl, rfl, by decide +kernel⟩
theorem pn6_5 : ∀ (C2 : String) (T : u_T) (N : Nat), jj_cl[6]? = some (C2, T, N) → (T 5).2.2.2 = true ∧ (T 5).1 = RX6 ∧ parseFieldDescriptor (T 5).2.2.1 = some (.array .int) := fun C T N h => by cases h; exact ⟨rfl, rfl, by decide +kernel⟩
theorem pn6_6 : ∀ (C2 : String) (T : u_T) (N : Nat), jj_cl[6]? = some (C2, T, N) → (T 6).2.2.2 = true ∧ (T 6).1 = RX6 ∧ parseFieldDescriptor (T 6).2.2.1 = some (.array .int) := fun C T N h => by cases h; exact ⟨rfl, rfl, by decide +kernel⟩
theorem pn7_2 : ∀ (C2 : String) (T : u_T) (N : Nat), jj_cl[7]? = some (C2, T, N) → (T 2).2.2.2 = true ∧ (T 2).1 = RX7 ∧ parseFieldDescriptor (T 2).2.2.1 = some (.array .int) := fun C T N h => by cases h; exact ⟨rfl, rfl, by decide +kernel⟩
theorem pn7_3 : ∀ (C2 : String) (T : u_T) (N : Nat), jj_cl[7]? = some (C2, T, N) → (T 3).2.2.2 = true ∧ (T 3).1 = RX7 ∧ parseFieldDescriptor (T 3).2.2.1 = some (.array .int) := fun C T N h => by cases h; exact ⟨rfl, rfl, by decide +kernel⟩
theorem pn7_4 : ∀ (C2 : String) (T : u_T) (N : Nat), jj_cl[7]? = some (C2, T, N) → (T 4).2.2.2 = true ∧ (T 4).1 = RX7 ∧ parseFieldDescriptor (T 4).2.2.1 = some (.array .int) := fun C T N h => by cases h; exact ⟨rfl, rfl, by decide +kernel⟩
theorem pn7_5 : ∀ (C2 : String) (T : u_T) (N : Nat), jj_cl[7]? = some (C2, T, N) → (T 5).2.2.2 = true ∧ (T 5).1 = RX7 ∧ parseFieldDescriptor (T 5).2.2.1 = some (.array .int) := fun C T N h => by cases h; exact ⟨rfl, rfl, by decide +kernel⟩
theorem pn7_6 : ∀ (C2 : String) (T : u_T) (N : Nat), jj_cl[7]? = some (C2, T, N) → (T 6).2.2.2 = true ∧ (T 6).1 = RX7 ∧ parseFieldDescriptor (T 6).2.2.1 = some (.array .int) := fun C T N h => by cases h; exact ⟨rfl, rfl, by decide +kernel⟩
theorem pn8_0 : ∀ (C2 : String) (T : u_T) (N : Nat), jj_cl[8]? = some (C2, T, N) → (T 0).2.2.2 = true ∧ (T 0).1 = RX8 ∧ parseFieldDescriptor (T 0).2.2.1 = some (.object "DayLaces$Lacing") := fun C T N h => by cases h; exact ⟨rfl, rfl, by decide +kernel⟩
theorem pn8_1 : ∀ (C2 : String) (T : u_T) (N : Nat), jj_cl[8]? = some (C2, T, N) → (T 1).2.2.2 = true ∧ (T 1).1 = RX8 ∧ parseFieldDescriptor (T 1).2.2.1 = some (.array .int) := fun C T N h => by cases h; exact ⟨rfl, rfl, by decide +kernel⟩
theorem pn8_2 : ∀ (C2 : String) (T : u_T) (N : Nat), jj_cl[8]? = some (C2, T, N) → (T 2).2.2.2 = true ∧ (T 2).1 = RX8 ∧ parseFieldDescriptor (T 2).2.2.1 = some (.array .int) := fun C T N h => by cases h; exact ⟨rfl, rfl, by decide +kernel⟩
theorem pn8_3 : ∀ (C2 : String) (T : u_T) (N : Nat), jj_cl[8]? = some (C2, T, N) → (T 3).2.2.2 = true ∧ (T 3).1 = RX8 ∧ parseFieldDescriptor (T 3).2.2.1 = some (.array .int) := fun C T N h => by cases h; exact ⟨rfl, rfl, by decide +kernel⟩
theorem pn9_0 : ∀ (C2 : String) (T : u_T) (N : Nat), jj_cl[9]? = some (C2, T, N) → (T 0).2.2.2 = true ∧ (T 0).1 = RX9 ∧ parseFieldDescriptor (T 0).2.2.1 = some (.object "DayLaces$Reader") := fun C T N h => by cases h; exact ⟨rfl, rfl, by decide +kernel⟩
theorem pn9_1 : ∀ (C2 : String) (T : u_T) (N : Nat), jj_cl[9]? = some (C2, T, N) → (T 1).2.2.2 = true ∧ (T 1).1 = RX9 ∧ parseFieldDescriptor (T 1).2.2.1 = some (.object "DayLaces$Street") := fun C T N h => by cases h; exact ⟨rfl, rfl, by decide +kernel⟩
theorem pn9_2 : ∀ (C2 : String) (T : u_T) (N : Nat), jj_cl[9]? = some (C2, T, N) → (T 2).2.2.2 = true ∧ (T 2).1 = RX9 ∧ parseFieldDescriptor (T 2).2.2.1 = some (.object "DayLaces$Street") := fun C T N h => by cases h; exact ⟨rfl, rfl, by decide +kernel⟩
theorem pn9_3 : ∀ (C2 : String) (T : u_T) (N : Nat), jj_cl[9]? = some (C2, T, N) → (T 3).2.2.2 = true ∧ (T 3).1 = RX9 ∧ parseFieldDescriptor (T 3).2.2.1 = some (.object "DayLaces$Law") := fun C T N h => by cases h; exact ⟨rfl, rfl, by decide +kernel⟩
theorem pn9_4 : ∀ (C2 : String) (T : u_T) (N : Nat), jj_cl[9]? = some (C2, T, N) → (T 4).2.2.2 = true ∧ (T 4).1 = RX9 ∧ parseFieldDescriptor (T 4).2.2.1 = some (.object "DayLaces$Lacing") := fun C T N h => by cases h; exact ⟨rfl, rfl, by decide +kernel⟩
theorem pn9_5 : ∀ (C2 : String) (T : u_T) (N : Nat), jj_cl[9]? = some (C2, T, N) → (T 5).2.2.2 = true ∧ (T 5).1 = RX9 ∧ parseFieldDescriptor (T 5).2.2.1 = some (.object "DayLaces$Work") := fun C T N h => by cases h; exact ⟨rfl, rfl, by decide +kernel⟩
theorem pn9_6 : ∀ (C2 : String) (T : u_T) (N : Nat), jj_cl[9]? = some (C2, T, N) → (T 6).2.2.2 = true ∧ (T 6).1 = RX9 ∧ parseFieldDescriptor (T 6).2.2.1 = some (.object "DayLaces$Book") := fun C T N h => by cases h; exact ⟨rfl, rfl, by decide +kernel⟩
theorem pn9_7 : ∀ (C2 : String) (T : u_T) (N : Nat), jj_cl[9]? = some (C2, T, N) → (T 7).2.2.2 = true ∧ (T 7).1 = RX9 ∧ parseFieldDescriptor (T 7).2.2.1 = some (.object "DayLaces$Kneeling") := fun C T N h => by cases h; exact ⟨rfl, rfl, by decide +kernel⟩
theorem pn9_8 : ∀ (C2 : String) (T : u_T) (N : Nat), jj_cl[9]? = some (C2, T, N) → (T 8).2.2.2 = true ∧ (T 8).1 = RX9 ∧ parseFieldDescriptor (T 8).2.2.1 = some (.object "DayLaces$History") := fun C T N h => by cases h; exact ⟨rfl, rfl, by decide +kernel⟩
theorem pn9_9 : ∀ (C2 : String) (T : u_T) (N : Nat), jj_cl[9]? = some (C2, T, N) → (T 9).2.2.2 = true ∧ (T 9).1 = RX9 ∧ parseFieldDescriptor (T 9).2.2.1 = some (.object "DayLaces$State") := fun C T N h => by cases h; exact ⟨rfl, rfl, by decide +kernel⟩
theorem pn9_10 : ∀ (C2 : String) (T : u_T) (N : Nat), jj_cl[9]? = some (C2, T, N) → (T 10).2.2.2 = true ∧ (T 10).1 = RX9 ∧ parseFieldDescriptor (T 10).2.2.1 = some (.object "DayLaces$State") := fun C T N h => by cases h; exact ⟨rfl, rfl, by decide +kernel⟩
theorem pn9_11 : ∀ (C2 : String) (T : u_T) (N : Nat), jj_cl[9]? = some (C2, T, N) → (T 11).2.2.2 = true ∧ (T 11).1 = RX9 ∧ parseFieldDescriptor (T 11).2.2.1 = some (.array .int) := fun C T N h => by cases h; exact ⟨rfl, rfl, by decide +kernel⟩
theorem pn10_9 : ∀ (C2 : String) (T : u_T) (N : Nat), jj_cl[10]? = some (C2, T, N) → (T 9).2.2.2 = true ∧ (T 9).1 = RX10 ∧ parseFieldDescriptor (T 9).2.2.1 = some (.array .int) := fun C T N h => by cases h; exact ⟨rfl, rfl, by decide +kernel⟩
theorem pn10_10 : ∀ (C2 : String) (T : u_T) (N : Nat), jj_cl[10]? = some (C2, T, N) → (T 10).2.2.2 = true ∧ (T 10).1 = RX10 ∧ parseFieldDescriptor (T 10).2.2.1 = some (.array .int) := fun C T N h => by cases h; exact ⟨rfl, rfl, by decide +kernel⟩
theorem pn10_11 : ∀ (C2 : String) (T : u_T) (N : Nat), jj_cl[10]? = some (C2, T, N) → (T 11).2.2.2 = true ∧ (T 11).1 = RX10 ∧ parseFieldDescriptor (T 11).2.2.1 = some (.array .int) := fun C T N h => by cases h; exact ⟨rfl, rfl, by decide +kernel⟩
theorem pn10_12 : ∀ (C2 : String) (T : u_T) (N : Nat), jj_cl[10]? = some (C2, T, N) → (T 12).2.2.2 = true ∧ (T 12).1 = RX10 ∧ parseFieldDescriptor (T 12).2.2.1 = some (.array .int) := fun C T N h => by cases h; exact ⟨rfl, rfl, by decide +kernel⟩
theorem pn10_13 : ∀ (C2 : String) (T : u_T) (N : Nat), jj_cl[10]? = some (C2, T, N) → (T 13).2.2.2 = true ∧ (T 13).1 = RX10 ∧ parseFieldDescriptor (T 13).2.2.1 = some (.array (.array .int)) := fun C T N h => by cases h; exact ⟨rfl, rfl, by decide +kernel⟩
theorem pn10_14 : ∀ (C2 : String) (T : u_T) (N : Nat), jj_cl[10]? = some (C2, T, N) → (T 14).2.2.2 = true ∧ (T 14).1 = RX10 ∧ parseFieldDescriptor (T 14).2.2.1 = some (.array (.array .int)) := fun C T N h => by cases h; exact ⟨rfl, rfl, by decide +kernel⟩
theorem pn10_15 : ∀ (C2 : String) (T : u_T) (N : Nat), jj_cl[10]? = some (C2, T, N) → (T 15).2.2.2 = true ∧ (T 15).1 = RX10 ∧ parseFieldDescriptor (T 15).2.2.1 = some (.array .int) := fun C T N h => by cases h; exact ⟨rfl, rfl, by decide +kernel⟩
theorem pn10_16 : ∀ (C2 : String) (T : u_T) (N : Nat), jj_cl[10]? = some (C2, T, N) → (T 16).2.2.2 = true ∧ (T 16).1 = RX10 ∧ parseFieldDescriptor (T 16).2.2.1 = some (.array .int) := fun C T N h => by cases h; exact ⟨rfl, rfl, by decide +kernel⟩
theorem pn10_19 : ∀ (C2 : String) (T : u_T) (N : Nat), jj_cl[10]? = some (C2, T, N) → (T 19).2.2.2 = true ∧ (T 19).1 = RX10 ∧ parseFieldDescriptor (T 19).2.2.1 = some (.array (.array .int)) := fun C T N h => by cases h; exact ⟨rfl, rfl, by decide +kernel⟩
theorem pn10_20 : ∀ (C2 : String) (T : u_T) (N : Nat), jj_cl[10]? = some (C2, T, N) → (T 20).2.2.2 = true ∧ (T 20).1 = RX10 ∧ parseFieldDescriptor (T 20).2.2.1 = some (.array (.array .int)) := fun C T N h => by cases h; exact ⟨rfl, rfl, by decide +kernel⟩
theorem pn10_21 : ∀ (C2 : String) (T : u_T) (N : Nat), jj_cl[10]? = some (C2, T, N) → (T 21).2.2.2 = true ∧ (T 21).1 = RX10 ∧ parseFieldDescriptor (T 21).2.2.1 = some (.array (.array .int)) := fun C T N h => by cases h; exact ⟨rfl, rfl, by decide +kernel⟩
theorem pn10_22 : ∀ (C2 : String) (T : u_T) (N : Nat), jj_cl[10]? = some (C2, T, N) → (T 22).2.2.2 = true ∧ (T 22).1 = RX10 ∧ parseFieldDescriptor (T 22).2.2.1 = some (.array (.array .int)) := fun C T N h => by cases h; exact ⟨rfl, rfl, by decide +kernel⟩
theorem pn10_23 : ∀ (C2 : String) (T : u_T) (N : Nat), jj_cl[10]? = some (C2, T, N) → (T 23).2.2.2 = true ∧ (T 23).1 = RX10 ∧ parseFieldDescriptor (T 23).2.2.1 = some (.array .int) := fun C T N h => by cases h; exact ⟨rfl, rfl, by decide +kernel⟩
theorem pn10_24 : ∀ (C2 : String) (T : u_T) (N : Nat), jj_cl[10]? = some (C2, T, N) → (T 24).2.2.2 = true ∧ (T 24).1 = RX10 ∧ parseFieldDescriptor (T 24).2.2.1 = some (.array .int) := fun C T N h => by cases h; exact ⟨rfl, rfl, by decide +kernel⟩
theorem pn10_25 : ∀ (C2 : String) (T : u_T) (N : Nat), jj_cl[10]? = some (C2, T, N) → (T 25).2.2.2 = true ∧ (T 25).1 = RX10 ∧ parseFieldDescriptor (T 25).2.2.1 = some (.array (.array .int)) := fun C T N h => by cases h; exact ⟨rfl, rfl, by decide +kernel⟩
theorem pn10_27 : ∀ (C2 : String) (T : u_T) (N : Nat), jj_cl[10]? = some (C2, T, N) → (T 27).2.2.2 = true ∧ (T 27).1 = RX10 ∧ parseFieldDescriptor (T 27).2.2.1 = some (.array .int) := fun C T N h => by cases h; exact ⟨rfl, rfl, by decide +kernel⟩
theorem pn10_28 : ∀ (C2 : String) (T : u_T) (N : Nat), jj_cl[10]? = some (C2, T, N) → (T 28).2.2.2 = true ∧ (T 28).1 = RX10 ∧ parseFieldDescriptor (T 28).2.2.1 = some (.array .int) := fun C T N h => by cases h; exact ⟨rfl, rfl, by decide +kernel⟩
theorem pn10_29 : ∀ (C2 : String) (T : u_T) (N : Nat), jj_cl[10]? = some (C2, T, N) → (T 29).2.2.2 = true ∧ (T 29).1 = RX10 ∧ parseFieldDescriptor (T 29).2.2.1 = some (.array (.array .int)) := fun C T N h => by cases h; exact ⟨rfl, rfl, by decide +kernel⟩
theorem pn10_30 : ∀ (C2 : String) (T : u_T) (N : Nat), jj_cl[10]? = some (C2, T, N) → (T 30).2.2.2 = true ∧ (T 30).1 = RX10 ∧ parseFieldDescriptor (T 30).2.2.1 = some (.array (.array .int)) := fun C T N h => by cases h; exact ⟨rfl, rfl, by decide +kernel⟩
theorem pn10_38 : ∀ (C2 : String) (T : u_T) (N : Nat), jj_cl[10]? = some (C2, T, N) → (T 38).2.2.2 = true ∧ (T 38).1 = RX10 ∧ parseFieldDescriptor (T 38).2.2.1 = some (.array (.array .int)) := fun C T N h => by cases h; exact ⟨rfl, rfl, by decide +kernel⟩
theorem pn10_39 : ∀ (C2 : String) (T : u_T) (N : Nat), jj_cl[10]? = some (C2, T, N) → (T 39).2.2.2 = true ∧ (T 39).1 = RX10 ∧ parseFieldDescriptor (T 39).2.2.1 = some (.array .int) := fun C T N h => by cases h; exact ⟨rfl, rfl, by decide +kernel⟩
theorem pn10_40 : ∀ (C2 : String) (T : u_T) (N : Nat), jj_cl[10]? = some (C2, T, N) → (T 40).2.2.2 = true ∧ (T 40).1 = RX10 ∧ parseFieldDescriptor (T 40).2.2.1 = some (.array .int) := fun C T N h => by cases h; exact ⟨rfl, rfl, by decide +kernel⟩
theorem pn10_43 : ∀ (C2 : String) (T : u_T) (N : Nat), jj_cl[10]? = some (C2, T, N) → (T 43).2.2.2 = true ∧ (T 43).1 = RX10 ∧ parseFieldDescriptor (T 43).2.2.1 = some (.array .int) := fun C T N h => by cases h; exact ⟨rfl, rfl, by decide +kernel⟩
theorem pn10_44 : ∀ (C2 : String) (T : u_T) (N : Nat), jj_cl[10]? = some (C2, T, N) → (T 44).2.2.2 = true ∧ (T 44).1 = RX10 ∧ parseFieldDescriptor (T 44).2.2.1 = some (.array .long) := fun C T N h => by cases h; exact ⟨rfl, rfl, by decide +kernel⟩
def hc_1 (h : Nat → Nat → Int32) : Nat → Nat → Int32 := (jj_u2 (jj_u2 (jj_u2 (jj_u2 (jj_u2 (jj_u2 h 1 1 20) 1 2 1) 1 3 1) 1 4 1) 1 5 1) 1 6 1)
set_option maxHeartbeats 1000000 in
theorem ct_1 {d : Nat} {h : Nat → Nat → Int32} {g : Nat → Nat → Int64} {Q : jj_Rs → jj_St → Prop} (hf : jj_fr jj_T 2 h g) (kq : jj_fr jj_T 7 (hc_1 h) g → Q (.inl none) (jj_T, 7, (hc_1 h), g)) : jj_R mX7_init (d + 1) 5 40 (jj_T, 2, h, g) 0 [(0, .ref 1)] [] Q := by
  refine rr_aload_n 0 rfl rfl dX7_init_0 ?_
  refine rr_objInit dX7_init_1 ol_X7_3 ow_ (Nat.le_of_ble_eq_true rfl) ?_
  refine rr_aload_n 0 rfl rfl dX7_init_4 ?_
  refine rr_bipush 20 rfl dX7_init_5 ?_
  refine cr_putI dX7_init_7 fX7_9 ni7_1 (by decide) th_1 rfl hf (fun hf => ?_)
  refine rr_aload_n 0 rfl rfl dX7_init_10 ?_
  refine rr_bipush 8 rfl dX7_init_11 ?_
  refine rr_newI (len := 8) (kc2 := 4) (ks2 := 32) dX7_init_13 th_2 ⟨by decide, by decide⟩ (Nat.le_of_ble_eq_true rfl) (by decide) rfl ⟨by decide, by decide⟩ hf (by simp [jj_rk]) (by simp [jj_rk]) (fun hf => ?_)
  refine cr_putF (.array .int) dX7_init_15 fX7_15 pn7_2 (fun _ => ⟨rfl, rfl⟩) rfl (by decide) th_1 rfl (by decide) hf (fun hf => ?_)
  refine rr_aload_n 0 rfl rfl dX7_init_18 ?_
  refine rr_bipush 8 rfl dX7_init_19 ?_
  refine rr_newI (len := 8) (kc2 := 3) (ks2 := 24) dX7_init_21 th_3 ⟨by decide, by decide⟩ (Nat.le_of_ble_eq_true rfl) (by decide) rfl ⟨by decide, by decide⟩ hf (by simp [jj_rk]) (by simp [jj_rk]) (fun hf => ?_)
  refine cr_putF (.array .int) dX7_init_23 fX7_19 pn7_3 (fun _ => ⟨rfl, rfl⟩) rfl (by decide) th_1 rfl (by decide) hf (fun hf => ?_)
  refine rr_aload_n 0 rfl rfl dX7_init_26 ?_
  refine rr_bipush 8 rfl dX7_init_27 ?_
  refine rr_newI (len := 8) (kc2 := 2) (ks2 := 16) dX7_init_29 th_4 ⟨by decide, by decide⟩ (Nat.le_of_ble_eq_true rfl) (by decide) rfl ⟨by decide, by decide⟩ hf (by simp [jj_rk]) (by simp [jj_rk]) (fun hf => ?_)
  refine cr_putF (.array .int) dX7_init_31 fX7_22 pn7_4 (fun _ => ⟨rfl, rfl⟩) rfl (by decide) th_1 rfl (by decide) hf (fun hf => ?_)
  refine rr_aload_n 0 rfl rfl dX7_init_34 ?_
  refine rr_bipush 8 rfl dX7_init_35 ?_
  refine rr_newI (len := 8) (kc2 := 1) (ks2 := 8) dX7_init_37 th_5 ⟨by decide, by decide⟩ (Nat.le_of_ble_eq_true rfl) (by decide) rfl ⟨by decide, by decide⟩ hf (by simp [jj_rk]) (by simp [jj_rk]) (fun hf => ?_)
  refine cr_putF (.array .int) dX7_init_39 fX7_25 pn7_5 (fun _ => ⟨rfl, rfl⟩) rfl (by decide) th_1 rfl (by decide) hf (fun hf => ?_)
  refine rr_aload_n 0 rfl rfl dX7_init_42 ?_
  refine rr_bipush 8 rfl dX7_init_43 ?_
  refine rr_newI (len := 8) (kc2 := 0) (ks2 := 0) dX7_init_45 th_6 ⟨by decide, by decide⟩ (Nat.le_of_ble_eq_true rfl) (by decide) rfl ⟨by decide, by decide⟩ hf (by simp [jj_rk]) (by simp [jj_rk]) (fun hf => ?_)
  refine cr_putF (.array .int) dX7_init_47 fX7_28 pn7_6 (fun _ => ⟨rfl, rfl⟩) rfl (by decide) th_1 rfl (by decide) hf (fun hf => ?_)
  refine rr_return dX7_init_50 rfl ?_
  exact kq hf
def hc_7 (h : Nat → Nat → Int32) : Nat → Nat → Int32 := (jj_u2 (jj_u2 (jj_u2 (jj_u2 h 7 0 1) 7 2 1) 7 4 1) 7 5 1)
set_option maxHeartbeats 1000000 in
theorem ct_7 {d : Nat} {h : Nat → Nat → Int32} {g : Nat → Nat → Int64} {Q : jj_Rs → jj_St → Prop} (hf : jj_fr jj_T 8 h g) (kq : jj_fr jj_T 12 (hc_7 h) g → Q (.inl none) (jj_T, 12, (hc_7 h), g)) : jj_R mX4_init (d + 1) 4 458 (jj_T, 8, h, g) 0 [(0, .ref 7)] [] Q := by
  refine rr_aload_n 0 rfl rfl dX4_init_0 ?_
  refine rr_objInit dX4_init_1 ol_X4_3 ow_ (Nat.le_of_ble_eq_true rfl) ?_
  refine rr_aload_n 0 rfl rfl dX4_init_4 ?_
  refine rr_sipush 150 rfl dX4_init_5 ?_
  refine rr_newI (len := 150) (kc2 := 3) (ks2 := 308) dX4_init_8 th_8 ⟨by decide, by decide⟩ (Nat.le_of_ble_eq_true rfl) (by decide) rfl ⟨by decide, by decide⟩ hf (by simp [jj_rk]) (by simp [jj_rk]) (fun hf => ?_)
  refine cr_putF (.array .int) dX4_init_10 fX4_9 pn4_0 (fun _ => ⟨rfl, rfl⟩) rfl (by decide) th_7 rfl (by decide) hf (fun hf => ?_)
  refine rr_aload_n 0 rfl rfl dX4_init_13 ?_
  refine rr_sipush 150 rfl dX4_init_14 ?_
  refine rr_newI (len := 150) (kc2 := 2) (ks2 := 158) dX4_init_17 th_9 ⟨by decide, by decide⟩ (Nat.le_of_ble_eq_true rfl) (by decide) rfl ⟨by decide, by decide⟩ hf (by simp [jj_rk]) (by simp [jj_rk]) (fun hf => ?_)
  refine cr_putF (.array .int) dX4_init_19 fX4_15 pn4_2 (fun _ => ⟨rfl, rfl⟩) rfl (by decide) th_7 rfl (by decide) hf (fun hf => ?_)
  refine rr_aload_n 0 rfl rfl dX4_init_22 ?_
  refine rr_bipush 8 rfl dX4_init_23 ?_
  refine rr_newI (len := 8) (kc2 := 1) (ks2 := 150) dX4_init_25 th_10 ⟨by decide, by decide⟩ (Nat.le_of_ble_eq_true rfl) (by decide) rfl ⟨by decide, by decide⟩ hf (by simp [jj_rk]) (by simp [jj_rk]) (fun hf => ?_)
  refine cr_putF (.array .int) dX4_init_27 fX4_18 pn4_4 (fun _ => ⟨rfl, rfl⟩) rfl (by decide) th_7 rfl (by decide) hf (fun hf => ?_)
  refine rr_aload_n 0 rfl rfl dX4_init_30 ?_
  refine rr_sipush 150 rfl dX4_init_31 ?_
  refine rr_newI (len := 150) (kc2 := 0) (ks2 := 0) dX4_init_34 th_11 ⟨by decide, by decide⟩ (Nat.le_of_ble_eq_true rfl) (by decide) rfl ⟨by decide, by decide⟩ hf (by simp [jj_rk]) (by simp [jj_rk]) (fun hf => ?_)
  refine cr_putF (.array .int) dX4_init_36 fX4_21 pn4_5 (fun _ => ⟨rfl, rfl⟩) rfl (by decide) th_7 rfl (by decide) hf (fun hf => ?_)
  refine rr_return dX4_init_39 rfl ?_
  exact kq hf
def hc_12 (h : Nat → Nat → Int32) : Nat → Nat → Int32 := (jj_u2 (jj_u2 h 12 0 1) 12 1 1)
set_option maxHeartbeats 1000000 in
theorem ct_12 {d : Nat} {h : Nat → Nat → Int32} {g : Nat → Nat → Int64} {Q : jj_Rs → jj_St → Prop} (hf : jj_fr jj_T 13 h g) (kq : jj_fr jj_T 13 (hc_12 h) g → Q (.inl none) (jj_T, 13, (hc_12 h), g)) : jj_R mX3_init (d + 1) 0 0 (jj_T, 13, h, g) 0 [(0, .ref 12), (1, .ref 1), (2, .ref 7)] [] Q := by
  refine rr_aload_n 0 rfl rfl dX3_init_0 ?_
  refine rr_objInit dX3_init_1 ol_X3_3 ow_ (Nat.le_of_ble_eq_true rfl) ?_
  refine rr_aload_n 0 rfl rfl dX3_init_4 ?_
  refine rr_aload_n 1 rfl rfl dX3_init_5 ?_
  refine cr_putF (.object "DayLaces$Street") dX3_init_6 fX3_9 pn3_0 (fun _ => ⟨rfl, rfl⟩) rfl (by decide) th_12 rfl (by decide) hf (fun hf => ?_)
  refine rr_aload_n 0 rfl rfl dX3_init_9 ?_
  refine rr_aload_n 2 rfl rfl dX3_init_10 ?_
  refine cr_putF (.object "DayLaces$Law") dX3_init_11 fX3_15 pn3_1 (fun _ => ⟨rfl, rfl⟩) rfl (by decide) th_12 rfl (by decide) hf (fun hf => ?_)
  refine rr_return dX3_init_14 rfl ?_
  exact kq hf
def hc_13 (h : Nat → Nat → Int32) : Nat → Nat → Int32 := (jj_u2 (jj_u2 h 13 0 1) 13 8 (-1))
set_option maxHeartbeats 1000000 in
theorem ct_13 {d : Nat} {h : Nat → Nat → Int32} {g : Nat → Nat → Int64} {Q : jj_Rs → jj_St → Prop} (hf : jj_fr jj_T 14 h g) (kq : jj_fr jj_T 15 (hc_13 h) g → Q (.inl none) (jj_T, 15, (hc_13 h), g)) : jj_R mX5_init (d + 1) 1 600 (jj_T, 14, h, g) 0 [(0, .ref 13)] [] Q := by
  refine rr_aload_n 0 rfl rfl dX5_init_0 ?_
  refine rr_objInit dX5_init_1 ol_X5_3 ow_ (Nat.le_of_ble_eq_true rfl) ?_
  refine rr_aload_n 0 rfl rfl dX5_init_4 ?_
  refine rr_sipush 600 rfl dX5_init_5 ?_
  refine rr_newB (len := 600) (kc2 := 0) (ks2 := 0) dX5_init_8 th_14 ⟨by decide, by decide⟩ (Nat.le_of_ble_eq_true rfl) (by decide) rfl ⟨by decide, by decide⟩ hf (by simp [jj_rk]) (by simp [jj_rk]) (fun hf => ?_)
  refine cr_putF (.array .byte) dX5_init_10 fX5_9 pn5_0 (fun _ => ⟨rfl, rfl⟩) rfl (by decide) th_13 rfl (by decide) hf (fun hf => ?_)
  refine rr_aload_n 0 rfl rfl dX5_init_13 ?_
  refine rr_iconst (-1) rfl dX5_init_14 ?_
  refine cr_putI dX5_init_15 fX5_15 ni5_8 (by decide) th_13 rfl hf (fun hf => ?_)
  refine rr_return dX5_init_18 rfl ?_
  exact kq hf
def hc_15 (h : Nat → Nat → Int32) : Nat → Nat → Int32 := (jj_u2 (jj_u2 (jj_u2 (jj_u2 (jj_u2 (jj_u2 h 15 1 20) 15 2 1) 15 3 1) 15 4 1) 15 5 1) 15 6 1)
set_option maxHeartbeats 1000000 in
theorem ct_15 {d : Nat} {h : Nat → Nat → Int32} {g : Nat → Nat → Int64} {Q : jj_Rs → jj_St → Prop} (hf : jj_fr jj_T 16 h g) (kq : jj_fr jj_T 21 (hc_15 h) g → Q (.inl none) (jj_T, 21, (hc_15 h), g)) : jj_R mX7_init (d + 1) 5 40 (jj_T, 16, h, g) 0 [(0, .ref 15)] [] Q := by
  refine rr_aload_n 0 rfl rfl dX7_init_0 ?_
  refine rr_objInit dX7_init_1 ol_X7_3 ow_ (Nat.le_of_ble_eq_true rfl) ?_
  refine rr_aload_n 0 rfl rfl dX7_init_4 ?_
  refine rr_bipush 20 rfl dX7_init_5 ?_
  refine cr_putI dX7_init_7 fX7_9 ni7_1 (by decide) th_15 rfl hf (fun hf => ?_)
  refine rr_aload_n 0 rfl rfl dX7_init_10 ?_
  refine rr_bipush 8 rfl dX7_init_11 ?_
  refine rr_newI (len := 8) (kc2 := 4) (ks2 := 32) dX7_init_13 th_16 ⟨by decide, by decide⟩ (Nat.le_of_ble_eq_true rfl) (by decide) rfl ⟨by decide, by decide⟩ hf (by simp [jj_rk]) (by simp [jj_rk]) (fun hf => ?_)
  refine cr_putF (.array .int) dX7_init_15 fX7_15 pn7_2 (fun _ => ⟨rfl, rfl⟩) rfl (by decide) th_15 rfl (by decide) hf (fun hf => ?_)
  refine rr_aload_n 0 rfl rfl dX7_init_18 ?_
  refine rr_bipush 8 rfl dX7_init_19 ?_
  refine rr_newI (len := 8) (kc2 := 3) (ks2 := 24) dX7_init_21 th_17 ⟨by decide, by decide⟩ (Nat.le_of_ble_eq_true rfl) (by decide) rfl ⟨by decide, by decide⟩ hf (by simp [jj_rk]) (by simp [jj_rk]) (fun hf => ?_)
  refine cr_putF (.array .int) dX7_init_23 fX7_19 pn7_3 (fun _ => ⟨rfl, rfl⟩) rfl (by decide) th_15 rfl (by decide) hf (fun hf => ?_)
  refine rr_aload_n 0 rfl rfl dX7_init_26 ?_
  refine rr_bipush 8 rfl dX7_init_27 ?_
  refine rr_newI (len := 8) (kc2 := 2) (ks2 := 16) dX7_init_29 th_18 ⟨by decide, by decide⟩ (Nat.le_of_ble_eq_true rfl) (by decide) rfl ⟨by decide, by decide⟩ hf (by simp [jj_rk]) (by simp [jj_rk]) (fun hf => ?_)
  refine cr_putF (.array .int) dX7_init_31 fX7_22 pn7_4 (fun _ => ⟨rfl, rfl⟩) rfl (by decide) th_15 rfl (by decide) hf (fun hf => ?_)
  refine rr_aload_n 0 rfl rfl dX7_init_34 ?_
  refine rr_bipush 8 rfl dX7_init_35 ?_
  refine rr_newI (len := 8) (kc2 := 1) (ks2 := 8) dX7_init_37 th_19 ⟨by decide, by decide⟩ (Nat.le_of_ble_eq_true rfl) (by decide) rfl ⟨by decide, by decide⟩ hf (by simp [jj_rk]) (by simp [jj_rk]) (fun hf => ?_)
  refine cr_putF (.array .int) dX7_init_39 fX7_25 pn7_5 (fun _ => ⟨rfl, rfl⟩) rfl (by decide) th_15 rfl (by decide) hf (fun hf => ?_)
  refine rr_aload_n 0 rfl rfl dX7_init_42 ?_
  refine rr_bipush 8 rfl dX7_init_43 ?_
  refine rr_newI (len := 8) (kc2 := 0) (ks2 := 0) dX7_init_45 th_20 ⟨by decide, by decide⟩ (Nat.le_of_ble_eq_true rfl) (by decide) rfl ⟨by decide, by decide⟩ hf (by simp [jj_rk]) (by simp [jj_rk]) (fun hf => ?_)
  refine cr_putF (.array .int) dX7_init_47 fX7_28 pn7_6 (fun _ => ⟨rfl, rfl⟩) rfl (by decide) th_15 rfl (by decide) hf (fun hf => ?_)
  refine rr_return dX7_init_50 rfl ?_
  exact kq hf
def hc_21 (h : Nat → Nat → Int32) : Nat → Nat → Int32 := (jj_u2 (jj_u2 (jj_u2 (jj_u2 h 21 1 1) 21 2 1) 21 3 1) 21 0 1)
set_option maxHeartbeats 1000000 in
theorem ct_21 {d : Nat} {h : Nat → Nat → Int32} {g : Nat → Nat → Int64} {Q : jj_Rs → jj_St → Prop} (hf : jj_fr jj_T 22 h g) (kq : jj_fr jj_T 25 (hc_21 h) g → Q (.inl none) (jj_T, 25, (hc_21 h), g)) : jj_R mX8_init (d + 1) 3 114 (jj_T, 22, h, g) 0 [(0, .ref 21), (1, .ref 12)] [] Q := by
  refine rr_aload_n 0 rfl rfl dX8_init_0 ?_
  refine rr_objInit dX8_init_1 ol_X8_3 ow_ (Nat.le_of_ble_eq_true rfl) ?_
  refine rr_aload_n 0 rfl rfl dX8_init_4 ?_
  refine rr_bipush 38 rfl dX8_init_5 ?_
  refine rr_newI (len := 38) (kc2 := 2) (ks2 := 76) dX8_init_7 th_22 ⟨by decide, by decide⟩ (Nat.le_of_ble_eq_true rfl) (by decide) rfl ⟨by decide, by decide⟩ hf (by simp [jj_rk]) (by simp [jj_rk]) (fun hf => ?_)
  refine cr_putF (.array .int) dX8_init_9 fX8_11 pn8_1 (fun _ => ⟨rfl, rfl⟩) rfl (by decide) th_21 rfl (by decide) hf (fun hf => ?_)
  refine rr_aload_n 0 rfl rfl dX8_init_12 ?_
  refine rr_bipush 38 rfl dX8_init_13 ?_
  refine rr_newI (len := 38) (kc2 := 1) (ks2 := 38) dX8_init_15 th_23 ⟨by decide, by decide⟩ (Nat.le_of_ble_eq_true rfl) (by decide) rfl ⟨by decide, by decide⟩ hf (by simp [jj_rk]) (by simp [jj_rk]) (fun hf => ?_)
  refine cr_putF (.array .int) dX8_init_17 fX8_15 pn8_2 (fun _ => ⟨rfl, rfl⟩) rfl (by decide) th_21 rfl (by decide) hf (fun hf => ?_)
  refine rr_aload_n 0 rfl rfl dX8_init_20 ?_
  refine rr_bipush 38 rfl dX8_init_21 ?_
  refine rr_newI (len := 38) (kc2 := 0) (ks2 := 0) dX8_init_23 th_24 ⟨by decide, by decide⟩ (Nat.le_of_ble_eq_true rfl) (by decide) rfl ⟨by decide, by decide⟩ hf (by simp [jj_rk]) (by simp [jj_rk]) (fun hf => ?_)
  refine cr_putF (.array .int) dX8_init_25 fX8_18 pn8_3 (fun _ => ⟨rfl, rfl⟩) rfl (by decide) th_21 rfl (by decide) hf (fun hf => ?_)
  refine rr_aload_n 0 rfl rfl dX8_init_28 ?_
  refine rr_aload_n 1 rfl rfl dX8_init_29 ?_
  refine cr_putF (.object "DayLaces$Lacing") dX8_init_30 fX8_21 pn8_0 (fun _ => ⟨rfl, rfl⟩) rfl (by decide) th_21 rfl (by decide) hf (fun hf => ?_)
  refine rr_return dX8_init_33 rfl ?_
  exact kq hf
def hc_25 (h : Nat → Nat → Int32) : Nat → Nat → Int32 := (jj_u2 (jj_u2 (jj_u2 (jj_u2 (jj_u2 (jj_u2 h 25 3 1) 25 5 1) 25 6 1) 25 7 1) 25 0 1) 25 1 1)
set_option maxHeartbeats 1000000 in
theorem ct_25 {d : Nat} {h : Nat → Nat → Int32} {g : Nat → Nat → Int64} {Q : jj_Rs → jj_St → Prop} (hf : jj_fr jj_T 26 h g) (kq : jj_fr jj_T 30 (hc_25 h) g → Q (.inl none) (jj_T, 30, (hc_25 h), g)) : jj_R mX0_init (d + 1) 4 144 (jj_T, 26, h, g) 0 [(0, .ref 25), (1, .ref 1), (2, .ref 12)] [] Q := by
  refine rr_aload_n 0 rfl rfl dX0_init_0 ?_
  refine rr_objInit dX0_init_1 ol_X0_3 ow_ (Nat.le_of_ble_eq_true rfl) ?_
  refine rr_aload_n 0 rfl rfl dX0_init_4 ?_
  refine rr_bipush 8 rfl dX0_init_5 ?_
  refine rr_newI (len := 8) (kc2 := 3) (ks2 := 136) dX0_init_7 th_26 ⟨by decide, by decide⟩ (Nat.le_of_ble_eq_true rfl) (by decide) rfl ⟨by decide, by decide⟩ hf (by simp [jj_rk]) (by simp [jj_rk]) (fun hf => ?_)
  refine cr_putF (.array .int) dX0_init_9 fX0_9 pn0_3 (fun _ => ⟨rfl, rfl⟩) rfl (by decide) th_25 rfl (by decide) hf (fun hf => ?_)
  refine rr_aload_n 0 rfl rfl dX0_init_12 ?_
  refine rr_bipush 8 rfl dX0_init_13 ?_
  refine rr_newI (len := 8) (kc2 := 2) (ks2 := 128) dX0_init_15 th_27 ⟨by decide, by decide⟩ (Nat.le_of_ble_eq_true rfl) (by decide) rfl ⟨by decide, by decide⟩ hf (by simp [jj_rk]) (by simp [jj_rk]) (fun hf => ?_)
  refine cr_putF (.array .int) dX0_init_17 fX0_15 pn0_5 (fun _ => ⟨rfl, rfl⟩) rfl (by decide) th_25 rfl (by decide) hf (fun hf => ?_)
  refine rr_aload_n 0 rfl rfl dX0_init_20 ?_
  refine rr_bipush 64 rfl dX0_init_21 ?_
  refine rr_newZ (len := 64) (kc2 := 1) (ks2 := 64) dX0_init_23 th_28 ⟨by decide, by decide⟩ (Nat.le_of_ble_eq_true rfl) (by decide) rfl ⟨by decide, by decide⟩ hf (by simp [jj_rk]) (by simp [jj_rk]) (fun hf => ?_)
  refine cr_putF (.array .boolean) dX0_init_25 fX0_18 pn0_6 (fun _ => ⟨rfl, rfl⟩) rfl (by decide) th_25 rfl (by decide) hf (fun hf => ?_)
  refine rr_aload_n 0 rfl rfl dX0_init_28 ?_
  refine rr_bipush 64 rfl dX0_init_29 ?_
  refine rr_newI (len := 64) (kc2 := 0) (ks2 := 0) dX0_init_31 th_29 ⟨by decide, by decide⟩ (Nat.le_of_ble_eq_true rfl) (by decide) rfl ⟨by decide, by decide⟩ hf (by simp [jj_rk]) (by simp [jj_rk]) (fun hf => ?_)
  refine cr_putF (.array .int) dX0_init_33 fX0_22 pn0_7 (fun _ => ⟨rfl, rfl⟩) rfl (by decide) th_25 rfl (by decide) hf (fun hf => ?_)
  refine rr_aload_n 0 rfl rfl dX0_init_36 ?_
  refine rr_aload_n 1 rfl rfl dX0_init_37 ?_
  refine cr_putF (.object "DayLaces$Street") dX0_init_38 fX0_25 pn0_0 (fun _ => ⟨rfl, rfl⟩) rfl (by decide) th_25 rfl (by decide) hf (fun hf => ?_)
  refine rr_aload_n 0 rfl rfl dX0_init_41 ?_
  refine rr_aload_n 2 rfl rfl dX0_init_42 ?_
  refine cr_putF (.object "DayLaces$Lacing") dX0_init_43 fX0_29 pn0_1 (fun _ => ⟨rfl, rfl⟩) rfl (by decide) th_25 rfl (by decide) hf (fun hf => ?_)
  refine rr_return dX0_init_46 rfl ?_
  exact kq hf
def hc_30 (h : Nat → Nat → Int32) : Nat → Nat → Int32 := (jj_u2 (jj_u2 (jj_u2 (jj_u2 (jj_u2 h 30 2 1) 30 3 1) 30 4 1) 30 0 1) 30 1 1)
set_option maxHeartbeats 1000000 in
theorem ct_30 {d : Nat} {h : Nat → Nat → Int32} {g : Nat → Nat → Int64} {Q : jj_Rs → jj_St → Prop} (hf : jj_fr jj_T 31 h g) (kq : jj_fr jj_T 34 (hc_30 h) g → Q (.inl none) (jj_T, 34, (hc_30 h), g)) : jj_R mX2_init (d + 1) 3 24 (jj_T, 31, h, g) 0 [(0, .ref 30), (1, .ref 1), (2, .ref 12)] [] Q := by
  refine rr_aload_n 0 rfl rfl dX2_init_0 ?_
  refine rr_objInit dX2_init_1 ol_X2_3 ow_ (Nat.le_of_ble_eq_true rfl) ?_
  refine rr_aload_n 0 rfl rfl dX2_init_4 ?_
  refine rr_bipush 8 rfl dX2_init_5 ?_
  refine rr_newI (len := 8) (kc2 := 2) (ks2 := 16) dX2_init_7 th_31 ⟨by decide, by decide⟩ (Nat.le_of_ble_eq_true rfl) (by decide) rfl ⟨by decide, by decide⟩ hf (by simp [jj_rk]) (by simp [jj_rk]) (fun hf => ?_)
  refine cr_putF (.array .int) dX2_init_9 fX2_9 pn2_2 (fun _ => ⟨rfl, rfl⟩) rfl (by decide) th_30 rfl (by decide) hf (fun hf => ?_)
  refine rr_aload_n 0 rfl rfl dX2_init_12 ?_
  refine rr_bipush 8 rfl dX2_init_13 ?_
  refine rr_newI (len := 8) (kc2 := 1) (ks2 := 8) dX2_init_15 th_32 ⟨by decide, by decide⟩ (Nat.le_of_ble_eq_true rfl) (by decide) rfl ⟨by decide, by decide⟩ hf (by simp [jj_rk]) (by simp [jj_rk]) (fun hf => ?_)
  refine cr_putF (.array .int) dX2_init_17 fX2_15 pn2_3 (fun _ => ⟨rfl, rfl⟩) rfl (by decide) th_30 rfl (by decide) hf (fun hf => ?_)
  refine rr_aload_n 0 rfl rfl dX2_init_20 ?_
  refine rr_bipush 8 rfl dX2_init_21 ?_
  refine rr_newI (len := 8) (kc2 := 0) (ks2 := 0) dX2_init_23 th_33 ⟨by decide, by decide⟩ (Nat.le_of_ble_eq_true rfl) (by decide) rfl ⟨by decide, by decide⟩ hf (by simp [jj_rk]) (by simp [jj_rk]) (fun hf => ?_)
  refine cr_putF (.array .int) dX2_init_25 fX2_18 pn2_4 (fun _ => ⟨rfl, rfl⟩) rfl (by decide) th_30 rfl (by decide) hf (fun hf => ?_)
  refine rr_aload_n 0 rfl rfl dX2_init_28 ?_
  refine rr_aload_n 1 rfl rfl dX2_init_29 ?_
  refine cr_putF (.object "DayLaces$Street") dX2_init_30 fX2_21 pn2_0 (fun _ => ⟨rfl, rfl⟩) rfl (by decide) th_30 rfl (by decide) hf (fun hf => ?_)
  refine rr_aload_n 0 rfl rfl dX2_init_33 ?_
  refine rr_aload_n 2 rfl rfl dX2_init_34 ?_
  refine cr_putF (.object "DayLaces$Lacing") dX2_init_35 fX2_25 pn2_1 (fun _ => ⟨rfl, rfl⟩) rfl (by decide) th_30 rfl (by decide) hf (fun hf => ?_)
  refine rr_return dX2_init_38 rfl ?_
  exact kq hf
def hc_34 (h : Nat → Nat → Int32) : Nat → Nat → Int32 := (jj_u2 (jj_u2 (jj_u2 h 34 2 1) 34 3 1) 34 4 1)
set_option maxHeartbeats 1000000 in
theorem ct_34 {d : Nat} {h : Nat → Nat → Int32} {g : Nat → Nat → Int64} {Q : jj_Rs → jj_St → Prop} (hf : jj_fr jj_T 35 h g) (kq : jj_fr jj_T 38 (hc_34 h) g → Q (.inl none) (jj_T, 38, (hc_34 h), g)) : jj_R mX1_init (d + 1) 3 2348 (jj_T, 35, h, g) 0 [(0, .ref 34)] [] Q := by
  refine rr_aload_n 0 rfl rfl dX1_init_0 ?_
  refine rr_objInit dX1_init_1 ol_X1_3 ow_ (Nat.le_of_ble_eq_true rfl) ?_
  refine rr_aload_n 0 rfl rfl dX1_init_4 ?_
  refine rr_sipush 560 rfl dX1_init_5 ?_
  refine rr_newI (len := 560) (kc2 := 2) (ks2 := 1788) dX1_init_8 th_35 ⟨by decide, by decide⟩ (Nat.le_of_ble_eq_true rfl) (by decide) rfl ⟨by decide, by decide⟩ hf (by simp [jj_rk]) (by simp [jj_rk]) (fun hf => ?_)
  refine cr_putF (.array .int) dX1_init_10 fX1_11 pn1_2 (fun _ => ⟨rfl, rfl⟩) rfl (by decide) th_34 rfl (by decide) hf (fun hf => ?_)
  refine rr_aload_n 0 rfl rfl dX1_init_13 ?_
  refine rr_sipush 1785 rfl dX1_init_14 ?_
  refine rr_newI (len := 1785) (kc2 := 1) (ks2 := 3) dX1_init_17 th_36 ⟨by decide, by decide⟩ (Nat.le_of_ble_eq_true rfl) (by decide) rfl ⟨by decide, by decide⟩ hf (by simp [jj_rk]) (by simp [jj_rk]) (fun hf => ?_)
  refine cr_putF (.array .int) dX1_init_19 fX1_17 pn1_3 (fun _ => ⟨rfl, rfl⟩) rfl (by decide) th_34 rfl (by decide) hf (fun hf => ?_)
  refine rr_aload_n 0 rfl rfl dX1_init_22 ?_
  refine rr_iconst 3 rfl dX1_init_23 ?_
  refine rr_newI (len := 3) (kc2 := 0) (ks2 := 0) dX1_init_24 th_37 ⟨by decide, by decide⟩ (Nat.le_of_ble_eq_true rfl) (by decide) rfl ⟨by decide, by decide⟩ hf (by simp [jj_rk]) (by simp [jj_rk]) (fun hf => ?_)
  refine cr_putF (.array .int) dX1_init_26 fX1_20 pn1_4 (fun _ => ⟨rfl, rfl⟩) rfl (by decide) th_34 rfl (by decide) hf (fun hf => ?_)
  refine rr_return dX1_init_29 rfl ?_
  exact kq hf
def hc_38 (h : Nat → Nat → Int32) : Nat → Nat → Int32 := (jj_u2 (jj_u2 (jj_u2 (jj_u2 h 38 3 1) 38 4 1) 38 5 1) 38 6 1)
set_option maxHeartbeats 1000000 in
theorem ct_38 {d : Nat} {h : Nat → Nat → Int32} {g : Nat → Nat → Int64} {Q : jj_Rs → jj_St → Prop} (hf : jj_fr jj_T 39 h g) (kq : jj_fr jj_T 43 (hc_38 h) g → Q (.inl none) (jj_T, 43, (hc_38 h), g)) : jj_R mX6_init (d + 1) 4 32 (jj_T, 39, h, g) 0 [(0, .ref 38)] [] Q := by
  refine rr_aload_n 0 rfl rfl dX6_init_0 ?_
  refine rr_objInit dX6_init_1 ol_X6_3 ow_ (Nat.le_of_ble_eq_true rfl) ?_
  refine rr_aload_n 0 rfl rfl dX6_init_4 ?_
  refine rr_bipush 8 rfl dX6_init_5 ?_
  refine rr_newI (len := 8) (kc2 := 3) (ks2 := 24) dX6_init_7 th_39 ⟨by decide, by decide⟩ (Nat.le_of_ble_eq_true rfl) (by decide) rfl ⟨by decide, by decide⟩ hf (by simp [jj_rk]) (by simp [jj_rk]) (fun hf => ?_)
  refine cr_putF (.array .int) dX6_init_9 fX6_9 pn6_3 (fun _ => ⟨rfl, rfl⟩) rfl (by decide) th_38 rfl (by decide) hf (fun hf => ?_)
  refine rr_aload_n 0 rfl rfl dX6_init_12 ?_
  refine rr_bipush 8 rfl dX6_init_13 ?_
  refine rr_newI (len := 8) (kc2 := 2) (ks2 := 16) dX6_init_15 th_40 ⟨by decide, by decide⟩ (Nat.le_of_ble_eq_true rfl) (by decide) rfl ⟨by decide, by decide⟩ hf (by simp [jj_rk]) (by simp [jj_rk]) (fun hf => ?_)
  refine cr_putF (.array .int) dX6_init_17 fX6_15 pn6_4 (fun _ => ⟨rfl, rfl⟩) rfl (by decide) th_38 rfl (by decide) hf (fun hf => ?_)
  refine rr_aload_n 0 rfl rfl dX6_init_20 ?_
  refine rr_bipush 8 rfl dX6_init_21 ?_
  refine rr_newI (len := 8) (kc2 := 1) (ks2 := 8) dX6_init_23 th_41 ⟨by decide, by decide⟩ (Nat.le_of_ble_eq_true rfl) (by decide) rfl ⟨by decide, by decide⟩ hf (by simp [jj_rk]) (by simp [jj_rk]) (fun hf => ?_)
  refine cr_putF (.array .int) dX6_init_25 fX6_18 pn6_5 (fun _ => ⟨rfl, rfl⟩) rfl (by decide) th_38 rfl (by decide) hf (fun hf => ?_)
  refine rr_aload_n 0 rfl rfl dX6_init_28 ?_
  refine rr_bipush 8 rfl dX6_init_29 ?_
  refine rr_newI (len := 8) (kc2 := 0) (ks2 := 0) dX6_init_31 th_42 ⟨by decide, by decide⟩ (Nat.le_of_ble_eq_true rfl) (by decide) rfl ⟨by decide, by decide⟩ hf (by simp [jj_rk]) (by simp [jj_rk]) (fun hf => ?_)
  refine cr_putF (.array .int) dX6_init_33 fX6_21 pn6_6 (fun _ => ⟨rfl, rfl⟩) rfl (by decide) th_38 rfl (by decide) hf (fun hf => ?_)
  refine rr_return dX6_init_36 rfl ?_
  exact kq hf
def hc_43 (h : Nat → Nat → Int32) : Nat → Nat → Int32 := (jj_u2 (jj_u2 (jj_u2 (jj_u2 h 43 3 1) 43 4 1) 43 5 1) 43 6 1)
set_option maxHeartbeats 1000000 in
theorem ct_43 {d : Nat} {h : Nat → Nat → Int32} {g : Nat → Nat → Int64} {Q : jj_Rs → jj_St → Prop} (hf : jj_fr jj_T 44 h g) (kq : jj_fr jj_T 48 (hc_43 h) g → Q (.inl none) (jj_T, 48, (hc_43 h), g)) : jj_R mX6_init (d + 1) 4 32 (jj_T, 44, h, g) 0 [(0, .ref 43)] [] Q := by
  refine rr_aload_n 0 rfl rfl dX6_init_0 ?_
  refine rr_objInit dX6_init_1 ol_X6_3 ow_ (Nat.le_of_ble_eq_true rfl) ?_
  refine rr_aload_n 0 rfl rfl dX6_init_4 ?_
  refine rr_bipush 8 rfl dX6_init_5 ?_
  refine rr_newI (len := 8) (kc2 := 3) (ks2 := 24) dX6_init_7 th_44 ⟨by decide, by decide⟩ (Nat.le_of_ble_eq_true rfl) (by decide) rfl ⟨by decide, by decide⟩ hf (by simp [jj_rk]) (by simp [jj_rk]) (fun hf => ?_)
  refine cr_putF (.array .int) dX6_init_9 fX6_9 pn6_3 (fun _ => ⟨rfl, rfl⟩) rfl (by decide) th_43 rfl (by decide) hf (fun hf => ?_)
  refine rr_aload_n 0 rfl rfl dX6_init_12 ?_
  refine rr_bipush 8 rfl dX6_init_13 ?_
  refine rr_newI (len := 8) (kc2 := 2) (ks2 := 16) dX6_init_15 th_45 ⟨by decide, by decide⟩ (Nat.le_of_ble_eq_true rfl) (by decide) rfl ⟨by decide, by decide⟩ hf (by simp [jj_rk]) (by simp [jj_rk]) (fun hf => ?_)
  refine cr_putF (.array .int) dX6_init_17 fX6_15 pn6_4 (fun _ => ⟨rfl, rfl⟩) rfl (by decide) th_43 rfl (by decide) hf (fun hf => ?_)
  refine rr_aload_n 0 rfl rfl dX6_init_20 ?_
  refine rr_bipush 8 rfl dX6_init_21 ?_
  refine rr_newI (len := 8) (kc2 := 1) (ks2 := 8) dX6_init_23 th_46 ⟨by decide, by decide⟩ (Nat.le_of_ble_eq_true rfl) (by decide) rfl ⟨by decide, by decide⟩ hf (by simp [jj_rk]) (by simp [jj_rk]) (fun hf => ?_)
  refine cr_putF (.array .int) dX6_init_25 fX6_18 pn6_5 (fun _ => ⟨rfl, rfl⟩) rfl (by decide) th_43 rfl (by decide) hf (fun hf => ?_)
  refine rr_aload_n 0 rfl rfl dX6_init_28 ?_
  refine rr_bipush 8 rfl dX6_init_29 ?_
  refine rr_newI (len := 8) (kc2 := 0) (ks2 := 0) dX6_init_31 th_47 ⟨by decide, by decide⟩ (Nat.le_of_ble_eq_true rfl) (by decide) rfl ⟨by decide, by decide⟩ hf (by simp [jj_rk]) (by simp [jj_rk]) (fun hf => ?_)
  refine cr_putF (.array .int) dX6_init_33 fX6_21 pn6_6 (fun _ => ⟨rfl, rfl⟩) rfl (by decide) th_43 rfl (by decide) hf (fun hf => ?_)
  refine rr_return dX6_init_36 rfl ?_
  exact kq hf
