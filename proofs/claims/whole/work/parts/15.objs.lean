/-! ===== the cells: which is what ===== -/
def jj_S0 (o : Nat) : jj_Sh :=
  if o < 1 then .inl (9, [some (false, 13), some (false, 1), some (false, 15), some (false, 7), some (false, 12), some (false, 21), some (false, 25), some (false, 30), some (false, 34), some (false, 38), some (false, 43), some (false, 48), none, none, none]) else
  if o < 2 then .inl (7, [none, none, some (false, 2), some (false, 3), some (false, 4), some (false, 5), some (false, 6)]) else
  if o < 7 then .inr (.inl (0, 8)) else
  if o < 8 then .inl (4, [some (false, 8), none, some (false, 9), none, some (false, 10), some (false, 11)]) else
  if o < 10 then .inr (.inl (0, 150)) else
  if o < 11 then .inr (.inl (0, 8)) else
  if o < 12 then .inr (.inl (0, 150)) else
  if o < 13 then .inl (3, [some (false, 1), some (false, 7), none]) else
  if o < 14 then .inl (5, [some (false, 14), none, none, none, none, none, none, none, none]) else
  if o < 15 then .inr (.inl (1, 600)) else
  if o < 16 then .inl (7, [none, none, some (false, 16), some (false, 17), some (false, 18), some (false, 19), some (false, 20)]) else
  if o < 21 then .inr (.inl (0, 8)) else
  if o < 22 then .inl (8, [some (false, 12), some (false, 22), some (false, 23), some (false, 24), none, none, some (true, 38), none, none, none]) else
  if o < 25 then .inr (.inl (0, 38)) else
  if o < 26 then .inl (0, [some (false, 1), some (false, 12), none, some (false, 26), none, some (false, 27), some (false, 28), some (false, 29), none, none]) else
  if o < 28 then .inr (.inl (0, 8)) else
  if o < 29 then .inr (.inl (2, 64)) else
  if o < 30 then .inr (.inl (0, 64)) else
  if o < 31 then .inl (2, [some (false, 1), some (false, 12), some (false, 31), some (false, 32), some (false, 33), none, none]) else
  if o < 34 then .inr (.inl (0, 8)) else
  if o < 35 then .inl (1, [none, none, some (false, 35), some (false, 36), some (false, 37)]) else
  if o < 36 then .inr (.inl (0, 560)) else
  if o < 37 then .inr (.inl (0, 1785)) else
  if o < 38 then .inr (.inl (0, 3)) else
  if o < 39 then .inl (6, [none, none, none, some (false, 39), some (false, 40), some (false, 41), some (false, 42)]) else
  if o < 43 then .inr (.inl (0, 8)) else
  if o < 44 then .inl (6, [none, none, none, some (false, 44), some (false, 45), some (false, 46), some (false, 47)]) else
  if o < 48 then .inr (.inl (0, 8)) else
  if o < 49 then .inr (.inl (0, 2048)) else
  if o < 50 then .inl (10, [none, none, none, none, none, none, none, none, none, some (false, 50), some (false, 51), some (false, 52), some (false, 53), some (false, 54), some (false, 63), some (false, 72), some (false, 73), none, none, some (false, 74), some (false, 235), some (false, 396), some (false, 405), some (false, 414), some (false, 415), some (false, 416), none, some (false, 497), some (false, 498), some (false, 499), some (false, 516), none, none, none, none, none, none, none, some (false, 520), some (false, 777), some (false, 778), none, none, some (false, 779), some (false, 780), none]) else
  .inr (.inl (0, 0))
def jj_S1 (o : Nat) : jj_Sh :=
  if o < 51 then .inr (.inl (0, 600)) else
  if o < 54 then .inr (.inl (0, 2)) else
  if o < 55 then .inr (.inr (.inr (8, 55))) else
  if o < 63 then .inr (.inl (0, 4)) else
  if o < 64 then .inr (.inr (.inr (8, 64))) else
  if o < 72 then .inr (.inl (0, 4)) else
  if o < 74 then .inr (.inl (0, 8)) else
  if o < 75 then .inr (.inr (.inr (160, 75))) else
  if o < 235 then .inr (.inl (0, 2)) else
  if o < 236 then .inr (.inr (.inr (160, 236))) else
  if o < 396 then .inr (.inl (0, 2)) else
  if o < 397 then .inr (.inr (.inr (8, 397))) else
  if o < 405 then .inr (.inl (0, 2)) else
  if o < 406 then .inr (.inr (.inr (8, 406))) else
  if o < 414 then .inr (.inl (0, 2)) else
  if o < 415 then .inr (.inl (0, 160)) else
  if o < 416 then .inr (.inl (0, 8)) else
  if o < 417 then .inr (.inr (.inr (80, 417))) else
  if o < 497 then .inr (.inl (0, 4)) else
  if o < 499 then .inr (.inl (0, 35)) else
  if o < 500 then .inr (.inr (.inr (16, 500))) else
  if o < 516 then .inr (.inl (0, 35)) else
  if o < 517 then .inr (.inr (.inr (3, 517))) else
  if o < 520 then .inr (.inl (0, 596)) else
  if o < 521 then .inr (.inr (.inr (256, 521))) else
  if o < 779 then .inr (.inl (0, 8)) else
  if o < 780 then .inr (.inl (0, 1000)) else
  if o < 781 then .inr (.inr (.inl 14)) else
  if o < 782 then .inr (.inr (.inl 1)) else
  .inr (.inl (0, 0))
def jj_S (o : Nat) : jj_Sh := if o < 50 then jj_S0 o else jj_S1 o
theorem lo_0 : 0 < 782 := by decide
theorem sh_0 : jj_S 0 = .inl (9, [some (false, 13), some (false, 1), some (false, 15), some (false, 7), some (false, 12), some (false, 21), some (false, 25), some (false, 30), some (false, 34), some (false, 38), some (false, 43), some (false, 48), none, none, none]) := by decide +kernel
theorem lo_1 : 1 < 782 := by decide
theorem sh_1 : jj_S 1 = .inl (7, [none, none, some (false, 2), some (false, 3), some (false, 4), some (false, 5), some (false, 6)]) := by decide +kernel
theorem lo_2 : 2 < 782 := by decide
theorem sh_2 : jj_S 2 = .inr (.inl (0, 8)) := by decide +kernel
theorem lo_3 : 3 < 782 := by decide
theorem sh_3 : jj_S 3 = .inr (.inl (0, 8)) := by decide +kernel
theorem lo_4 : 4 < 782 := by decide
theorem sh_4 : jj_S 4 = .inr (.inl (0, 8)) := by decide +kernel
theorem lo_5 : 5 < 782 := by decide
theorem sh_5 : jj_S 5 = .inr (.inl (0, 8)) := by decide +kernel
theorem lo_6 : 6 < 782 := by decide
theorem sh_6 : jj_S 6 = .inr (.inl (0, 8)) := by decide +kernel
theorem lo_7 : 7 < 782 := by decide
theorem sh_7 : jj_S 7 = .inl (4, [some (false, 8), none, some (false, 9), none, some (false, 10), some (false, 11)]) := by decide +kernel
theorem lo_8 : 8 < 782 := by decide
theorem sh_8 : jj_S 8 = .inr (.inl (0, 150)) := by decide +kernel
theorem lo_9 : 9 < 782 := by decide
theorem sh_9 : jj_S 9 = .inr (.inl (0, 150)) := by decide +kernel
theorem lo_10 : 10 < 782 := by decide
theorem sh_10 : jj_S 10 = .inr (.inl (0, 8)) := by decide +kernel
theorem lo_11 : 11 < 782 := by decide
theorem sh_11 : jj_S 11 = .inr (.inl (0, 150)) := by decide +kernel
theorem lo_12 : 12 < 782 := by decide
theorem sh_12 : jj_S 12 = .inl (3, [some (false, 1), some (false, 7), none]) := by decide +kernel
theorem lo_13 : 13 < 782 := by decide
theorem sh_13 : jj_S 13 = .inl (5, [some (false, 14), none, none, none, none, none, none, none, none]) := by decide +kernel
theorem lo_14 : 14 < 782 := by decide
theorem sh_14 : jj_S 14 = .inr (.inl (1, 600)) := by decide +kernel
theorem lo_15 : 15 < 782 := by decide
theorem sh_15 : jj_S 15 = .inl (7, [none, none, some (false, 16), some (false, 17), some (false, 18), some (false, 19), some (false, 20)]) := by decide +kernel
theorem lo_16 : 16 < 782 := by decide
theorem sh_16 : jj_S 16 = .inr (.inl (0, 8)) := by decide +kernel
theorem lo_17 : 17 < 782 := by decide
theorem sh_17 : jj_S 17 = .inr (.inl (0, 8)) := by decide +kernel
theorem lo_18 : 18 < 782 := by decide
theorem sh_18 : jj_S 18 = .inr (.inl (0, 8)) := by decide +kernel
theorem lo_19 : 19 < 782 := by decide
theorem sh_19 : jj_S 19 = .inr (.inl (0, 8)) := by decide +kernel
theorem lo_20 : 20 < 782 := by decide
theorem sh_20 : jj_S 20 = .inr (.inl (0, 8)) := by decide +kernel
theorem lo_21 : 21 < 782 := by decide
theorem sh_21 : jj_S 21 = .inl (8, [some (false, 12), some (false, 22), some (false, 23), some (false, 24), none, none, some (true, 38), none, none, none]) := by decide +kernel
theorem lo_22 : 22 < 782 := by decide
theorem sh_22 : jj_S 22 = .inr (.inl (0, 38)) := by decide +kernel
theorem lo_23 : 23 < 782 := by decide
theorem sh_23 : jj_S 23 = .inr (.inl (0, 38)) := by decide +kernel
theorem lo_24 : 24 < 782 := by decide
theorem sh_24 : jj_S 24 = .inr (.inl (0, 38)) := by decide +kernel
theorem lo_25 : 25 < 782 := by decide
theorem sh_25 : jj_S 25 = .inl (0, [some (false, 1), some (false, 12), none, some (false, 26), none, some (false, 27), some (false, 28), some (false, 29), none, none]) := by decide +kernel
theorem lo_26 : 26 < 782 := by decide
theorem sh_26 : jj_S 26 = .inr (.inl (0, 8)) := by decide +kernel
theorem lo_27 : 27 < 782 := by decide
theorem sh_27 : jj_S 27 = .inr (.inl (0, 8)) := by decide +kernel
theorem lo_28 : 28 < 782 := by decide
theorem sh_28 : jj_S 28 = .inr (.inl (2, 64)) := by decide +kernel
theorem lo_29 : 29 < 782 := by decide
theorem sh_29 : jj_S 29 = .inr (.inl (0, 64)) := by decide +kernel
theorem lo_30 : 30 < 782 := by decide
theorem sh_30 : jj_S 30 = .inl (2, [some (false, 1), some (false, 12), some (false, 31), some (false, 32), some (false, 33), none, none]) := by decide +kernel
theorem lo_31 : 31 < 782 := by decide
theorem sh_31 : jj_S 31 = .inr (.inl (0, 8)) := by decide +kernel
theorem lo_32 : 32 < 782 := by decide
theorem sh_32 : jj_S 32 = .inr (.inl (0, 8)) := by decide +kernel
theorem lo_33 : 33 < 782 := by decide
theorem sh_33 : jj_S 33 = .inr (.inl (0, 8)) := by decide +kernel
theorem lo_34 : 34 < 782 := by decide
theorem sh_34 : jj_S 34 = .inl (1, [none, none, some (false, 35), some (false, 36), some (false, 37)]) := by decide +kernel
theorem lo_35 : 35 < 782 := by decide
theorem sh_35 : jj_S 35 = .inr (.inl (0, 560)) := by decide +kernel
theorem lo_36 : 36 < 782 := by decide
theorem sh_36 : jj_S 36 = .inr (.inl (0, 1785)) := by decide +kernel
theorem lo_37 : 37 < 782 := by decide
theorem sh_37 : jj_S 37 = .inr (.inl (0, 3)) := by decide +kernel
theorem lo_38 : 38 < 782 := by decide
theorem sh_38 : jj_S 38 = .inl (6, [none, none, none, some (false, 39), some (false, 40), some (false, 41), some (false, 42)]) := by decide +kernel
theorem lo_39 : 39 < 782 := by decide
theorem sh_39 : jj_S 39 = .inr (.inl (0, 8)) := by decide +kernel
theorem lo_40 : 40 < 782 := by decide
theorem sh_40 : jj_S 40 = .inr (.inl (0, 8)) := by decide +kernel
theorem lo_41 : 41 < 782 := by decide
theorem sh_41 : jj_S 41 = .inr (.inl (0, 8)) := by decide +kernel
theorem lo_42 : 42 < 782 := by decide
theorem sh_42 : jj_S 42 = .inr (.inl (0, 8)) := by decide +kernel
theorem lo_43 : 43 < 782 := by decide
theorem sh_43 : jj_S 43 = .inl (6, [none, none, none, some (false, 44), some (false, 45), some (false, 46), some (false, 47)]) := by decide +kernel
theorem lo_44 : 44 < 782 := by decide
theorem sh_44 : jj_S 44 = .inr (.inl (0, 8)) := by decide +kernel
theorem lo_45 : 45 < 782 := by decide
theorem sh_45 : jj_S 45 = .inr (.inl (0, 8)) := by decide +kernel
theorem lo_46 : 46 < 782 := by decide
theorem sh_46 : jj_S 46 = .inr (.inl (0, 8)) := by decide +kernel
theorem lo_47 : 47 < 782 := by decide
theorem sh_47 : jj_S 47 = .inr (.inl (0, 8)) := by decide +kernel
theorem lo_48 : 48 < 782 := by decide
theorem sh_48 : jj_S 48 = .inr (.inl (0, 2048)) := by decide +kernel
theorem lo_49 : 49 < 782 := by decide
theorem sh_49 : jj_S 49 = .inl (10, [none, none, none, none, none, none, none, none, none, some (false, 50), some (false, 51), some (false, 52), some (false, 53), some (false, 54), some (false, 63), some (false, 72), some (false, 73), none, none, some (false, 74), some (false, 235), some (false, 396), some (false, 405), some (false, 414), some (false, 415), some (false, 416), none, some (false, 497), some (false, 498), some (false, 499), some (false, 516), none, none, none, none, none, none, none, some (false, 520), some (false, 777), some (false, 778), none, none, some (false, 779), some (false, 780), none]) := by decide +kernel
theorem lo_50 : 50 < 782 := by decide
theorem sh_50 : jj_S 50 = .inr (.inl (0, 600)) := by decide +kernel
theorem lo_51 : 51 < 782 := by decide
theorem sh_51 : jj_S 51 = .inr (.inl (0, 2)) := by decide +kernel
theorem lo_52 : 52 < 782 := by decide
theorem sh_52 : jj_S 52 = .inr (.inl (0, 2)) := by decide +kernel
theorem lo_53 : 53 < 782 := by decide
theorem sh_53 : jj_S 53 = .inr (.inl (0, 2)) := by decide +kernel
theorem lo_54 : 54 < 782 := by decide
theorem sh_54 : jj_S 54 = .inr (.inr (.inr (8, 55))) := by decide +kernel
theorem lo_63 : 63 < 782 := by decide
theorem sh_63 : jj_S 63 = .inr (.inr (.inr (8, 64))) := by decide +kernel
theorem lo_72 : 72 < 782 := by decide
theorem sh_72 : jj_S 72 = .inr (.inl (0, 8)) := by decide +kernel
theorem lo_73 : 73 < 782 := by decide
theorem sh_73 : jj_S 73 = .inr (.inl (0, 8)) := by decide +kernel
theorem lo_74 : 74 < 782 := by decide
theorem sh_74 : jj_S 74 = .inr (.inr (.inr (160, 75))) := by decide +kernel
theorem lo_235 : 235 < 782 := by decide
theorem sh_235 : jj_S 235 = .inr (.inr (.inr (160, 236))) := by decide +kernel
theorem lo_396 : 396 < 782 := by decide
theorem sh_396 : jj_S 396 = .inr (.inr (.inr (8, 397))) := by decide +kernel
theorem lo_405 : 405 < 782 := by decide
theorem sh_405 : jj_S 405 = .inr (.inr (.inr (8, 406))) := by decide +kernel
theorem lo_414 : 414 < 782 := by decide
theorem sh_414 : jj_S 414 = .inr (.inl (0, 160)) := by decide +kernel
theorem lo_415 : 415 < 782 := by decide
theorem sh_415 : jj_S 415 = .inr (.inl (0, 8)) := by decide +kernel
theorem lo_416 : 416 < 782 := by decide
theorem sh_416 : jj_S 416 = .inr (.inr (.inr (80, 417))) := by decide +kernel
theorem lo_497 : 497 < 782 := by decide
theorem sh_497 : jj_S 497 = .inr (.inl (0, 35)) := by decide +kernel
theorem lo_498 : 498 < 782 := by decide
theorem sh_498 : jj_S 498 = .inr (.inl (0, 35)) := by decide +kernel
theorem lo_499 : 499 < 782 := by decide
theorem sh_499 : jj_S 499 = .inr (.inr (.inr (16, 500))) := by decide +kernel
theorem lo_516 : 516 < 782 := by decide
theorem sh_516 : jj_S 516 = .inr (.inr (.inr (3, 517))) := by decide +kernel
theorem lo_520 : 520 < 782 := by decide
theorem sh_520 : jj_S 520 = .inr (.inr (.inr (256, 521))) := by decide +kernel
theorem lo_777 : 777 < 782 := by decide
theorem sh_777 : jj_S 777 = .inr (.inl (0, 8)) := by decide +kernel
theorem lo_778 : 778 < 782 := by decide
theorem sh_778 : jj_S 778 = .inr (.inl (0, 8)) := by decide +kernel
theorem lo_779 : 779 < 782 := by decide
theorem sh_779 : jj_S 779 = .inr (.inl (0, 1000)) := by decide +kernel
theorem lo_780 : 780 < 782 := by decide
theorem sh_780 : jj_S 780 = .inr (.inr (.inl 14)) := by decide +kernel
theorem lo_781 : 781 < 782 := by decide
theorem sh_781 : jj_S 781 = .inr (.inr (.inl 1)) := by decide +kernel
theorem lr_54 {j : Nat} (h : j < 8) : 55 + j < 782 := by omega
theorem sr_54 {j : Nat} (h : j < 8) : jj_S (55 + j) = .inr (.inl (0, 4)) := by
  unfold jj_S jj_S1
  rw [if_neg (show ¬ 55 + j < 50 by omega), if_neg (show ¬ 55 + j < 51 by omega), if_neg (show ¬ 55 + j < 54 by omega), if_neg (show ¬ 55 + j < 55 by omega), if_pos (show 55 + j < 63 by omega)]
theorem lr_63 {j : Nat} (h : j < 8) : 64 + j < 782 := by omega
theorem sr_63 {j : Nat} (h : j < 8) : jj_S (64 + j) = .inr (.inl (0, 4)) := by
  unfold jj_S jj_S1
  rw [if_neg (show ¬ 64 + j < 50 by omega), if_neg (show ¬ 64 + j < 51 by omega), if_neg (show ¬ 64 + j < 54 by omega), if_neg (show ¬ 64 + j < 55 by omega), if_neg (show ¬ 64 + j < 63 by omega), if_neg (show ¬ 64 + j < 64 by omega), if_pos (show 64 + j < 72 by omega)]
theorem lr_74 {j : Nat} (h : j < 160) : 75 + j < 782 := by omega
theorem sr_74 {j : Nat} (h : j < 160) : jj_S (75 + j) = .inr (.inl (0, 2)) := by
  unfold jj_S jj_S1
  rw [if_neg (show ¬ 75 + j < 50 by omega), if_neg (show ¬ 75 + j < 51 by omega), if_neg (show ¬ 75 + j < 54 by omega), if_neg (show ¬ 75 + j < 55 by omega), if_neg (show ¬ 75 + j < 63 by omega), if_neg (show ¬ 75 + j < 64 by omega), if_neg (show ¬ 75 + j < 72 by omega), if_neg (show ¬ 75 + j < 74 by omega), if_neg (show ¬ 75 + j < 75 by omega), if_pos (show 75 + j < 235 by omega)]
theorem lr_235 {j : Nat} (h : j < 160) : 236 + j < 782 := by omega
theorem sr_235 {j : Nat} (h : j < 160) : jj_S (236 + j) = .inr (.inl (0, 2)) := by
  unfold jj_S jj_S1
  rw [if_neg (show ¬ 236 + j < 50 by omega), if_neg (show ¬ 236 + j < 51 by omega), if_neg (show ¬ 236 + j < 54 by omega), if_neg (show ¬ 236 + j < 55 by omega), if_neg (show ¬ 236 + j < 63 by omega), if_neg (show ¬ 236 + j < 64 by omega), if_neg (show ¬ 236 + j < 72 by omega), if_neg (show ¬ 236 + j < 74 by omega), if_neg (show ¬ 236 + j < 75 by omega), if_neg (show ¬ 236 + j < 235 by omega), if_neg (show ¬ 236 + j < 236 by omega), if_pos (show 236 + j < 396 by omega)]
theorem lr_396 {j : Nat} (h : j < 8) : 397 + j < 782 := by omega
theorem sr_396 {j : Nat} (h : j < 8) : jj_S (397 + j) = .inr (.inl (0, 2)) := by
  unfold jj_S jj_S1
  rw [if_neg (show ¬ 397 + j < 50 by omega), if_neg (show ¬ 397 + j < 51 by omega), if_neg (show ¬ 397 + j < 54 by omega), if_neg (show ¬ 397 + j < 55 by omega), if_neg (show ¬ 397 + j < 63 by omega), if_neg (show ¬ 397 + j < 64 by omega), if_neg (show ¬ 397 + j < 72 by omega), if_neg (show ¬ 397 + j < 74 by omega), if_neg (show ¬ 397 + j < 75 by omega), if_neg (show ¬ 397 + j < 235 by omega), if_neg (show ¬ 397 + j < 236 by omega), if_neg (show ¬ 397 + j < 396 by omega), if_neg (show ¬ 397 + j < 397 by omega), if_pos (show 397 + j < 405 by omega)]
theorem lr_405 {j : Nat} (h : j < 8) : 406 + j < 782 := by omega
theorem sr_405 {j : Nat} (h : j < 8) : jj_S (406 + j) = .inr (.inl (0, 2)) := by
  unfold jj_S jj_S1
  rw [if_neg (show ¬ 406 + j < 50 by omega), if_neg (show ¬ 406 + j < 51 by omega), if_neg (show ¬ 406 + j < 54 by omega), if_neg (show ¬ 406 + j < 55 by omega), if_neg (show ¬ 406 + j < 63 by omega), if_neg (show ¬ 406 + j < 64 by omega), if_neg (show ¬ 406 + j < 72 by omega), if_neg (show ¬ 406 + j < 74 by omega), if_neg (show ¬ 406 + j < 75 by omega), if_neg (show ¬ 406 + j < 235 by omega), if_neg (show ¬ 406 + j < 236 by omega), if_neg (show ¬ 406 + j < 396 by omega), if_neg (show ¬ 406 + j < 397 by omega), if_neg (show ¬ 406 + j < 405 by omega), if_neg (show ¬ 406 + j < 406 by omega), if_pos (show 406 + j < 414 by omega)]
theorem lr_416 {j : Nat} (h : j < 80) : 417 + j < 782 := by omega
theorem sr_416 {j : Nat} (h : j < 80) : jj_S (417 + j) = .inr (.inl (0, 4)) := by
  unfold jj_S jj_S1
  rw [if_neg (show ¬ 417 + j < 50 by omega), if_neg (show ¬ 417 + j < 51 by omega), if_neg (show ¬ 417 + j < 54 by omega), if_neg (show ¬ 417 + j < 55 by omega), if_neg (show ¬ 417 + j < 63 by omega), if_neg (show ¬ 417 + j < 64 by omega), if_neg (show ¬ 417 + j < 72 by omega), if_neg (show ¬ 417 + j < 74 by omega), if_neg (show ¬ 417 + j < 75 by omega), if_neg (show ¬ 417 + j < 235 by omega), if_neg (show ¬ 417 + j < 236 by omega), if_neg (show ¬ 417 + j < 396 by omega), if_neg (show ¬ 417 + j < 397 by omega), if_neg (show ¬ 417 + j < 405 by omega), if_neg (show ¬ 417 + j < 406 by omega), if_neg (show ¬ 417 + j < 414 by omega), if_neg (show ¬ 417 + j < 415 by omega), if_neg (show ¬ 417 + j < 416 by omega), if_neg (show ¬ 417 + j < 417 by omega), if_pos (show 417 + j < 497 by omega)]
theorem lr_499 {j : Nat} (h : j < 16) : 500 + j < 782 := by omega
theorem sr_499 {j : Nat} (h : j < 16) : jj_S (500 + j) = .inr (.inl (0, 35)) := by
  unfold jj_S jj_S1
  rw [if_neg (show ¬ 500 + j < 50 by omega), if_neg (show ¬ 500 + j < 51 by omega), if_neg (show ¬ 500 + j < 54 by omega), if_neg (show ¬ 500 + j < 55 by omega), if_neg (show ¬ 500 + j < 63 by omega), if_neg (show ¬ 500 + j < 64 by omega), if_neg (show ¬ 500 + j < 72 by omega), if_neg (show ¬ 500 + j < 74 by omega), if_neg (show ¬ 500 + j < 75 by omega), if_neg (show ¬ 500 + j < 235 by omega), if_neg (show ¬ 500 + j < 236 by omega), if_neg (show ¬ 500 + j < 396 by omega), if_neg (show ¬ 500 + j < 397 by omega), if_neg (show ¬ 500 + j < 405 by omega), if_neg (show ¬ 500 + j < 406 by omega), if_neg (show ¬ 500 + j < 414 by omega), if_neg (show ¬ 500 + j < 415 by omega), if_neg (show ¬ 500 + j < 416 by omega), if_neg (show ¬ 500 + j < 417 by omega), if_neg (show ¬ 500 + j < 497 by omega), if_neg (show ¬ 500 + j < 499 by omega), if_neg (show ¬ 500 + j < 500 by omega), if_pos (show 500 + j < 516 by omega)]
theorem lr_516 {j : Nat} (h : j < 3) : 517 + j < 782 := by omega
theorem sr_516 {j : Nat} (h : j < 3) : jj_S (517 + j) = .inr (.inl (0, 596)) := by
  unfold jj_S jj_S1
  rw [if_neg (show ¬ 517 + j < 50 by omega), if_neg (show ¬ 517 + j < 51 by omega), if_neg (show ¬ 517 + j < 54 by omega), if_neg (show ¬ 517 + j < 55 by omega), if_neg (show ¬ 517 + j < 63 by omega), if_neg (show ¬ 517 + j < 64 by omega), if_neg (show ¬ 517 + j < 72 by omega), if_neg (show ¬ 517 + j < 74 by omega), if_neg (show ¬ 517 + j < 75 by omega), if_neg (show ¬ 517 + j < 235 by omega), if_neg (show ¬ 517 + j < 236 by omega), if_neg (show ¬ 517 + j < 396 by omega), if_neg (show ¬ 517 + j < 397 by omega), if_neg (show ¬ 517 + j < 405 by omega), if_neg (show ¬ 517 + j < 406 by omega), if_neg (show ¬ 517 + j < 414 by omega), if_neg (show ¬ 517 + j < 415 by omega), if_neg (show ¬ 517 + j < 416 by omega), if_neg (show ¬ 517 + j < 417 by omega), if_neg (show ¬ 517 + j < 497 by omega), if_neg (show ¬ 517 + j < 499 by omega), if_neg (show ¬ 517 + j < 500 by omega), if_neg (show ¬ 517 + j < 516 by omega), if_neg (show ¬ 517 + j < 517 by omega), if_pos (show 517 + j < 520 by omega)]
theorem lr_520 {j : Nat} (h : j < 256) : 521 + j < 782 := by omega
theorem sr_520 {j : Nat} (h : j < 256) : jj_S (521 + j) = .inr (.inl (0, 8)) := by
  unfold jj_S jj_S1
  rw [if_neg (show ¬ 521 + j < 50 by omega), if_neg (show ¬ 521 + j < 51 by omega), if_neg (show ¬ 521 + j < 54 by omega), if_neg (show ¬ 521 + j < 55 by omega), if_neg (show ¬ 521 + j < 63 by omega), if_neg (show ¬ 521 + j < 64 by omega), if_neg (show ¬ 521 + j < 72 by omega), if_neg (show ¬ 521 + j < 74 by omega), if_neg (show ¬ 521 + j < 75 by omega), if_neg (show ¬ 521 + j < 235 by omega), if_neg (show ¬ 521 + j < 236 by omega), if_neg (show ¬ 521 + j < 396 by omega), if_neg (show ¬ 521 + j < 397 by omega), if_neg (show ¬ 521 + j < 405 by omega), if_neg (show ¬ 521 + j < 406 by omega), if_neg (show ¬ 521 + j < 414 by omega), if_neg (show ¬ 521 + j < 415 by omega), if_neg (show ¬ 521 + j < 416 by omega), if_neg (show ¬ 521 + j < 417 by omega), if_neg (show ¬ 521 + j < 497 by omega), if_neg (show ¬ 521 + j < 499 by omega), if_neg (show ¬ 521 + j < 500 by omega), if_neg (show ¬ 521 + j < 516 by omega), if_neg (show ¬ 521 + j < 517 by omega), if_neg (show ¬ 521 + j < 520 by omega), if_neg (show ¬ 521 + j < 521 by omega), if_pos (show 521 + j < 779 by omega)]
theorem pf8_6 : ∀ (C2 : String) (T : u_T) (N : Nat), jj_cl[8]? = some (C2, T, N) → (T 6).2.2.2 = false ∧ parseFieldDescriptor (T 6).2.2.1 = some (.object "DayLaces$State") := fun C T N h => by cases h; exact ⟨rfl, by decide +kernel⟩
theorem jj_sb_S {h : Nat → Nat → Int32} {g : Nat → Nat → Int64} : jj_sb 999996 (jj_S, 782, h, g) := by
  have h1 : (List.range 782).all (fun o => jj_sr 999996 (jj_S o)) = true := by decide +kernel
  exact fun o ho => List.all_eq_true.mp h1 o (List.mem_range.mpr ho)
