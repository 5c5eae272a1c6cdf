/-! ===== the tape ===== -/
def ad_b (w s : Int32) : Int32 := vp_nar .byte (w >>> (s &&& 31)).toInt8.toInt32
def ad4 (r : Nat → Int32) (ln : Nat) (w : Int32) : Nat → Int32 := upd (upd (upd (upd r ln (ad_b w 24)) (ln + 1) (ad_b w 16)) (ln + 2) (ad_b w 8)) (ln + 3) (ad_b w 0)
theorem sp_addC {d kc ks : Nat} {h : Nat → Nat → Int32} {g : Nat → Nat → Int64} {Q : jj_Rs → jj_St → Prop} {ln : Nat} {w : Int32} (hl : h 13 1 = nI ln) (hl2 : ln + 4 ≤ 600) (kq : Q (.inl none) (jj_S, 782, (jj_rs h [(13, (upd (h 13) (1) (nI (ln + 4)))), (14, (ad4 (h 14) ln w))]), g)) : jj_R mX5_add (d + 0) kc ks (jj_S, 782, h, g) 0 [(0, .ref 13), (1, .int w)] [] Q := by
  refine sp_X5_add hl (by omega) ?_
  have c0 : ¬ (600 : Int32) ≤ nI ln := nI_ge (a := ln) (b := 600) (by omega) (by decide)
  have c1 : ¬ (600 : Int32) ≤ nI (ln + 1) := nI_ge (a := ln + 1) (b := 600) (by omega) (by decide)
  have c2 : ¬ (600 : Int32) ≤ nI (ln + 1 + 1) := nI_ge (a := ln + 1 + 1) (b := 600) (by omega) (by decide)
  have c3 : ¬ (600 : Int32) ≤ nI (ln + 1 + 1 + 1) := nI_ge (a := ln + 1 + 1 + 1) (b := 600) (by omega) (by decide)
  have e13 : rX5_add_13 (h 13) (h 14) ln w = upd (h 13) 1 (nI (ln + 4)) := by
    unfold rX5_add_13
    rw [if_neg c0, if_neg c1, if_neg c2, if_neg c3]
    funext j
    by_cases e : j = 1
    · rw [e, jj_ueq rfl, jj_ueq rfl]
    · rw [jj_une e, jj_une e, jj_une e, jj_une e, jj_une e]
  have e14 : rX5_add_14 (h 13) (h 14) ln w = ad4 (h 14) ln w := by
    unfold rX5_add_14
    rw [if_neg c0, if_neg c1, if_neg c2, if_neg c3, nI_clamp (by omega), nI_clamp (by omega), nI_clamp (by omega), nI_clamp (by omega)]
    rfl
  rw [e13, e14]
  exact kq
theorem jj_rmF {r : Nat → Int32} {ln : Nat} (hl : r 1 = nI ln) (hl2 : ln ≤ 600) (c : ¬ vX5_hasRoom r = 0) : ln + 20 ≤ 600 := by
  unfold vX5_hasRoom at c
  rw [hl, show (20 : Int32) = nI 20 from rfl, nI_add] at c
  by_cases q : (600 : Int32) < nI (ln + 20)
  · rw [if_pos q] at c; exact absurd rfl c
  · rcases Nat.lt_or_ge 600 (ln + 20) with h | h
    · exact absurd (nI_lt (a := 600) (b := ln + 20) h (by omega)) q
    · exact h
def rX7_copyFrom_1 (r1 : Nat → Int32) (r2 : Nat → Int32) (r3 : Nat → Int32) (r4 : Nat → Int32) (r5 : Nat → Int32) (r6 : Nat → Int32) (r15 : Nat → Int32) (r16 : Nat → Int32) (r17 : Nat → Int32) (r18 : Nat → Int32) (r19 : Nat → Int32) (r20 : Nat → Int32) : Nat → Int32 := (upd (upd r1 (0) (r15 0)) (1) (r15 1))
def rX7_copyFrom_2 (r1 : Nat → Int32) (r2 : Nat → Int32) (r3 : Nat → Int32) (r4 : Nat → Int32) (r5 : Nat → Int32) (r6 : Nat → Int32) (r15 : Nat → Int32) (r16 : Nat → Int32) (r17 : Nat → Int32) (r18 : Nat → Int32) (r19 : Nat → Int32) (r20 : Nat → Int32) : Nat → Int32 := (va_cpy r16 r2 (0 : Int32).toNatClampNeg (0 : Int32).toNatClampNeg (8 : Int32).toNatClampNeg)
def rX7_copyFrom_3 (r1 : Nat → Int32) (r2 : Nat → Int32) (r3 : Nat → Int32) (r4 : Nat → Int32) (r5 : Nat → Int32) (r6 : Nat → Int32) (r15 : Nat → Int32) (r16 : Nat → Int32) (r17 : Nat → Int32) (r18 : Nat → Int32) (r19 : Nat → Int32) (r20 : Nat → Int32) : Nat → Int32 := (va_cpy r17 r3 (0 : Int32).toNatClampNeg (0 : Int32).toNatClampNeg (8 : Int32).toNatClampNeg)
def rX7_copyFrom_4 (r1 : Nat → Int32) (r2 : Nat → Int32) (r3 : Nat → Int32) (r4 : Nat → Int32) (r5 : Nat → Int32) (r6 : Nat → Int32) (r15 : Nat → Int32) (r16 : Nat → Int32) (r17 : Nat → Int32) (r18 : Nat → Int32) (r19 : Nat → Int32) (r20 : Nat → Int32) : Nat → Int32 := (va_cpy r18 r4 (0 : Int32).toNatClampNeg (0 : Int32).toNatClampNeg (8 : Int32).toNatClampNeg)
def rX7_copyFrom_5 (r1 : Nat → Int32) (r2 : Nat → Int32) (r3 : Nat → Int32) (r4 : Nat → Int32) (r5 : Nat → Int32) (r6 : Nat → Int32) (r15 : Nat → Int32) (r16 : Nat → Int32) (r17 : Nat → Int32) (r18 : Nat → Int32) (r19 : Nat → Int32) (r20 : Nat → Int32) : Nat → Int32 := (va_cpy r19 r5 (0 : Int32).toNatClampNeg (0 : Int32).toNatClampNeg (8 : Int32).toNatClampNeg)
def rX7_copyFrom_6 (r1 : Nat → Int32) (r2 : Nat → Int32) (r3 : Nat → Int32) (r4 : Nat → Int32) (r5 : Nat → Int32) (r6 : Nat → Int32) (r15 : Nat → Int32) (r16 : Nat → Int32) (r17 : Nat → Int32) (r18 : Nat → Int32) (r19 : Nat → Int32) (r20 : Nat → Int32) : Nat → Int32 := (va_cpy r20 r6 (0 : Int32).toNatClampNeg (0 : Int32).toNatClampNeg (8 : Int32).toNatClampNeg)
set_option maxHeartbeats 1000000 in
theorem sp_X7_copyFrom {d kc ks : Nat} {h : Nat → Nat → Int32} {g : Nat → Nat → Int64} {Q : jj_Rs → jj_St → Prop}  (kq : Q (.inl none) (jj_S, 782, (jj_rs h [(1, (rX7_copyFrom_1 (h 1) (h 2) (h 3) (h 4) (h 5) (h 6) (h 15) (h 16) (h 17) (h 18) (h 19) (h 20))), (2, (rX7_copyFrom_2 (h 1) (h 2) (h 3) (h 4) (h 5) (h 6) (h 15) (h 16) (h 17) (h 18) (h 19) (h 20))), (3, (rX7_copyFrom_3 (h 1) (h 2) (h 3) (h 4) (h 5) (h 6) (h 15) (h 16) (h 17) (h 18) (h 19) (h 20))), (4, (rX7_copyFrom_4 (h 1) (h 2) (h 3) (h 4) (h 5) (h 6) (h 15) (h 16) (h 17) (h 18) (h 19) (h 20))), (5, (rX7_copyFrom_5 (h 1) (h 2) (h 3) (h 4) (h 5) (h 6) (h 15) (h 16) (h 17) (h 18) (h 19) (h 20))), (6, (rX7_copyFrom_6 (h 1) (h 2) (h 3) (h 4) (h 5) (h 6) (h 15) (h 16) (h 17) (h 18) (h 19) (h 20)))]), g)) : jj_R mX7_copyFrom (d + 1) kc ks (jj_S, 782, h, g) 0 [(0, .ref 1), (1, .ref 15)] [] Q := by
  refine rr_aload_n 0 rfl rfl dX7_copyFrom_0 ?_
  refine rr_aload_n 1 rfl rfl dX7_copyFrom_1 ?_
  refine rr_getI dX7_copyFrom_2 fX7_31 lo_15 sh_15 rfl ?_
  refine rr_putI dX7_copyFrom_5 fX7_31 ni7_0 lo_1 sh_1 rfl ?_
  rw [jj_rs_set0 (B := h) (o := 1) (r := (h 1)) rfl]
  refine rr_aload_n 0 rfl rfl dX7_copyFrom_8 ?_
  refine rr_aload_n 1 rfl rfl dX7_copyFrom_9 ?_
  refine rr_getI dX7_copyFrom_10 fX7_9 lo_15 sh_15 rfl ?_
  rw [show (jj_rs h [(1, (upd (h 1) (0) ((h 15) 0)))]) 15 = h 15 from rfl]
  refine rr_putI dX7_copyFrom_13 fX7_9 ni7_1 lo_1 sh_1 rfl ?_
  rw [jj_rs_set (B := h) (L := [(1, (upd (h 1) (0) ((h 15) 0)))]) (L2 := [(1, (upd (upd (h 1) (0) ((h 15) 0)) (1) ((h 15) 1)))]) (r := (upd (h 1) (0) ((h 15) 0))) rfl rfl]
  refine rr_aload_n 1 rfl rfl dX7_copyFrom_16 ?_
  refine rr_getR dX7_copyFrom_17 fX7_15 lo_15 sh_15 rfl ?_
  refine rr_iconst 0 rfl dX7_copyFrom_20 ?_
  refine rr_aload_n 0 rfl rfl dX7_copyFrom_21 ?_
  refine rr_getR dX7_copyFrom_22 fX7_15 lo_1 sh_1 rfl ?_
  refine rr_iconst 0 rfl dX7_copyFrom_25 ?_
  refine rr_bipush 8 rfl dX7_copyFrom_26 ?_
  refine rr_copy (st := []) dX7_copyFrom_28 lX7_34 (Nat.le_of_ble_eq_true rfl) lo_16 lo_2 sh_16 sh_2 (by decide) (by decide) (by decide) (by decide) (by decide) ?_
  rw [jj_rs_cp (B := h) (L := [(1, (upd (upd (h 1) (0) ((h 15) 0)) (1) ((h 15) 1)))]) (L2 := [(1, (upd (upd (h 1) (0) ((h 15) 0)) (1) ((h 15) 1))), (2, (va_cpy (h 16) (h 2) (0 : Int32).toNatClampNeg (0 : Int32).toNatClampNeg (8 : Int32).toNatClampNeg))]) (f := (h 16)) (r := (h 2)) rfl rfl rfl]
  refine rr_aload_n 1 rfl rfl dX7_copyFrom_31 ?_
  refine rr_getR dX7_copyFrom_32 fX7_19 lo_15 sh_15 rfl ?_
  refine rr_iconst 0 rfl dX7_copyFrom_35 ?_
  refine rr_aload_n 0 rfl rfl dX7_copyFrom_36 ?_
  refine rr_getR dX7_copyFrom_37 fX7_19 lo_1 sh_1 rfl ?_
  refine rr_iconst 0 rfl dX7_copyFrom_40 ?_
  refine rr_bipush 8 rfl dX7_copyFrom_41 ?_
  refine rr_copy (st := []) dX7_copyFrom_43 lX7_34 (Nat.le_of_ble_eq_true rfl) lo_17 lo_3 sh_17 sh_3 (by decide) (by decide) (by decide) (by decide) (by decide) ?_
  rw [jj_rs_cp (B := h) (L := [(1, (upd (upd (h 1) (0) ((h 15) 0)) (1) ((h 15) 1))), (2, (va_cpy (h 16) (h 2) (0 : Int32).toNatClampNeg (0 : Int32).toNatClampNeg (8 : Int32).toNatClampNeg))]) (L2 := [(1, (upd (upd (h 1) (0) ((h 15) 0)) (1) ((h 15) 1))), (2, (va_cpy (h 16) (h 2) (0 : Int32).toNatClampNeg (0 : Int32).toNatClampNeg (8 : Int32).toNatClampNeg)), (3, (va_cpy (h 17) (h 3) (0 : Int32).toNatClampNeg (0 : Int32).toNatClampNeg (8 : Int32).toNatClampNeg))]) (f := (h 17)) (r := (h 3)) rfl rfl rfl]
  refine rr_aload_n 1 rfl rfl dX7_copyFrom_46 ?_
  refine rr_getR dX7_copyFrom_47 fX7_22 lo_15 sh_15 rfl ?_
  refine rr_iconst 0 rfl dX7_copyFrom_50 ?_
  refine rr_aload_n 0 rfl rfl dX7_copyFrom_51 ?_
  refine rr_getR dX7_copyFrom_52 fX7_22 lo_1 sh_1 rfl ?_
  refine rr_iconst 0 rfl dX7_copyFrom_55 ?_
  refine rr_bipush 8 rfl dX7_copyFrom_56 ?_
  refine rr_copy (st := []) dX7_copyFrom_58 lX7_34 (Nat.le_of_ble_eq_true rfl) lo_18 lo_4 sh_18 sh_4 (by decide) (by decide) (by decide) (by decide) (by decide) ?_
  rw [jj_rs_cp (B := h) (L := [(1, (upd (upd (h 1) (0) ((h 15) 0)) (1) ((h 15) 1))), (2, (va_cpy (h 16) (h 2) (0 : Int32).toNatClampNeg (0 : Int32).toNatClampNeg (8 : Int32).toNatClampNeg)), (3, (va_cpy (h 17) (h 3) (0 : Int32).toNatClampNeg (0 : Int32).toNatClampNeg (8 : Int32).toNatClampNeg))]) (L2 := [(1, (upd (upd (h 1) (0) ((h 15) 0)) (1) ((h 15) 1))), (2, (va_cpy (h 16) (h 2) (0 : Int32).toNatClampNeg (0 : Int32).toNatClampNeg (8 : Int32).toNatClampNeg)), (3, (va_cpy (h 17) (h 3) (0 : Int32).toNatClampNeg (0 : Int32).toNatClampNeg (8 : Int32).toNatClampNeg)), (4, (va_cpy (h 18) (h 4) (0 : Int32).toNatClampNeg (0 : Int32).toNatClampNeg (8 : Int32).toNatClampNeg))]) (f := (h 18)) (r := (h 4)) rfl rfl rfl]
  refine rr_aload_n 1 rfl rfl dX7_copyFrom_61 ?_
  refine rr_getR dX7_copyFrom_62 fX7_25 lo_15 sh_15 rfl ?_
  refine rr_iconst 0 rfl dX7_copyFrom_65 ?_
  refine rr_aload_n 0 rfl rfl dX7_copyFrom_66 ?_
  refine rr_getR dX7_copyFrom_67 fX7_25 lo_1 sh_1 rfl ?_
  refine rr_iconst 0 rfl dX7_copyFrom_70 ?_
  refine rr_bipush 8 rfl dX7_copyFrom_71 ?_
  refine rr_copy (st := []) dX7_copyFrom_73 lX7_34 (Nat.le_of_ble_eq_true rfl) lo_19 lo_5 sh_19 sh_5 (by decide) (by decide) (by decide) (by decide) (by decide) ?_
  rw [jj_rs_cp (B := h) (L := [(1, (upd (upd (h 1) (0) ((h 15) 0)) (1) ((h 15) 1))), (2, (va_cpy (h 16) (h 2) (0 : Int32).toNatClampNeg (0 : Int32).toNatClampNeg (8 : Int32).toNatClampNeg)), (3, (va_cpy (h 17) (h 3) (0 : Int32).toNatClampNeg (0 : Int32).toNatClampNeg (8 : Int32).toNatClampNeg)), (4, (va_cpy (h 18) (h 4) (0 : Int32).toNatClampNeg (0 : Int32).toNatClampNeg (8 : Int32).toNatClampNeg))]) (L2 := [(1, (upd (upd (h 1) (0) ((h 15) 0)) (1) ((h 15) 1))), (2, (va_cpy (h 16) (h 2) (0 : Int32).toNatClampNeg (0 : Int32).toNatClampNeg (8 : Int32).toNatClampNeg)), (3, (va_cpy (h 17) (h 3) (0 : Int32).toNatClampNeg (0 : Int32).toNatClampNeg (8 : Int32).toNatClampNeg)), (4, (va_cpy (h 18) (h 4) (0 : Int32).toNatClampNeg (0 : Int32).toNatClampNeg (8 : Int32).toNatClampNeg)), (5, (va_cpy (h 19) (h 5) (0 : Int32).toNatClampNeg (0 : Int32).toNatClampNeg (8 : Int32).toNatClampNeg))]) (f := (h 19)) (r := (h 5)) rfl rfl rfl]
  refine rr_aload_n 1 rfl rfl dX7_copyFrom_76 ?_
  refine rr_getR dX7_copyFrom_77 fX7_28 lo_15 sh_15 rfl ?_
  refine rr_iconst 0 rfl dX7_copyFrom_80 ?_
  refine rr_aload_n 0 rfl rfl dX7_copyFrom_81 ?_
  refine rr_getR dX7_copyFrom_82 fX7_28 lo_1 sh_1 rfl ?_
  refine rr_iconst 0 rfl dX7_copyFrom_85 ?_
  refine rr_bipush 8 rfl dX7_copyFrom_86 ?_
  refine rr_copy (st := []) dX7_copyFrom_88 lX7_34 (Nat.le_of_ble_eq_true rfl) lo_20 lo_6 sh_20 sh_6 (by decide) (by decide) (by decide) (by decide) (by decide) ?_
  rw [jj_rs_cp (B := h) (L := [(1, (upd (upd (h 1) (0) ((h 15) 0)) (1) ((h 15) 1))), (2, (va_cpy (h 16) (h 2) (0 : Int32).toNatClampNeg (0 : Int32).toNatClampNeg (8 : Int32).toNatClampNeg)), (3, (va_cpy (h 17) (h 3) (0 : Int32).toNatClampNeg (0 : Int32).toNatClampNeg (8 : Int32).toNatClampNeg)), (4, (va_cpy (h 18) (h 4) (0 : Int32).toNatClampNeg (0 : Int32).toNatClampNeg (8 : Int32).toNatClampNeg)), (5, (va_cpy (h 19) (h 5) (0 : Int32).toNatClampNeg (0 : Int32).toNatClampNeg (8 : Int32).toNatClampNeg))]) (L2 := [(1, (upd (upd (h 1) (0) ((h 15) 0)) (1) ((h 15) 1))), (2, (va_cpy (h 16) (h 2) (0 : Int32).toNatClampNeg (0 : Int32).toNatClampNeg (8 : Int32).toNatClampNeg)), (3, (va_cpy (h 17) (h 3) (0 : Int32).toNatClampNeg (0 : Int32).toNatClampNeg (8 : Int32).toNatClampNeg)), (4, (va_cpy (h 18) (h 4) (0 : Int32).toNatClampNeg (0 : Int32).toNatClampNeg (8 : Int32).toNatClampNeg)), (5, (va_cpy (h 19) (h 5) (0 : Int32).toNatClampNeg (0 : Int32).toNatClampNeg (8 : Int32).toNatClampNeg)), (6, (va_cpy (h 20) (h 6) (0 : Int32).toNatClampNeg (0 : Int32).toNatClampNeg (8 : Int32).toNatClampNeg))]) (f := (h 20)) (r := (h 6)) rfl rfl rfl]
  refine rr_return dX7_copyFrom_91 rfl ?_
  simpa only [rX7_copyFrom_1, rX7_copyFrom_2, rX7_copyFrom_3, rX7_copyFrom_4, rX7_copyFrom_5, rX7_copyFrom_6] using kq
def vX9_feed (r13 : Nat → Int32) (r14 : Nat → Int32) (ln : Nat) (a : Int32) (b : Int32) (c : Int32) (d_ : Int32) (e : Int32) : Int32 := (if (vX5_hasRoom r13) = 0 then (-1) else (nI ((ln + 4 + 4 + 4 + 4) + 4)))
def rX9_feed_13 (r13 : Nat → Int32) (r14 : Nat → Int32) (ln : Nat) (a : Int32) (b : Int32) (c : Int32) (d_ : Int32) (e : Int32) : Nat → Int32 := (if (vX5_hasRoom r13) = 0 then r13 else (upd (upd (upd (upd (upd r13 (1) (nI (ln + 4))) (1) (nI ((ln + 4) + 4))) (1) (nI ((ln + 4 + 4) + 4))) (1) (nI ((ln + 4 + 4 + 4) + 4))) (1) (nI ((ln + 4 + 4 + 4 + 4) + 4))))
def rX9_feed_14 (r13 : Nat → Int32) (r14 : Nat → Int32) (ln : Nat) (a : Int32) (b : Int32) (c : Int32) (d_ : Int32) (e : Int32) : Nat → Int32 := (if (vX5_hasRoom r13) = 0 then r14 else (ad4 (ad4 (ad4 (ad4 (ad4 r14 ln a) (ln + 4) b) (ln + 4 + 4) c) (ln + 4 + 4 + 4) d_) (ln + 4 + 4 + 4 + 4) e))
set_option maxHeartbeats 1000000 in
theorem sp_X9_feed {d kc ks : Nat} {h : Nat → Nat → Int32} {g : Nat → Nat → Int64} {Q : jj_Rs → jj_St → Prop} {ln : Nat} {a : Int32} {b : Int32} {c : Int32} {d_ : Int32} {e : Int32} (hl : h 13 1 = nI ln) (hl2 : ln ≤ 600) (kq : Q (.inl (some (.int (vX9_feed (h 13) (h 14) ln a b c d_ e)))) (jj_S, 782, (jj_rs h [(13, (rX9_feed_13 (h 13) (h 14) ln a b c d_ e)), (14, (rX9_feed_14 (h 13) (h 14) ln a b c d_ e))]), g)) : jj_R mX9_feed (d + 1) kc ks (jj_S, 782, h, g) 0 [(0, .ref 0), (1, .int a), (2, .int b), (3, .int c), (4, .int d_), (5, .int e)] [] Q := by
  refine rr_aload_n 0 rfl rfl dX9_feed_0 ?_
  refine rr_getR dX9_feed_1 fX9_21 lo_0 sh_0 rfl ?_
  refine rr_callV (As := []) (rest := []) (kc2 := 0) (ks2 := 0) dX9_feed_4 okX5_hasRoom lX9_91 lo_13 sh_13 rfl rfl (Nat.le_of_ble_eq_true rfl) (Nat.le_of_ble_eq_true rfl) rfl (by omega) (by simp [jj_rk]) (by simp [jj_rk]) ?_
  refine sp_X5_hasRoom  ?_
  show jj_R _ _ kc ks (jj_S, 782, h, g) 7 [(0, .ref 0), (1, .int a), (2, .int b), (3, .int c), (4, .int d_), (5, .int e)] [.int (vX5_hasRoom (h 13))] Q
  refine rr_if_ne dX9_feed_7 (fun c1 => ?_) (fun c1 => ?_)
  · skip
    have hr := jj_rmF hl hl2 (by assumption)
    refine rr_aload_n 0 rfl rfl dX9_feed_12 ?_
    refine rr_getR dX9_feed_13 fX9_21 lo_0 sh_0 rfl ?_
    refine rr_iload_n 1 rfl rfl dX9_feed_16 ?_
    refine rr_callV (As := [.int a]) (rest := []) (kc2 := 0) (ks2 := 0) dX9_feed_17 okX5_add lX9_95 lo_13 sh_13 rfl rfl (Nat.le_of_ble_eq_true rfl) (Nat.le_of_ble_eq_true rfl) rfl (by omega) (by simp [jj_rk]) (by simp [jj_rk]) ?_
    refine sp_addC (ln := ln) (by first | exact hl | rfl) (by omega) ?_
    show jj_R _ _ kc ks (jj_S, 782, (jj_rs h [(13, (upd (h 13) (1) (nI (ln + 4)))), (14, (ad4 (h 14) ln a))]), g) 20 [(0, .ref 0), (1, .int a), (2, .int b), (3, .int c), (4, .int d_), (5, .int e)] [] Q
    refine rr_aload_n 0 rfl rfl dX9_feed_20 ?_
    refine rr_getR dX9_feed_21 fX9_21 lo_0 sh_0 rfl ?_
    refine rr_iload_n 2 rfl rfl dX9_feed_24 ?_
    refine rr_callV (As := [.int b]) (rest := []) (kc2 := 0) (ks2 := 0) dX9_feed_25 okX5_add lX9_95 lo_13 sh_13 rfl rfl (Nat.le_of_ble_eq_true rfl) (Nat.le_of_ble_eq_true rfl) rfl (by omega) (by simp [jj_rk]) (by simp [jj_rk]) ?_
    refine sp_addC (ln := (ln + 4)) (by first | exact hl | rfl) (by omega) ?_
    show jj_R _ _ kc ks (jj_S, 782, (jj_rs (jj_rs h [(13, (upd (h 13) (1) (nI (ln + 4)))), (14, (ad4 (h 14) ln a))]) [(13, (upd (upd (h 13) (1) (nI (ln + 4))) (1) (nI ((ln + 4) + 4)))), (14, (ad4 (ad4 (h 14) ln a) (ln + 4) b))]), g) 28 [(0, .ref 0), (1, .int a), (2, .int b), (3, .int c), (4, .int d_), (5, .int e)] [] Q
    rw [jj_rs_rs (B := h) (L := [(13, (upd (h 13) (1) (nI (ln + 4)))), (14, (ad4 (h 14) ln a))]) (M := [(13, (upd (upd (h 13) (1) (nI (ln + 4))) (1) (nI ((ln + 4) + 4)))), (14, (ad4 (ad4 (h 14) ln a) (ln + 4) b))]) (L2 := [(13, (upd (upd (h 13) (1) (nI (ln + 4))) (1) (nI ((ln + 4) + 4)))), (14, (ad4 (ad4 (h 14) ln a) (ln + 4) b))]) rfl]
    refine rr_aload_n 0 rfl rfl dX9_feed_28 ?_
    refine rr_getR dX9_feed_29 fX9_21 lo_0 sh_0 rfl ?_
    refine rr_iload_n 3 rfl rfl dX9_feed_32 ?_
    refine rr_callV (As := [.int c]) (rest := []) (kc2 := 0) (ks2 := 0) dX9_feed_33 okX5_add lX9_95 lo_13 sh_13 rfl rfl (Nat.le_of_ble_eq_true rfl) (Nat.le_of_ble_eq_true rfl) rfl (by omega) (by simp [jj_rk]) (by simp [jj_rk]) ?_
    refine sp_addC (ln := (ln + 4 + 4)) (by first | exact hl | rfl) (by omega) ?_
    show jj_R _ _ kc ks (jj_S, 782, (jj_rs (jj_rs h [(13, (upd (upd (h 13) (1) (nI (ln + 4))) (1) (nI ((ln + 4) + 4)))), (14, (ad4 (ad4 (h 14) ln a) (ln + 4) b))]) [(13, (upd (upd (upd (h 13) (1) (nI (ln + 4))) (1) (nI ((ln + 4) + 4))) (1) (nI ((ln + 4 + 4) + 4)))), (14, (ad4 (ad4 (ad4 (h 14) ln a) (ln + 4) b) (ln + 4 + 4) c))]), g) 36 [(0, .ref 0), (1, .int a), (2, .int b), (3, .int c), (4, .int d_), (5, .int e)] [] Q
    rw [jj_rs_rs (B := h) (L := [(13, (upd (upd (h 13) (1) (nI (ln + 4))) (1) (nI ((ln + 4) + 4)))), (14, (ad4 (ad4 (h 14) ln a) (ln + 4) b))]) (M := [(13, (upd (upd (upd (h 13) (1) (nI (ln + 4))) (1) (nI ((ln + 4) + 4))) (1) (nI ((ln + 4 + 4) + 4)))), (14, (ad4 (ad4 (ad4 (h 14) ln a) (ln + 4) b) (ln + 4 + 4) c))]) (L2 := [(13, (upd (upd (upd (h 13) (1) (nI (ln + 4))) (1) (nI ((ln + 4) + 4))) (1) (nI ((ln + 4 + 4) + 4)))), (14, (ad4 (ad4 (ad4 (h 14) ln a) (ln + 4) b) (ln + 4 + 4) c))]) rfl]
    refine rr_aload_n 0 rfl rfl dX9_feed_36 ?_
    refine rr_getR dX9_feed_37 fX9_21 lo_0 sh_0 rfl ?_
    refine rr_iload 4 rfl dX9_feed_40 ?_
    refine rr_callV (As := [.int d_]) (rest := []) (kc2 := 0) (ks2 := 0) dX9_feed_42 okX5_add lX9_95 lo_13 sh_13 rfl rfl (Nat.le_of_ble_eq_true rfl) (Nat.le_of_ble_eq_true rfl) rfl (by omega) (by simp [jj_rk]) (by simp [jj_rk]) ?_
    refine sp_addC (ln := (ln + 4 + 4 + 4)) (by first | exact hl | rfl) (by omega) ?_
    show jj_R _ _ kc ks (jj_S, 782, (jj_rs (jj_rs h [(13, (upd (upd (upd (h 13) (1) (nI (ln + 4))) (1) (nI ((ln + 4) + 4))) (1) (nI ((ln + 4 + 4) + 4)))), (14, (ad4 (ad4 (ad4 (h 14) ln a) (ln + 4) b) (ln + 4 + 4) c))]) [(13, (upd (upd (upd (upd (h 13) (1) (nI (ln + 4))) (1) (nI ((ln + 4) + 4))) (1) (nI ((ln + 4 + 4) + 4))) (1) (nI ((ln + 4 + 4 + 4) + 4)))), (14, (ad4 (ad4 (ad4 (ad4 (h 14) ln a) (ln + 4) b) (ln + 4 + 4) c) (ln + 4 + 4 + 4) d_))]), g) 45 [(0, .ref 0), (1, .int a), (2, .int b), (3, .int c), (4, .int d_), (5, .int e)] [] Q
    rw [jj_rs_rs (B := h) (L := [(13, (upd (upd (upd (h 13) (1) (nI (ln + 4))) (1) (nI ((ln + 4) + 4))) (1) (nI ((ln + 4 + 4) + 4)))), (14, (ad4 (ad4 (ad4 (h 14) ln a) (ln + 4) b) (ln + 4 + 4) c))]) (M := [(13, (upd (upd (upd (upd (h 13) (1) (nI (ln + 4))) (1) (nI ((ln + 4) + 4))) (1) (nI ((ln + 4 + 4) + 4))) (1) (nI ((ln + 4 + 4 + 4) + 4)))), (14, (ad4 (ad4 (ad4 (ad4 (h 14) ln a) (ln + 4) b) (ln + 4 + 4) c) (ln + 4 + 4 + 4) d_))]) (L2 := [(13, (upd (upd (upd (upd (h 13) (1) (nI (ln + 4))) (1) (nI ((ln + 4) + 4))) (1) (nI ((ln + 4 + 4) + 4))) (1) (nI ((ln + 4 + 4 + 4) + 4)))), (14, (ad4 (ad4 (ad4 (ad4 (h 14) ln a) (ln + 4) b) (ln + 4 + 4) c) (ln + 4 + 4 + 4) d_))]) rfl]
    refine rr_aload_n 0 rfl rfl dX9_feed_45 ?_
    refine rr_getR dX9_feed_46 fX9_21 lo_0 sh_0 rfl ?_
    refine rr_iload 5 rfl dX9_feed_49 ?_
    refine rr_callV (As := [.int e]) (rest := []) (kc2 := 0) (ks2 := 0) dX9_feed_51 okX5_add lX9_95 lo_13 sh_13 rfl rfl (Nat.le_of_ble_eq_true rfl) (Nat.le_of_ble_eq_true rfl) rfl (by omega) (by simp [jj_rk]) (by simp [jj_rk]) ?_
    refine sp_addC (ln := (ln + 4 + 4 + 4 + 4)) (by first | exact hl | rfl) (by omega) ?_
    show jj_R _ _ kc ks (jj_S, 782, (jj_rs (jj_rs h [(13, (upd (upd (upd (upd (h 13) (1) (nI (ln + 4))) (1) (nI ((ln + 4) + 4))) (1) (nI ((ln + 4 + 4) + 4))) (1) (nI ((ln + 4 + 4 + 4) + 4)))), (14, (ad4 (ad4 (ad4 (ad4 (h 14) ln a) (ln + 4) b) (ln + 4 + 4) c) (ln + 4 + 4 + 4) d_))]) [(13, (upd (upd (upd (upd (upd (h 13) (1) (nI (ln + 4))) (1) (nI ((ln + 4) + 4))) (1) (nI ((ln + 4 + 4) + 4))) (1) (nI ((ln + 4 + 4 + 4) + 4))) (1) (nI ((ln + 4 + 4 + 4 + 4) + 4)))), (14, (ad4 (ad4 (ad4 (ad4 (ad4 (h 14) ln a) (ln + 4) b) (ln + 4 + 4) c) (ln + 4 + 4 + 4) d_) (ln + 4 + 4 + 4 + 4) e))]), g) 54 [(0, .ref 0), (1, .int a), (2, .int b), (3, .int c), (4, .int d_), (5, .int e)] [] Q
    rw [jj_rs_rs (B := h) (L := [(13, (upd (upd (upd (upd (h 13) (1) (nI (ln + 4))) (1) (nI ((ln + 4) + 4))) (1) (nI ((ln + 4 + 4) + 4))) (1) (nI ((ln + 4 + 4 + 4) + 4)))), (14, (ad4 (ad4 (ad4 (ad4 (h 14) ln a) (ln + 4) b) (ln + 4 + 4) c) (ln + 4 + 4 + 4) d_))]) (M := [(13, (upd (upd (upd (upd (upd (h 13) (1) (nI (ln + 4))) (1) (nI ((ln + 4) + 4))) (1) (nI ((ln + 4 + 4) + 4))) (1) (nI ((ln + 4 + 4 + 4) + 4))) (1) (nI ((ln + 4 + 4 + 4 + 4) + 4)))), (14, (ad4 (ad4 (ad4 (ad4 (ad4 (h 14) ln a) (ln + 4) b) (ln + 4 + 4) c) (ln + 4 + 4 + 4) d_) (ln + 4 + 4 + 4 + 4) e))]) (L2 := [(13, (upd (upd (upd (upd (upd (h 13) (1) (nI (ln + 4))) (1) (nI ((ln + 4) + 4))) (1) (nI ((ln + 4 + 4) + 4))) (1) (nI ((ln + 4 + 4 + 4) + 4))) (1) (nI ((ln + 4 + 4 + 4 + 4) + 4)))), (14, (ad4 (ad4 (ad4 (ad4 (ad4 (h 14) ln a) (ln + 4) b) (ln + 4 + 4) c) (ln + 4 + 4 + 4) d_) (ln + 4 + 4 + 4 + 4) e))]) rfl]
    refine rr_aload_n 0 rfl rfl dX9_feed_54 ?_
    refine rr_getR dX9_feed_55 fX9_21 lo_0 sh_0 rfl ?_
    refine rr_getI dX9_feed_58 fX9_99 lo_13 sh_13 rfl ?_
    rw [show (jj_rs h [(13, (upd (upd (upd (upd (upd (h 13) (1) (nI (ln + 4))) (1) (nI ((ln + 4) + 4))) (1) (nI ((ln + 4 + 4) + 4))) (1) (nI ((ln + 4 + 4 + 4) + 4))) (1) (nI ((ln + 4 + 4 + 4 + 4) + 4)))), (14, (ad4 (ad4 (ad4 (ad4 (ad4 (h 14) ln a) (ln + 4) b) (ln + 4 + 4) c) (ln + 4 + 4 + 4) d_) (ln + 4 + 4 + 4 + 4) e))]) 13 = (upd (upd (upd (upd (upd (h 13) (1) (nI (ln + 4))) (1) (nI ((ln + 4) + 4))) (1) (nI ((ln + 4 + 4) + 4))) (1) (nI ((ln + 4 + 4 + 4) + 4))) (1) (nI ((ln + 4 + 4 + 4 + 4) + 4))) from rfl]
    rw [show (upd (upd (upd (upd (upd (h 13) (1) (nI (ln + 4))) (1) (nI ((ln + 4) + 4))) (1) (nI ((ln + 4 + 4) + 4))) (1) (nI ((ln + 4 + 4 + 4) + 4))) (1) (nI ((ln + 4 + 4 + 4 + 4) + 4))) 1 = (nI ((ln + 4 + 4 + 4 + 4) + 4)) from rfl]
    refine rr_ireturn dX9_feed_61 rfl ?_
    simpa only [vX9_feed, rX9_feed_13, rX9_feed_14, if_neg c1] using kq
  · skip
    refine rr_iconst (-1) rfl dX9_feed_10 ?_
    refine rr_ireturn dX9_feed_11 rfl ?_
    refine jj_Qh (jj_addr (B := h) (o := 13) (r := (h 13)) rfl) ?_
    refine jj_Qh (jj_rs_add (B := h) (L := [(13, (h 13))]) (L2 := [(13, (h 13)), (14, (h 14))]) (o := 14) (r := (h 14)) rfl rfl) ?_
    simpa only [vX9_feed, rX9_feed_13, rX9_feed_14, if_pos c1] using kq
