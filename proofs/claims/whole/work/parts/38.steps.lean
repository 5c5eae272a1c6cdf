def vX8_cutLace (r38 : Nat → Int32) (r40 : Nat → Int32) (p : Int32) : Int32 := (if (vX6_isCut_n r38 p) = 0 then 1 else 0)
def rX8_cutLace_38 (r38 : Nat → Int32) (r40 : Nat → Int32) (p : Int32) : Nat → Int32 := (if (vX6_isCut_n r38 p) = 0 then (upd r38 (2) ((r38 2) ||| (1 <<< (p &&& 31)))) else r38)
def rX8_cutLace_40 (r38 : Nat → Int32) (r40 : Nat → Int32) (p : Int32) : Nat → Int32 := (if (vX6_isCut_n r38 p) = 0 then (upd r40 ((p : Int32).toNatClampNeg) 0) else r40)
set_option maxHeartbeats 1000000 in
theorem sp_X8_cutLace {d kc ks : Nat} {h : Nat → Nat → Int32} {g : Nat → Nat → Int64} {Q : jj_Rs → jj_St → Prop} {p : Int32} (hp : vp_in p 8) (kq : Q (.inl (some (.int (vX8_cutLace (h 38) (h 40) p)))) (jj_S, 782, (jj_rs h [(38, (rX8_cutLace_38 (h 38) (h 40) p)), (40, (rX8_cutLace_40 (h 38) (h 40) p))]), g)) : jj_R mX8_cutLace (d + 1) kc ks (jj_S, 782, h, g) 0 [(0, .ref 38), (1, .int p)] [] Q := by
  refine rr_aload_n 0 rfl rfl dX8_cutLace_0 ?_
  refine rr_iload_n 1 rfl rfl dX8_cutLace_1 ?_
  refine rr_callV (As := [.int p]) (rest := []) (kc2 := 0) (ks2 := 0) dX8_cutLace_2 okX6_isCut lX8_137 lo_38 sh_38 rfl rfl (Nat.le_of_ble_eq_true rfl) (Nat.le_of_ble_eq_true rfl) rfl (by omega) (by simp [jj_rk]) (by simp [jj_rk]) ?_
  refine sp_X6_isCut_n  ?_
  show jj_R _ _ kc ks (jj_S, 782, h, g) 5 [(0, .ref 38), (1, .int p)] [.int (vX6_isCut_n (h 38) p)] Q
  refine rr_if_eq dX8_cutLace_5 (fun c1 => ?_) (fun c1 => ?_)
  · skip
    refine rr_aload_n 0 rfl rfl dX8_cutLace_10 ?_
    refine rr_dup rfl dX8_cutLace_11 ?_
    refine rr_getI dX8_cutLace_12 fX8_143 lo_38 sh_38 rfl ?_
    refine rr_iconst 1 rfl dX8_cutLace_15 ?_
    refine rr_iload_n 1 rfl rfl dX8_cutLace_16 ?_
    refine rr_ishl dX8_cutLace_17 ?_
    refine rr_ior dX8_cutLace_18 ?_
    refine rr_putI dX8_cutLace_19 fX8_143 ni6_2 lo_38 sh_38 rfl ?_
    rw [jj_rs_set0 (B := h) (o := 38) (r := (h 38)) rfl]
    refine rr_aload_n 0 rfl rfl dX8_cutLace_22 ?_
    refine rr_getR dX8_cutLace_23 fX8_145 lo_38 sh_38 rfl ?_
    refine rr_iload_n 1 rfl rfl dX8_cutLace_26 ?_
    refine rr_iconst 0 rfl dX8_cutLace_27 ?_
    refine rr_iastore dX8_cutLace_28 lo_40 sh_40 (by first | assumption | exact hp | decide | omega) ?_
    rw [jj_rs_set (B := h) (L := [(38, (upd (h 38) (2) (((h 38) 2) ||| (1 <<< (p &&& 31)))))]) (L2 := [(38, (upd (h 38) (2) (((h 38) 2) ||| (1 <<< (p &&& 31))))), (40, (upd (h 40) ((p : Int32).toNatClampNeg) 0))]) (r := (h 40)) rfl rfl]
    refine rr_iconst 1 rfl dX8_cutLace_29 ?_
    refine rr_nreturn dX8_cutLace_30 rfl (by first | rfl | assumption) ?_
    simpa only [vX8_cutLace, rX8_cutLace_38, rX8_cutLace_40, if_pos c1] using kq
  · skip
    refine rr_iconst 0 rfl dX8_cutLace_8 ?_
    refine rr_nreturn dX8_cutLace_9 rfl (by first | rfl | assumption) ?_
    refine jj_Qh (jj_addr (B := h) (o := 38) (r := (h 38)) rfl) ?_
    refine jj_Qh (jj_rs_add (B := h) (L := [(38, (h 38))]) (L2 := [(38, (h 38)), (40, (h 40))]) (o := 40) (r := (h 40)) rfl rfl) ?_
    simpa only [vX8_cutLace, rX8_cutLace_38, rX8_cutLace_40, if_neg c1] using kq
def vX8_mendLace (r38 : Nat → Int32) (p : Int32) : Int32 := (if (vX6_isCut_n r38 p) = 0 then 0 else 1)
def rX8_mendLace_38 (r38 : Nat → Int32) (p : Int32) : Nat → Int32 := (if (vX6_isCut_n r38 p) = 0 then r38 else (upd r38 (2) ((r38 2) &&& ((1 <<< (p &&& 31)) ^^^ ((-1) : Int32)))))
set_option maxHeartbeats 1000000 in
theorem sp_X8_mendLace {d kc ks : Nat} {h : Nat → Nat → Int32} {g : Nat → Nat → Int64} {Q : jj_Rs → jj_St → Prop} {p : Int32} (kq : Q (.inl (some (.int (vX8_mendLace (h 38) p)))) (jj_S, 782, (jj_rs h [(38, (rX8_mendLace_38 (h 38) p))]), g)) : jj_R mX8_mendLace (d + 1) kc ks (jj_S, 782, h, g) 0 [(0, .ref 38), (1, .int p)] [] Q := by
  refine rr_aload_n 0 rfl rfl dX8_mendLace_0 ?_
  refine rr_iload_n 1 rfl rfl dX8_mendLace_1 ?_
  refine rr_callV (As := [.int p]) (rest := []) (kc2 := 0) (ks2 := 0) dX8_mendLace_2 okX6_isCut lX8_137 lo_38 sh_38 rfl rfl (Nat.le_of_ble_eq_true rfl) (Nat.le_of_ble_eq_true rfl) rfl (by omega) (by simp [jj_rk]) (by simp [jj_rk]) ?_
  refine sp_X6_isCut_n  ?_
  show jj_R _ _ kc ks (jj_S, 782, h, g) 5 [(0, .ref 38), (1, .int p)] [.int (vX6_isCut_n (h 38) p)] Q
  refine rr_if_ne dX8_mendLace_5 (fun c1 => ?_) (fun c1 => ?_)
  · skip
    refine rr_aload_n 0 rfl rfl dX8_mendLace_10 ?_
    refine rr_dup rfl dX8_mendLace_11 ?_
    refine rr_getI dX8_mendLace_12 fX8_143 lo_38 sh_38 rfl ?_
    refine rr_iconst 1 rfl dX8_mendLace_15 ?_
    refine rr_iload_n 1 rfl rfl dX8_mendLace_16 ?_
    refine rr_ishl dX8_mendLace_17 ?_
    refine rr_iconst (-1) rfl dX8_mendLace_18 ?_
    refine rr_ixor dX8_mendLace_19 ?_
    refine rr_iand dX8_mendLace_20 ?_
    refine rr_putI dX8_mendLace_21 fX8_143 ni6_2 lo_38 sh_38 rfl ?_
    rw [jj_rs_set0 (B := h) (o := 38) (r := (h 38)) rfl]
    refine rr_iconst 1 rfl dX8_mendLace_24 ?_
    refine rr_nreturn dX8_mendLace_25 rfl (by first | rfl | assumption) ?_
    simpa only [vX8_mendLace, rX8_mendLace_38, if_neg c1] using kq
  · skip
    refine rr_iconst 0 rfl dX8_mendLace_8 ?_
    refine rr_nreturn dX8_mendLace_9 rfl (by first | rfl | assumption) ?_
    refine jj_Qh (jj_addr (B := h) (o := 38) (r := (h 38)) rfl) ?_
    simpa only [vX8_mendLace, rX8_mendLace_38, if_pos c1] using kq
def vX8_undoLace (r40 : Nat → Int32) (p : Int32) : Int32 := (if (r40 (p : Int32).toNatClampNeg) = 0 then 0 else 1)
def rX8_undoLace_40 (r40 : Nat → Int32) (p : Int32) : Nat → Int32 := (if (r40 (p : Int32).toNatClampNeg) = 0 then r40 else (upd r40 ((p : Int32).toNatClampNeg) 0))
set_option maxHeartbeats 1000000 in
theorem sp_X8_undoLace {d kc ks : Nat} {h : Nat → Nat → Int32} {g : Nat → Nat → Int64} {Q : jj_Rs → jj_St → Prop} {p : Int32} (hp : vp_in p 8) (kq : Q (.inl (some (.int (vX8_undoLace (h 40) p)))) (jj_S, 782, (jj_rs h [(40, (rX8_undoLace_40 (h 40) p))]), g)) : jj_R mX8_undoLace (d + 0) kc ks (jj_S, 782, h, g) 0 [(0, .ref 38), (1, .int p)] [] Q := by
  refine rr_aload_n 0 rfl rfl dX8_undoLace_0 ?_
  refine rr_getR dX8_undoLace_1 fX8_145 lo_38 sh_38 rfl ?_
  refine rr_iload_n 1 rfl rfl dX8_undoLace_4 ?_
  refine rr_iaload dX8_undoLace_5 lo_40 sh_40 (by first | assumption | exact hp | decide | omega) ?_
  refine rr_if_ne dX8_undoLace_6 (fun c1 => ?_) (fun c1 => ?_)
  · skip
    refine rr_aload_n 0 rfl rfl dX8_undoLace_11 ?_
    refine rr_getR dX8_undoLace_12 fX8_145 lo_38 sh_38 rfl ?_
    refine rr_iload_n 1 rfl rfl dX8_undoLace_15 ?_
    refine rr_iconst 0 rfl dX8_undoLace_16 ?_
    refine rr_iastore dX8_undoLace_17 lo_40 sh_40 (by first | assumption | exact hp | decide | omega) ?_
    rw [jj_rs_set0 (B := h) (o := 40) (r := (h 40)) rfl]
    refine rr_iconst 1 rfl dX8_undoLace_18 ?_
    refine rr_nreturn dX8_undoLace_19 rfl (by first | rfl | assumption) ?_
    simpa only [vX8_undoLace, rX8_undoLace_40, if_neg c1] using kq
  · skip
    refine rr_iconst 0 rfl dX8_undoLace_9 ?_
    refine rr_nreturn dX8_undoLace_10 rfl (by first | rfl | assumption) ?_
    refine jj_Qh (jj_addr (B := h) (o := 40) (r := (h 40)) rfl) ?_
    simpa only [vX8_undoLace, rX8_undoLace_40, if_pos c1] using kq
def vX8_endDay (r38 : Nat → Int32) (r39 : Nat → Int32) (r40 : Nat → Int32) (n : Nat) : Int32 := (if (r38 0) < 900 then 1 else 0)
def rX8_endDay_38 (r38 : Nat → Int32) (r39 : Nat → Int32) (r40 : Nat → Int32) (n : Nat) : Nat → Int32 := (if (r38 0) < 900 then (rX6_passDay_n_38 r38 r39 r40 n) else r38)
def rX8_endDay_39 (r38 : Nat → Int32) (r39 : Nat → Int32) (r40 : Nat → Int32) (n : Nat) : Nat → Int32 := (if (r38 0) < 900 then (rX6_passDay_n_39 r38 r39 r40 n) else r39)
def rX8_endDay_40 (r38 : Nat → Int32) (r39 : Nat → Int32) (r40 : Nat → Int32) (n : Nat) : Nat → Int32 := (if (r38 0) < 900 then (rX6_passDay_n_40 r38 r39 r40 n) else r40)
set_option maxHeartbeats 1000000 in
theorem sp_X8_endDay {d kc ks : Nat} {h : Nat → Nat → Int32} {g : Nat → Nat → Int64} {Q : jj_Rs → jj_St → Prop} {n : Nat} (hW : h 21 5 = nI n) (hn : n ≤ 8) (kq : Q (.inl (some (.int (vX8_endDay (h 38) (h 39) (h 40) n)))) (jj_S, 782, (jj_rs h [(38, (rX8_endDay_38 (h 38) (h 39) (h 40) n)), (39, (rX8_endDay_39 (h 38) (h 39) (h 40) n)), (40, (rX8_endDay_40 (h 38) (h 39) (h 40) n))]), g)) : jj_R mX8_endDay (d + 2) kc ks (jj_S, 782, h, g) 0 [(0, .ref 21), (1, .ref 38)] [] Q := by
  refine rr_aload_n 1 rfl rfl dX8_endDay_0 ?_
  refine rr_getI dX8_endDay_1 fX8_148 lo_38 sh_38 rfl ?_
  refine rr_sipush 900 rfl dX8_endDay_4 ?_
  refine rr_icmp_lt dX8_endDay_7 (fun c1 => ?_) (fun c1 => ?_)
  · skip
    refine rr_aload_n 1 rfl rfl dX8_endDay_12 ?_
    refine rr_aload_n 0 rfl rfl dX8_endDay_13 ?_
    refine rr_getI dX8_endDay_14 fX8_29 lo_21 sh_21 rfl ?_
    rw [show (h 21) 5 = (nI n) from hW]
    refine rr_callV (As := [.int (nI n)]) (rest := []) (kc2 := 0) (ks2 := 0) dX8_endDay_17 okX6_passDay lX8_151 lo_38 sh_38 rfl rfl (Nat.le_of_ble_eq_true rfl) (Nat.le_of_ble_eq_true rfl) rfl (by omega) (by simp [jj_rk]) (by simp [jj_rk]) ?_
    refine sp_X6_passDay_n (by first | assumption | exact hp | decide | omega) ?_
    show jj_R _ _ kc ks (jj_S, 782, (jj_rs h [(38, (rX6_passDay_n_38 (h 38) (h 39) (h 40) n)), (39, (rX6_passDay_n_39 (h 38) (h 39) (h 40) n)), (40, (rX6_passDay_n_40 (h 38) (h 39) (h 40) n))]), g) 20 [(0, .ref 21), (1, .ref 38)] [] Q
    refine rr_iconst 1 rfl dX8_endDay_20 ?_
    refine rr_nreturn dX8_endDay_21 rfl (by first | rfl | assumption) ?_
    simpa only [vX8_endDay, rX8_endDay_38, rX8_endDay_39, rX8_endDay_40, if_pos c1] using kq
  · skip
    refine rr_iconst 0 rfl dX8_endDay_10 ?_
    refine rr_nreturn dX8_endDay_11 rfl (by first | rfl | assumption) ?_
    refine jj_Qh (jj_addr (B := h) (o := 38) (r := (h 38)) rfl) ?_
    refine jj_Qh (jj_rs_add (B := h) (L := [(38, (h 38))]) (L2 := [(38, (h 38)), (39, (h 39))]) (o := 39) (r := (h 39)) rfl rfl) ?_
    refine jj_Qh (jj_rs_add (B := h) (L := [(38, (h 38)), (39, (h 39))]) (L2 := [(38, (h 38)), (39, (h 39)), (40, (h 40))]) (o := 40) (r := (h 40)) rfl rfl) ?_
    simpa only [vX8_endDay, rX8_endDay_38, rX8_endDay_39, rX8_endDay_40, if_neg c1] using kq
def rX8_countStep_21 (r21 : Nat → Int32) (c : Int32) : Nat → Int32 := (if c = 0 then (upd r21 (9) ((r21 9) + 1)) else (upd r21 (8) ((r21 8) + 1)))
set_option maxHeartbeats 1000000 in
theorem sp_X8_countStep {d kc ks : Nat} {h : Nat → Nat → Int32} {g : Nat → Nat → Int64} {Q : jj_Rs → jj_St → Prop} {c : Int32} (kq : Q (.inl none) (jj_S, 782, (jj_rs h [(21, (rX8_countStep_21 (h 21) c))]), g)) : jj_R mX8_countStep (d + 0) kc ks (jj_S, 782, h, g) 0 [(0, .ref 21), (1, .int c)] [] Q := by
  refine rr_iload_n 1 rfl rfl dX8_countStep_0 ?_
  refine rr_if_eq dX8_countStep_1 (fun c1 => ?_) (fun c1 => ?_)
  · skip
    refine rr_aload_n 0 rfl rfl dX8_countStep_17 ?_
    refine rr_dup rfl dX8_countStep_18 ?_
    refine rr_getI dX8_countStep_19 fX8_97 lo_21 sh_21 rfl ?_
    refine rr_iconst 1 rfl dX8_countStep_22 ?_
    refine rr_iadd dX8_countStep_23 ?_
    refine rr_putI dX8_countStep_24 fX8_97 ni8_9 lo_21 sh_21 rfl ?_
    rw [jj_rs_set0 (B := h) (o := 21) (r := (h 21)) rfl]
    refine rr_return dX8_countStep_27 rfl ?_
    simpa only [rX8_countStep_21, if_pos c1] using kq
  · skip
    refine rr_aload_n 0 rfl rfl dX8_countStep_4 ?_
    refine rr_dup rfl dX8_countStep_5 ?_
    refine rr_getI dX8_countStep_6 fX8_94 lo_21 sh_21 rfl ?_
    refine rr_iconst 1 rfl dX8_countStep_9 ?_
    refine rr_iadd dX8_countStep_10 ?_
    refine rr_putI dX8_countStep_11 fX8_94 ni8_8 lo_21 sh_21 rfl ?_
    rw [jj_rs_set0 (B := h) (o := 21) (r := (h 21)) rfl]
    refine rr_goto dX8_countStep_14 ?_
    refine rr_return dX8_countStep_27 rfl ?_
    simpa only [rX8_countStep_21, if_neg c1] using kq
def vX8_runStep (r2 : Nat → Int32) (r3 : Nat → Int32) (r6 : Nat → Int32) (r8 : Nat → Int32) (r38 : Nat → Int32) (r39 : Nat → Int32) (r40 : Nat → Int32) (r41 : Nat → Int32) (r42 : Nat → Int32) (n : Nat) (m : Nat) (c : Int32) (a : Int32) (b : Int32) : Int32 := (if c = 0 then (vX3_tieLace_n r2 r3 r6 r8 r38 r39 r40 r41 r42 m a b 0) else (if c = 1 then (vX3_tieLace_n r2 r3 r6 r8 r38 r39 r40 r41 r42 m a b 1) else (if c = 2 then (vX8_cutLace r38 r40 a) else (if c = 3 then (vX8_mendLace r38 a) else (if c = 4 then (vX8_undoLace r40 a) else (vX8_endDay r38 r39 r40 n))))))
def rX8_runStep_38 (r2 : Nat → Int32) (r3 : Nat → Int32) (r6 : Nat → Int32) (r8 : Nat → Int32) (r38 : Nat → Int32) (r39 : Nat → Int32) (r40 : Nat → Int32) (r41 : Nat → Int32) (r42 : Nat → Int32) (n : Nat) (m : Nat) (c : Int32) (a : Int32) (b : Int32) : Nat → Int32 := (if c = 0 then (rX3_tieLace_n_38 r2 r3 r6 r8 r38 r39 r40 r41 r42 m a b 0) else (if c = 1 then (rX3_tieLace_n_38 r2 r3 r6 r8 r38 r39 r40 r41 r42 m a b 1) else (if c = 2 then (rX8_cutLace_38 r38 r40 a) else (if c = 3 then (rX8_mendLace_38 r38 a) else (if c = 4 then r38 else (rX8_endDay_38 r38 r39 r40 n))))))
def rX8_runStep_39 (r2 : Nat → Int32) (r3 : Nat → Int32) (r6 : Nat → Int32) (r8 : Nat → Int32) (r38 : Nat → Int32) (r39 : Nat → Int32) (r40 : Nat → Int32) (r41 : Nat → Int32) (r42 : Nat → Int32) (n : Nat) (m : Nat) (c : Int32) (a : Int32) (b : Int32) : Nat → Int32 := (if c = 0 then (rX3_tieLace_n_39 r2 r3 r6 r8 r38 r39 r40 r41 r42 m a b 0) else (if c = 1 then (rX3_tieLace_n_39 r2 r3 r6 r8 r38 r39 r40 r41 r42 m a b 1) else (if c = 2 then r39 else (if c = 3 then r39 else (if c = 4 then r39 else (rX8_endDay_39 r38 r39 r40 n))))))
def rX8_runStep_40 (r2 : Nat → Int32) (r3 : Nat → Int32) (r6 : Nat → Int32) (r8 : Nat → Int32) (r38 : Nat → Int32) (r39 : Nat → Int32) (r40 : Nat → Int32) (r41 : Nat → Int32) (r42 : Nat → Int32) (n : Nat) (m : Nat) (c : Int32) (a : Int32) (b : Int32) : Nat → Int32 := (if c = 0 then (rX3_tieLace_n_40 r2 r3 r6 r8 r38 r39 r40 r41 r42 m a b 0) else (if c = 1 then (rX3_tieLace_n_40 r2 r3 r6 r8 r38 r39 r40 r41 r42 m a b 1) else (if c = 2 then (rX8_cutLace_40 r38 r40 a) else (if c = 3 then r40 else (if c = 4 then (rX8_undoLace_40 r40 a) else (rX8_endDay_40 r38 r39 r40 n))))))
def rX8_runStep_41 (r2 : Nat → Int32) (r3 : Nat → Int32) (r6 : Nat → Int32) (r8 : Nat → Int32) (r38 : Nat → Int32) (r39 : Nat → Int32) (r40 : Nat → Int32) (r41 : Nat → Int32) (r42 : Nat → Int32) (n : Nat) (m : Nat) (c : Int32) (a : Int32) (b : Int32) : Nat → Int32 := (if c = 0 then (rX3_tieLace_n_41 r2 r3 r6 r8 r38 r39 r40 r41 r42 m a b 0) else (if c = 1 then (rX3_tieLace_n_41 r2 r3 r6 r8 r38 r39 r40 r41 r42 m a b 1) else r41))
def rX8_runStep_42 (r2 : Nat → Int32) (r3 : Nat → Int32) (r6 : Nat → Int32) (r8 : Nat → Int32) (r38 : Nat → Int32) (r39 : Nat → Int32) (r40 : Nat → Int32) (r41 : Nat → Int32) (r42 : Nat → Int32) (n : Nat) (m : Nat) (c : Int32) (a : Int32) (b : Int32) : Nat → Int32 := (if c = 0 then (rX3_tieLace_n_42 r2 r3 r6 r8 r38 r39 r40 r41 r42 m a b 0) else (if c = 1 then (rX3_tieLace_n_42 r2 r3 r6 r8 r38 r39 r40 r41 r42 m a b 1) else r42))
set_option maxHeartbeats 1000000 in
theorem sp_X8_runStep {d kc ks : Nat} {h : Nat → Nat → Int32} {g : Nat → Nat → Int64} {Q : jj_Rs → jj_St → Prop} {n : Nat} {m : Nat} {c : Int32} {a : Int32} {b : Int32} (ha : c = 0 ∨ c = 1 ∨ c = 2 ∨ c = 3 ∨ c = 4 → vp_in a 8) (hb : c = 0 ∨ c = 1 → vp_in b 8) (hW : h 21 5 = nI n) (hn : n ≤ 8) (hm : h 7 1 = nI m) (hm2 : m ≤ 150) (kq : ∀ h9, jj_eq [10, 11] h h9 → Q (.inl (some (.int (vX8_runStep (h 2) (h 3) (h 6) (h 8) (h 38) (h 39) (h 40) (h 41) (h 42) n m c a b)))) (jj_S, 782, (jj_rs h9 [(38, (rX8_runStep_38 (h 2) (h 3) (h 6) (h 8) (h 38) (h 39) (h 40) (h 41) (h 42) n m c a b)), (39, (rX8_runStep_39 (h 2) (h 3) (h 6) (h 8) (h 38) (h 39) (h 40) (h 41) (h 42) n m c a b)), (40, (rX8_runStep_40 (h 2) (h 3) (h 6) (h 8) (h 38) (h 39) (h 40) (h 41) (h 42) n m c a b)), (41, (rX8_runStep_41 (h 2) (h 3) (h 6) (h 8) (h 38) (h 39) (h 40) (h 41) (h 42) n m c a b)), (42, (rX8_runStep_42 (h 2) (h 3) (h 6) (h 8) (h 38) (h 39) (h 40) (h 41) (h 42) n m c a b))]), g)) : jj_R mX8_runStep (d + 5) kc ks (jj_S, 782, h, g) 0 [(0, .ref 21), (1, .ref 38), (2, .int c), (3, .int a), (4, .int b)] [] Q := by
  refine rr_iload_n 2 rfl rfl dX8_runStep_0 ?_
  by_cases c1 : c = 0
  · skip
    refine rr_tcase (tgt := 36) c1 35 dX8_runStep_1 (by decide) (by decide) (by decide) (by decide) ?_
    refine rr_aload_n 0 rfl rfl dX8_runStep_36 ?_
    refine rr_getR dX8_runStep_37 fX8_21 lo_21 sh_21 rfl ?_
    refine rr_aload_n 1 rfl rfl dX8_runStep_40 ?_
    refine rr_iload_n 3 rfl rfl dX8_runStep_41 ?_
    refine rr_iload 4 rfl dX8_runStep_42 ?_
    refine rr_iconst 0 rfl dX8_runStep_44 ?_
    refine rr_callV (As := [.ref 38, .int a, .int b, .int 0]) (rest := []) (kc2 := 0) (ks2 := 0) dX8_runStep_45 okX3_tieLace lX8_118 lo_12 sh_12 rfl rfl (Nat.le_of_ble_eq_true rfl) (Nat.le_of_ble_eq_true rfl) rfl (by omega) (by simp [jj_rk]) (by simp [jj_rk]) ?_
    refine sp_X3_tieLace_n (by first | exact ha (Or.inl (by assumption)) | exact ha (Or.inr (Or.inl (by assumption))) | exact ha (Or.inr (Or.inr (Or.inl (by assumption)))) | exact ha (Or.inr (Or.inr (Or.inr (Or.inl (by assumption))))) | exact ha (Or.inr (Or.inr (Or.inr (Or.inr (by assumption))))) | exact hb (Or.inl (by assumption)) | exact hb (Or.inr (by assumption)) | assumption | decide | omega) (by first | exact ha (Or.inl (by assumption)) | exact ha (Or.inr (Or.inl (by assumption))) | exact ha (Or.inr (Or.inr (Or.inl (by assumption)))) | exact ha (Or.inr (Or.inr (Or.inr (Or.inl (by assumption))))) | exact ha (Or.inr (Or.inr (Or.inr (Or.inr (by assumption))))) | exact hb (Or.inl (by assumption)) | exact hb (Or.inr (by assumption)) | assumption | decide | omega) (by first | exact ha (Or.inl (by assumption)) | exact ha (Or.inr (Or.inl (by assumption))) | exact ha (Or.inr (Or.inr (Or.inl (by assumption)))) | exact ha (Or.inr (Or.inr (Or.inr (Or.inl (by assumption))))) | exact ha (Or.inr (Or.inr (Or.inr (Or.inr (by assumption))))) | exact hb (Or.inl (by assumption)) | exact hb (Or.inr (by assumption)) | assumption | decide | omega) (by first | exact ha (Or.inl (by assumption)) | exact ha (Or.inr (Or.inl (by assumption))) | exact ha (Or.inr (Or.inr (Or.inl (by assumption)))) | exact ha (Or.inr (Or.inr (Or.inr (Or.inl (by assumption))))) | exact ha (Or.inr (Or.inr (Or.inr (Or.inr (by assumption))))) | exact hb (Or.inl (by assumption)) | exact hb (Or.inr (by assumption)) | assumption | decide | omega) (fun h2 e3 => ?_)
    have e4 := jj_lo0 (X := [10, 11]) (jj_eq.rf (X := [10, 11])) e3 (by decide)
    show jj_R _ _ kc ks (jj_S, 782, (jj_rs h2 [(38, (rX3_tieLace_n_38 (h 2) (h 3) (h 6) (h 8) (h 38) (h 39) (h 40) (h 41) (h 42) m a b 0)), (39, (rX3_tieLace_n_39 (h 2) (h 3) (h 6) (h 8) (h 38) (h 39) (h 40) (h 41) (h 42) m a b 0)), (40, (rX3_tieLace_n_40 (h 2) (h 3) (h 6) (h 8) (h 38) (h 39) (h 40) (h 41) (h 42) m a b 0)), (41, (rX3_tieLace_n_41 (h 2) (h 3) (h 6) (h 8) (h 38) (h 39) (h 40) (h 41) (h 42) m a b 0)), (42, (rX3_tieLace_n_42 (h 2) (h 3) (h 6) (h 8) (h 38) (h 39) (h 40) (h 41) (h 42) m a b 0))]), g) 48 [(0, .ref 21), (1, .ref 38), (2, .int c), (3, .int a), (4, .int b)] [.int (vX3_tieLace_n (h 2) (h 3) (h 6) (h 8) (h 38) (h 39) (h 40) (h 41) (h 42) m a b 0)] Q
    refine rr_nreturn dX8_runStep_48 rfl (by first | rfl | ((unfold vX3_tieLace_n; repeat' split) <;> rfl) | assumption) ?_
    simpa only [vX8_runStep, rX8_runStep_38, rX8_runStep_39, rX8_runStep_40, rX8_runStep_41, rX8_runStep_42, if_pos c1] using kq h2 e4
  · skip
    by_cases c5 : c = 1
    · skip
      refine rr_tcase (tgt := 49) c5 48 dX8_runStep_1 (by decide) (by decide) (by decide) (by decide) ?_
      refine rr_aload_n 0 rfl rfl dX8_runStep_49 ?_
      refine rr_getR dX8_runStep_50 fX8_21 lo_21 sh_21 rfl ?_
      refine rr_aload_n 1 rfl rfl dX8_runStep_53 ?_
      refine rr_iload_n 3 rfl rfl dX8_runStep_54 ?_
      refine rr_iload 4 rfl dX8_runStep_55 ?_
      refine rr_iconst 1 rfl dX8_runStep_57 ?_
      refine rr_callV (As := [.ref 38, .int a, .int b, .int 1]) (rest := []) (kc2 := 0) (ks2 := 0) dX8_runStep_58 okX3_tieLace lX8_118 lo_12 sh_12 rfl rfl (Nat.le_of_ble_eq_true rfl) (Nat.le_of_ble_eq_true rfl) rfl (by omega) (by simp [jj_rk]) (by simp [jj_rk]) ?_
      refine sp_X3_tieLace_n (by first | exact ha (Or.inl (by assumption)) | exact ha (Or.inr (Or.inl (by assumption))) | exact ha (Or.inr (Or.inr (Or.inl (by assumption)))) | exact ha (Or.inr (Or.inr (Or.inr (Or.inl (by assumption))))) | exact ha (Or.inr (Or.inr (Or.inr (Or.inr (by assumption))))) | exact hb (Or.inl (by assumption)) | exact hb (Or.inr (by assumption)) | assumption | decide | omega) (by first | exact ha (Or.inl (by assumption)) | exact ha (Or.inr (Or.inl (by assumption))) | exact ha (Or.inr (Or.inr (Or.inl (by assumption)))) | exact ha (Or.inr (Or.inr (Or.inr (Or.inl (by assumption))))) | exact ha (Or.inr (Or.inr (Or.inr (Or.inr (by assumption))))) | exact hb (Or.inl (by assumption)) | exact hb (Or.inr (by assumption)) | assumption | decide | omega) (by first | exact ha (Or.inl (by assumption)) | exact ha (Or.inr (Or.inl (by assumption))) | exact ha (Or.inr (Or.inr (Or.inl (by assumption)))) | exact ha (Or.inr (Or.inr (Or.inr (Or.inl (by assumption))))) | exact ha (Or.inr (Or.inr (Or.inr (Or.inr (by assumption))))) | exact hb (Or.inl (by assumption)) | exact hb (Or.inr (by assumption)) | assumption | decide | omega) (by first | exact ha (Or.inl (by assumption)) | exact ha (Or.inr (Or.inl (by assumption))) | exact ha (Or.inr (Or.inr (Or.inl (by assumption)))) | exact ha (Or.inr (Or.inr (Or.inr (Or.inl (by assumption))))) | exact ha (Or.inr (Or.inr (Or.inr (Or.inr (by assumption))))) | exact hb (Or.inl (by assumption)) | exact hb (Or.inr (by assumption)) | assumption | decide | omega) (fun h6 e7 => ?_)
      have e8 := jj_lo0 (X := [10, 11]) (jj_eq.rf (X := [10, 11])) e7 (by decide)
      show jj_R _ _ kc ks (jj_S, 782, (jj_rs h6 [(38, (rX3_tieLace_n_38 (h 2) (h 3) (h 6) (h 8) (h 38) (h 39) (h 40) (h 41) (h 42) m a b 1)), (39, (rX3_tieLace_n_39 (h 2) (h 3) (h 6) (h 8) (h 38) (h 39) (h 40) (h 41) (h 42) m a b 1)), (40, (rX3_tieLace_n_40 (h 2) (h 3) (h 6) (h 8) (h 38) (h 39) (h 40) (h 41) (h 42) m a b 1)), (41, (rX3_tieLace_n_41 (h 2) (h 3) (h 6) (h 8) (h 38) (h 39) (h 40) (h 41) (h 42) m a b 1)), (42, (rX3_tieLace_n_42 (h 2) (h 3) (h 6) (h 8) (h 38) (h 39) (h 40) (h 41) (h 42) m a b 1))]), g) 61 [(0, .ref 21), (1, .ref 38), (2, .int c), (3, .int a), (4, .int b)] [.int (vX3_tieLace_n (h 2) (h 3) (h 6) (h 8) (h 38) (h 39) (h 40) (h 41) (h 42) m a b 1)] Q
      refine rr_nreturn dX8_runStep_61 rfl (by first | rfl | ((unfold vX3_tieLace_n; repeat' split) <;> rfl) | assumption) ?_
      simpa only [vX8_runStep, rX8_runStep_38, rX8_runStep_39, rX8_runStep_40, rX8_runStep_41, rX8_runStep_42, if_neg c1, if_pos c5] using kq h6 e8
    · skip
      by_cases c9 : c = 2
      · skip
        refine rr_tcase (tgt := 62) c9 61 dX8_runStep_1 (by decide) (by decide) (by decide) (by decide) ?_
        refine rr_aload_n 1 rfl rfl dX8_runStep_62 ?_
        refine rr_iload_n 3 rfl rfl dX8_runStep_63 ?_
        refine rr_callS (As := [.ref 38, .int a]) (rest := []) (kc2 := 0) (ks2 := 0) dX8_runStep_64 okX8_cutLace lX8_123 rfl (Nat.le_of_ble_eq_true rfl) (Nat.le_of_ble_eq_true rfl) rfl (by omega) (by simp [jj_rk]) (by simp [jj_rk]) ?_
        refine sp_X8_cutLace (by first | exact ha (Or.inl (by assumption)) | exact ha (Or.inr (Or.inl (by assumption))) | exact ha (Or.inr (Or.inr (Or.inl (by assumption)))) | exact ha (Or.inr (Or.inr (Or.inr (Or.inl (by assumption))))) | exact ha (Or.inr (Or.inr (Or.inr (Or.inr (by assumption))))) | exact hb (Or.inl (by assumption)) | exact hb (Or.inr (by assumption)) | assumption | decide | omega) ?_
        show jj_R _ _ kc ks (jj_S, 782, (jj_rs h [(38, (rX8_cutLace_38 (h 38) (h 40) a)), (40, (rX8_cutLace_40 (h 38) (h 40) a))]), g) 67 [(0, .ref 21), (1, .ref 38), (2, .int c), (3, .int a), (4, .int b)] [.int (vX8_cutLace (h 38) (h 40) a)] Q
        refine rr_nreturn dX8_runStep_67 rfl (by first | rfl | ((unfold vX8_cutLace; repeat' split) <;> rfl) | assumption) ?_
        refine jj_Qh (jj_rs_add (B := h) (L := [(38, (rX8_cutLace_38 (h 38) (h 40) a)), (40, (rX8_cutLace_40 (h 38) (h 40) a))]) (L2 := [(38, (rX8_cutLace_38 (h 38) (h 40) a)), (39, (h 39)), (40, (rX8_cutLace_40 (h 38) (h 40) a))]) (o := 39) (r := (h 39)) rfl rfl) ?_
        refine jj_Qh (jj_rs_add (B := h) (L := [(38, (rX8_cutLace_38 (h 38) (h 40) a)), (39, (h 39)), (40, (rX8_cutLace_40 (h 38) (h 40) a))]) (L2 := [(38, (rX8_cutLace_38 (h 38) (h 40) a)), (39, (h 39)), (40, (rX8_cutLace_40 (h 38) (h 40) a)), (41, (h 41))]) (o := 41) (r := (h 41)) rfl rfl) ?_
        refine jj_Qh (jj_rs_add (B := h) (L := [(38, (rX8_cutLace_38 (h 38) (h 40) a)), (39, (h 39)), (40, (rX8_cutLace_40 (h 38) (h 40) a)), (41, (h 41))]) (L2 := [(38, (rX8_cutLace_38 (h 38) (h 40) a)), (39, (h 39)), (40, (rX8_cutLace_40 (h 38) (h 40) a)), (41, (h 41)), (42, (h 42))]) (o := 42) (r := (h 42)) rfl rfl) ?_
        simpa only [vX8_runStep, rX8_runStep_38, rX8_runStep_39, rX8_runStep_40, rX8_runStep_41, rX8_runStep_42, if_neg c1, if_neg c5, if_pos c9] using kq h jj_eq.rf
      · skip
        by_cases c10 : c = 3
        · skip
          refine rr_tcase (tgt := 68) c10 67 dX8_runStep_1 (by decide) (by decide) (by decide) (by decide) ?_
          refine rr_aload_n 1 rfl rfl dX8_runStep_68 ?_
          refine rr_iload_n 3 rfl rfl dX8_runStep_69 ?_
          refine rr_callS (As := [.ref 38, .int a]) (rest := []) (kc2 := 0) (ks2 := 0) dX8_runStep_70 okX8_mendLace lX8_127 rfl (Nat.le_of_ble_eq_true rfl) (Nat.le_of_ble_eq_true rfl) rfl (by omega) (by simp [jj_rk]) (by simp [jj_rk]) ?_
          refine sp_X8_mendLace  ?_
          show jj_R _ _ kc ks (jj_S, 782, (jj_rs h [(38, (rX8_mendLace_38 (h 38) a))]), g) 73 [(0, .ref 21), (1, .ref 38), (2, .int c), (3, .int a), (4, .int b)] [.int (vX8_mendLace (h 38) a)] Q
          refine rr_nreturn dX8_runStep_73 rfl (by first | rfl | ((unfold vX8_mendLace; repeat' split) <;> rfl) | assumption) ?_
          refine jj_Qh (jj_rs_add (B := h) (L := [(38, (rX8_mendLace_38 (h 38) a))]) (L2 := [(38, (rX8_mendLace_38 (h 38) a)), (39, (h 39))]) (o := 39) (r := (h 39)) rfl rfl) ?_
          refine jj_Qh (jj_rs_add (B := h) (L := [(38, (rX8_mendLace_38 (h 38) a)), (39, (h 39))]) (L2 := [(38, (rX8_mendLace_38 (h 38) a)), (39, (h 39)), (40, (h 40))]) (o := 40) (r := (h 40)) rfl rfl) ?_
          refine jj_Qh (jj_rs_add (B := h) (L := [(38, (rX8_mendLace_38 (h 38) a)), (39, (h 39)), (40, (h 40))]) (L2 := [(38, (rX8_mendLace_38 (h 38) a)), (39, (h 39)), (40, (h 40)), (41, (h 41))]) (o := 41) (r := (h 41)) rfl rfl) ?_
          refine jj_Qh (jj_rs_add (B := h) (L := [(38, (rX8_mendLace_38 (h 38) a)), (39, (h 39)), (40, (h 40)), (41, (h 41))]) (L2 := [(38, (rX8_mendLace_38 (h 38) a)), (39, (h 39)), (40, (h 40)), (41, (h 41)), (42, (h 42))]) (o := 42) (r := (h 42)) rfl rfl) ?_
          simpa only [vX8_runStep, rX8_runStep_38, rX8_runStep_39, rX8_runStep_40, rX8_runStep_41, rX8_runStep_42, if_neg c1, if_neg c5, if_neg c9, if_pos c10] using kq h jj_eq.rf
        · skip
          by_cases c11 : c = 4
          · skip
            refine rr_tcase (tgt := 74) c11 73 dX8_runStep_1 (by decide) (by decide) (by decide) (by decide) ?_
            refine rr_aload_n 1 rfl rfl dX8_runStep_74 ?_
            refine rr_iload_n 3 rfl rfl dX8_runStep_75 ?_
            refine rr_callS (As := [.ref 38, .int a]) (rest := []) (kc2 := 0) (ks2 := 0) dX8_runStep_76 okX8_undoLace lX8_130 rfl (Nat.le_of_ble_eq_true rfl) (Nat.le_of_ble_eq_true rfl) rfl (by omega) (by simp [jj_rk]) (by simp [jj_rk]) ?_
            refine sp_X8_undoLace (by first | exact ha (Or.inl (by assumption)) | exact ha (Or.inr (Or.inl (by assumption))) | exact ha (Or.inr (Or.inr (Or.inl (by assumption)))) | exact ha (Or.inr (Or.inr (Or.inr (Or.inl (by assumption))))) | exact ha (Or.inr (Or.inr (Or.inr (Or.inr (by assumption))))) | exact hb (Or.inl (by assumption)) | exact hb (Or.inr (by assumption)) | assumption | decide | omega) ?_
            show jj_R _ _ kc ks (jj_S, 782, (jj_rs h [(40, (rX8_undoLace_40 (h 40) a))]), g) 79 [(0, .ref 21), (1, .ref 38), (2, .int c), (3, .int a), (4, .int b)] [.int (vX8_undoLace (h 40) a)] Q
            refine rr_nreturn dX8_runStep_79 rfl (by first | rfl | ((unfold vX8_undoLace; repeat' split) <;> rfl) | assumption) ?_
            refine jj_Qh (jj_rs_add (B := h) (L := [(40, (rX8_undoLace_40 (h 40) a))]) (L2 := [(38, (h 38)), (40, (rX8_undoLace_40 (h 40) a))]) (o := 38) (r := (h 38)) rfl rfl) ?_
            refine jj_Qh (jj_rs_add (B := h) (L := [(38, (h 38)), (40, (rX8_undoLace_40 (h 40) a))]) (L2 := [(38, (h 38)), (39, (h 39)), (40, (rX8_undoLace_40 (h 40) a))]) (o := 39) (r := (h 39)) rfl rfl) ?_
            refine jj_Qh (jj_rs_add (B := h) (L := [(38, (h 38)), (39, (h 39)), (40, (rX8_undoLace_40 (h 40) a))]) (L2 := [(38, (h 38)), (39, (h 39)), (40, (rX8_undoLace_40 (h 40) a)), (41, (h 41))]) (o := 41) (r := (h 41)) rfl rfl) ?_
            refine jj_Qh (jj_rs_add (B := h) (L := [(38, (h 38)), (39, (h 39)), (40, (rX8_undoLace_40 (h 40) a)), (41, (h 41))]) (L2 := [(38, (h 38)), (39, (h 39)), (40, (rX8_undoLace_40 (h 40) a)), (41, (h 41)), (42, (h 42))]) (o := 42) (r := (h 42)) rfl rfl) ?_
            simpa only [vX8_runStep, rX8_runStep_38, rX8_runStep_39, rX8_runStep_40, rX8_runStep_41, rX8_runStep_42, if_neg c1, if_neg c5, if_neg c9, if_neg c10, if_pos c11] using kq h jj_eq.rf
          · skip
            refine rr_tableOut (tgt := 80) dX8_runStep_1 (by have q0 := lv_neT c1 (a := 0) rfl; have q1 := lv_neT c5 (a := 1) rfl; have q2 := lv_neT c9 (a := 2) rfl; have q3 := lv_neT c10 (a := 3) rfl; have q4 := lv_neT c11 (a := 4) rfl; omega) (by decide) ?_
            refine rr_aload_n 0 rfl rfl dX8_runStep_80 ?_
            refine rr_aload_n 1 rfl rfl dX8_runStep_81 ?_
            refine rr_callV (As := [.ref 38]) (rest := []) (kc2 := 0) (ks2 := 0) dX8_runStep_82 okX8_endDay lX8_133 lo_21 sh_21 rfl rfl (Nat.le_of_ble_eq_true rfl) (Nat.le_of_ble_eq_true rfl) rfl (by omega) (by simp [jj_rk]) (by simp [jj_rk]) ?_
            refine sp_X8_endDay (by first | exact ha (Or.inl (by assumption)) | exact ha (Or.inr (Or.inl (by assumption))) | exact ha (Or.inr (Or.inr (Or.inl (by assumption)))) | exact ha (Or.inr (Or.inr (Or.inr (Or.inl (by assumption))))) | exact ha (Or.inr (Or.inr (Or.inr (Or.inr (by assumption))))) | exact hb (Or.inl (by assumption)) | exact hb (Or.inr (by assumption)) | assumption | decide | omega) (by first | exact ha (Or.inl (by assumption)) | exact ha (Or.inr (Or.inl (by assumption))) | exact ha (Or.inr (Or.inr (Or.inl (by assumption)))) | exact ha (Or.inr (Or.inr (Or.inr (Or.inl (by assumption))))) | exact ha (Or.inr (Or.inr (Or.inr (Or.inr (by assumption))))) | exact hb (Or.inl (by assumption)) | exact hb (Or.inr (by assumption)) | assumption | decide | omega) ?_
            show jj_R _ _ kc ks (jj_S, 782, (jj_rs h [(38, (rX8_endDay_38 (h 38) (h 39) (h 40) n)), (39, (rX8_endDay_39 (h 38) (h 39) (h 40) n)), (40, (rX8_endDay_40 (h 38) (h 39) (h 40) n))]), g) 85 [(0, .ref 21), (1, .ref 38), (2, .int c), (3, .int a), (4, .int b)] [.int (vX8_endDay (h 38) (h 39) (h 40) n)] Q
            refine rr_nreturn dX8_runStep_85 rfl (by first | rfl | ((unfold vX8_endDay; repeat' split) <;> rfl) | assumption) ?_
            refine jj_Qh (jj_rs_add (B := h) (L := [(38, (rX8_endDay_38 (h 38) (h 39) (h 40) n)), (39, (rX8_endDay_39 (h 38) (h 39) (h 40) n)), (40, (rX8_endDay_40 (h 38) (h 39) (h 40) n))]) (L2 := [(38, (rX8_endDay_38 (h 38) (h 39) (h 40) n)), (39, (rX8_endDay_39 (h 38) (h 39) (h 40) n)), (40, (rX8_endDay_40 (h 38) (h 39) (h 40) n)), (41, (h 41))]) (o := 41) (r := (h 41)) rfl rfl) ?_
            refine jj_Qh (jj_rs_add (B := h) (L := [(38, (rX8_endDay_38 (h 38) (h 39) (h 40) n)), (39, (rX8_endDay_39 (h 38) (h 39) (h 40) n)), (40, (rX8_endDay_40 (h 38) (h 39) (h 40) n)), (41, (h 41))]) (L2 := [(38, (rX8_endDay_38 (h 38) (h 39) (h 40) n)), (39, (rX8_endDay_39 (h 38) (h 39) (h 40) n)), (40, (rX8_endDay_40 (h 38) (h 39) (h 40) n)), (41, (h 41)), (42, (h 42))]) (o := 42) (r := (h 42)) rfl rfl) ?_
            simpa only [vX8_runStep, rX8_runStep_38, rX8_runStep_39, rX8_runStep_40, rX8_runStep_41, rX8_runStep_42, if_neg c1, if_neg c5, if_neg c9, if_neg c10, if_neg c11] using kq h jj_eq.rf
def vX10_becomes_c (r497 : Nat → Int32) (v : Int32) : Int32 := (if (r497 32) = v then 0 else 1)
def rX10_becomes_c_497 (r497 : Nat → Int32) (v : Int32) : Nat → Int32 := (if (r497 32) = v then r497 else (upd r497 (32) v))
set_option maxHeartbeats 1000000 in
theorem sp_X10_becomes_c {d kc ks : Nat} {h : Nat → Nat → Int32} {g : Nat → Nat → Int64} {Q : jj_Rs → jj_St → Prop} {v : Int32} (kq : Q (.inl (some (.int (vX10_becomes_c (h 497) v)))) (jj_S, 782, (jj_rs h [(497, (rX10_becomes_c_497 (h 497) v))]), g)) : jj_R mX10_becomes (d + 0) kc ks (jj_S, 782, h, g) 0 [(0, .ref 497), (1, .int 32), (2, .int v)] [] Q := by
  refine rr_aload_n 0 rfl rfl dX10_becomes_0 ?_
  refine rr_iload_n 1 rfl rfl dX10_becomes_1 ?_
  refine rr_iaload dX10_becomes_2 lo_497 sh_497 (jj_inL rfl) ?_
  rw [show (h 497) (32 : Int32).toNatClampNeg = (h 497) 32 from rfl]
  refine rr_iload_n 2 rfl rfl dX10_becomes_3 ?_
  refine rr_icmp_ne dX10_becomes_4 (fun c1 => ?_) (fun c1 => ?_)
  · skip
    refine rr_aload_n 0 rfl rfl dX10_becomes_9 ?_
    refine rr_iload_n 1 rfl rfl dX10_becomes_10 ?_
    refine rr_iload_n 2 rfl rfl dX10_becomes_11 ?_
    refine rr_iastore dX10_becomes_12 lo_497 sh_497 (jj_inL rfl) ?_
    rw [show (32 : Int32).toNatClampNeg = 32 from rfl]
    rw [jj_rs_set0 (B := h) (o := 497) (r := (h 497)) rfl]
    refine rr_iconst 1 rfl dX10_becomes_13 ?_
    refine rr_nreturn dX10_becomes_14 rfl (by first | rfl | assumption) ?_
    simpa only [vX10_becomes_c, rX10_becomes_c_497, if_neg c1] using kq
  · skip
    refine rr_iconst 0 rfl dX10_becomes_7 ?_
    refine rr_nreturn dX10_becomes_8 rfl (by first | rfl | assumption) ?_
    refine jj_Qh (jj_addr (B := h) (o := 497) (r := (h 497)) rfl) ?_
    simpa only [vX10_becomes_c, rX10_becomes_c_497, if_pos c1] using kq
def vX10_becomes_t (r497 : Nat → Int32) (p : Int32) : Int32 := (if (r497 (p : Int32).toNatClampNeg) = 0 then 0 else 1)
def rX10_becomes_t_497 (r497 : Nat → Int32) (p : Int32) : Nat → Int32 := (if (r497 (p : Int32).toNatClampNeg) = 0 then r497 else (upd r497 ((p : Int32).toNatClampNeg) 0))
set_option maxHeartbeats 1000000 in
theorem sp_X10_becomes_t {d kc ks : Nat} {h : Nat → Nat → Int32} {g : Nat → Nat → Int64} {Q : jj_Rs → jj_St → Prop} {p : Int32} (hp : vp_in p 35) (kq : Q (.inl (some (.int (vX10_becomes_t (h 497) p)))) (jj_S, 782, (jj_rs h [(497, (rX10_becomes_t_497 (h 497) p))]), g)) : jj_R mX10_becomes (d + 0) kc ks (jj_S, 782, h, g) 0 [(0, .ref 497), (1, .int p), (2, .int 0)] [] Q := by
  refine rr_aload_n 0 rfl rfl dX10_becomes_0 ?_
  refine rr_iload_n 1 rfl rfl dX10_becomes_1 ?_
  refine rr_iaload dX10_becomes_2 lo_497 sh_497 (by first | assumption | exact jj_pM hn (by assumption) | exact jj_pM hn (jj_two (by assumption)).1 | exact jj_pM hn (jj_two (by assumption)).2 | decide | omega) ?_
  refine rr_iload_n 2 rfl rfl dX10_becomes_3 ?_
  refine rr_icmp_ne dX10_becomes_4 (fun c1 => ?_) (fun c1 => ?_)
  · skip
    refine rr_aload_n 0 rfl rfl dX10_becomes_9 ?_
    refine rr_iload_n 1 rfl rfl dX10_becomes_10 ?_
    refine rr_iload_n 2 rfl rfl dX10_becomes_11 ?_
    refine rr_iastore dX10_becomes_12 lo_497 sh_497 (by first | assumption | exact jj_pM hn (by assumption) | exact jj_pM hn (jj_two (by assumption)).1 | exact jj_pM hn (jj_two (by assumption)).2 | decide | omega) ?_
    rw [jj_rs_set0 (B := h) (o := 497) (r := (h 497)) rfl]
    refine rr_iconst 1 rfl dX10_becomes_13 ?_
    refine rr_nreturn dX10_becomes_14 rfl (by first | rfl | assumption) ?_
    simpa only [vX10_becomes_t, rX10_becomes_t_497, if_neg c1] using kq
  · skip
    refine rr_iconst 0 rfl dX10_becomes_7 ?_
    refine rr_nreturn dX10_becomes_8 rfl (by first | rfl | assumption) ?_
    refine jj_Qh (jj_addr (B := h) (o := 497) (r := (h 497)) rfl) ?_
    simpa only [vX10_becomes_t, rX10_becomes_t_497, if_pos c1] using kq
def vX10_does (r8 : Nat → Int32) (r73 : Nat → Int32) (r497 : Nat → Int32) (g64 : Nat → Nat → Int32) (g417 : Nat → Nat → Int32) (n : Nat) (m : Nat) (s : Int32) : Int32 := (if (g417 (s : Int32).toNatClampNeg 0) = 0 then (vX10_ties_n r8 r73 r497 g64 m (g417 (s : Int32).toNatClampNeg 1) (g417 (s : Int32).toNatClampNeg 2) (g417 (s : Int32).toNatClampNeg 0)) else (if (g417 (s : Int32).toNatClampNeg 0) = 1 then (vX10_ties_n r8 r73 r497 g64 m (g417 (s : Int32).toNatClampNeg 1) (g417 (s : Int32).toNatClampNeg 2) (g417 (s : Int32).toNatClampNeg 0)) else (if (g417 (s : Int32).toNatClampNeg 0) = 2 then (if (vX10_becomes_c r497 ((r497 32) ||| (1 <<< ((g417 (s : Int32).toNatClampNeg 1) &&& 31)))) = 0 then 0 else 1) else (if (g417 (s : Int32).toNatClampNeg 0) = 3 then (vX10_becomes_c r497 ((r497 32) &&& ((1 <<< ((g417 (s : Int32).toNatClampNeg 1) &&& 31)) ^^^ ((-1) : Int32)))) else (if (g417 (s : Int32).toNatClampNeg 0) = 4 then (vX10_becomes_t r497 ((8 : Int32) + (g417 (s : Int32).toNatClampNeg 1))) else (if (r497 33) < 900 then 1 else 0))))))
def rX10_does_497 (r8 : Nat → Int32) (r73 : Nat → Int32) (r497 : Nat → Int32) (g64 : Nat → Nat → Int32) (g417 : Nat → Nat → Int32) (n : Nat) (m : Nat) (s : Int32) : Nat → Int32 := (if (g417 (s : Int32).toNatClampNeg 0) = 0 then (rX10_ties_n_497 r8 r73 r497 g64 m (g417 (s : Int32).toNatClampNeg 1) (g417 (s : Int32).toNatClampNeg 2) (g417 (s : Int32).toNatClampNeg 0)) else (if (g417 (s : Int32).toNatClampNeg 0) = 1 then (rX10_ties_n_497 r8 r73 r497 g64 m (g417 (s : Int32).toNatClampNeg 1) (g417 (s : Int32).toNatClampNeg 2) (g417 (s : Int32).toNatClampNeg 0)) else (if (g417 (s : Int32).toNatClampNeg 0) = 2 then (if (vX10_becomes_c r497 ((r497 32) ||| (1 <<< ((g417 (s : Int32).toNatClampNeg 1) &&& 31)))) = 0 then (rX10_becomes_c_497 r497 ((r497 32) ||| (1 <<< ((g417 (s : Int32).toNatClampNeg 1) &&& 31)))) else (upd (rX10_becomes_c_497 r497 ((r497 32) ||| (1 <<< ((g417 (s : Int32).toNatClampNeg 1) &&& 31)))) ((((8 : Int32) + (g417 (s : Int32).toNatClampNeg 1)) : Int32).toNatClampNeg) 0)) else (if (g417 (s : Int32).toNatClampNeg 0) = 3 then (rX10_becomes_c_497 r497 ((r497 32) &&& ((1 <<< ((g417 (s : Int32).toNatClampNeg 1) &&& 31)) ^^^ ((-1) : Int32)))) else (if (g417 (s : Int32).toNatClampNeg 0) = 4 then (rX10_becomes_t_497 r497 ((8 : Int32) + (g417 (s : Int32).toNatClampNeg 1))) else (if (r497 33) < 900 then (rX10_dayEnds_n_497 r497 n) else r497))))))
set_option maxHeartbeats 1000000 in
theorem sp_X10_does {d kc ks : Nat} {h : Nat → Nat → Int32} {g : Nat → Nat → Int64} {Q : jj_Rs → jj_St → Prop} {n : Nat} {m : Nat} {s : Int32} (hs : vp_in s 80) (ha : (jj_gd h 417 80 (s : Int32).toNatClampNeg 0) = 0 ∨ (jj_gd h 417 80 (s : Int32).toNatClampNeg 0) = 1 ∨ (jj_gd h 417 80 (s : Int32).toNatClampNeg 0) = 2 ∨ (jj_gd h 417 80 (s : Int32).toNatClampNeg 0) = 3 ∨ (jj_gd h 417 80 (s : Int32).toNatClampNeg 0) = 4 → vp_in (jj_gd h 417 80 (s : Int32).toNatClampNeg 1) 8) (hb : (jj_gd h 417 80 (s : Int32).toNatClampNeg 0) = 0 ∨ (jj_gd h 417 80 (s : Int32).toNatClampNeg 0) = 1 → vp_in (jj_gd h 417 80 (s : Int32).toNatClampNeg 2) 8) (hT : h 53 0 = nI n) (hn : n ≤ 8) (hM : h 49 17 = nI m) (hm2 : m ≤ 150) (hw : lawok (h 8) (jj_gd h 75 160) m) (kq : ∀ h9, jj_eq [414, 415] h h9 → Q (.inl (some (.int (vX10_does (h 8) (h 73) (h 497) (jj_gd h 64 8) (jj_gd h 417 80) n m s)))) (jj_S, 782, (jj_rs h9 [(497, (rX10_does_497 (h 8) (h 73) (h 497) (jj_gd h 64 8) (jj_gd h 417 80) n m s))]), g)) : jj_R mX10_does (d + 6) kc ks (jj_S, 782, h, g) 0 [(0, .ref 49), (1, .ref 497), (2, .ref (417 + (s : Int32).toNatClampNeg))] [] Q := by
  refine rr_aload_n 2 rfl rfl dX10_does_0 ?_
  refine rr_iconst 1 rfl dX10_does_1 ?_
  refine rr_iaload dX10_does_2 (lr_416 (jj_ink (i := s) hs)) (sr_416 (jj_ink (i := s) hs)) (jj_inL rfl) ?_
  rw [show h (417 + (s : Int32).toNatClampNeg) = jj_gd h 417 80 (s : Int32).toNatClampNeg from (jj_gd_at (jj_ink (i := s) hs))]
  rw [show jj_gd h 417 80 (s : Int32).toNatClampNeg (1 : Int32).toNatClampNeg = jj_gd h 417 80 (s : Int32).toNatClampNeg 1 from rfl]
  refine rr_istore_n [(0, .ref 49), (1, .ref 497), (2, .ref (417 + (s : Int32).toNatClampNeg)), (3, .int ((jj_gd h 417 80) (s : Int32).toNatClampNeg 1))] dX10_does_3 rfl (by decide) rfl ?_
  refine rr_aload_n 2 rfl rfl dX10_does_4 ?_
  refine rr_iconst 0 rfl dX10_does_5 ?_
  refine rr_iaload dX10_does_6 (lr_416 (jj_ink (i := s) hs)) (sr_416 (jj_ink (i := s) hs)) (jj_inL rfl) ?_
  rw [show h (417 + (s : Int32).toNatClampNeg) = jj_gd h 417 80 (s : Int32).toNatClampNeg from (jj_gd_at (jj_ink (i := s) hs))]
  rw [show jj_gd h 417 80 (s : Int32).toNatClampNeg (0 : Int32).toNatClampNeg = jj_gd h 417 80 (s : Int32).toNatClampNeg 0 from rfl]
  by_cases c1 : ((jj_gd h 417 80) (s : Int32).toNatClampNeg 0) = 0
  · skip
    refine rr_tcase (tgt := 40) c1 33 dX10_does_7 (by decide) (by decide) (by decide) (by decide) ?_
    refine rr_aload_n 0 rfl rfl dX10_does_40 ?_
    refine rr_aload_n 1 rfl rfl dX10_does_41 ?_
    refine rr_iload_n 3 rfl rfl dX10_does_42 ?_
    refine rr_aload_n 2 rfl rfl dX10_does_43 ?_
    refine rr_iconst 2 rfl dX10_does_44 ?_
    refine rr_iaload dX10_does_45 (lr_416 (jj_ink (i := s) hs)) (sr_416 (jj_ink (i := s) hs)) (jj_inL rfl) ?_
    rw [show h (417 + (s : Int32).toNatClampNeg) = jj_gd h 417 80 (s : Int32).toNatClampNeg from (jj_gd_at (jj_ink (i := s) hs))]
    rw [show jj_gd h 417 80 (s : Int32).toNatClampNeg (2 : Int32).toNatClampNeg = jj_gd h 417 80 (s : Int32).toNatClampNeg 2 from rfl]
    refine rr_aload_n 2 rfl rfl dX10_does_46 ?_
    refine rr_iconst 0 rfl dX10_does_47 ?_
    refine rr_iaload dX10_does_48 (lr_416 (jj_ink (i := s) hs)) (sr_416 (jj_ink (i := s) hs)) (jj_inL rfl) ?_
    rw [show h (417 + (s : Int32).toNatClampNeg) = jj_gd h 417 80 (s : Int32).toNatClampNeg from (jj_gd_at (jj_ink (i := s) hs))]
    rw [show jj_gd h 417 80 (s : Int32).toNatClampNeg (0 : Int32).toNatClampNeg = jj_gd h 417 80 (s : Int32).toNatClampNeg 0 from rfl]
    refine rr_callV (As := [.ref 497, .int ((jj_gd h 417 80) (s : Int32).toNatClampNeg 1), .int ((jj_gd h 417 80) (s : Int32).toNatClampNeg 2), .int ((jj_gd h 417 80) (s : Int32).toNatClampNeg 0)]) (rest := []) (kc2 := 0) (ks2 := 0) dX10_does_49 okX10_ties lX10_280 lo_49 sh_49 rfl rfl (Nat.le_of_ble_eq_true rfl) (Nat.le_of_ble_eq_true rfl) rfl (by omega) (by simp [jj_rk] <;> first | exact Or.inl (lr_416 (jj_ink (i := s) hs))) (by simp [jj_rk] <;> first | exact Or.inl (lr_416 (jj_ink (i := s) hs))) ?_
    refine sp_X10_ties_n (by first | exact ha (Or.inl (by assumption)) | exact ha (Or.inr (Or.inl (by assumption))) | exact ha (Or.inr (Or.inr (Or.inl (by assumption)))) | exact ha (Or.inr (Or.inr (Or.inr (Or.inl (by assumption))))) | exact ha (Or.inr (Or.inr (Or.inr (Or.inr (by assumption))))) | exact hb (Or.inl (by assumption)) | exact hb (Or.inr (by assumption)) | assumption | decide | omega) (by first | exact ha (Or.inl (by assumption)) | exact ha (Or.inr (Or.inl (by assumption))) | exact ha (Or.inr (Or.inr (Or.inl (by assumption)))) | exact ha (Or.inr (Or.inr (Or.inr (Or.inl (by assumption))))) | exact ha (Or.inr (Or.inr (Or.inr (Or.inr (by assumption))))) | exact hb (Or.inl (by assumption)) | exact hb (Or.inr (by assumption)) | assumption | decide | omega) (by first | exact hM | exact (congrFun (jj_eq.rf 49 (by decide)) 17).trans hM | assumption) hm2 (lw_to rfl (show h 8 = h 8 from rfl) hw) (fun h2 e3 => ?_)
    have e4 := jj_lo0 (X := [414, 415]) (jj_eq.rf (X := [414, 415])) e3 (by decide)
    show jj_R _ _ kc ks (jj_S, 782, (jj_rs h2 [(497, (rX10_ties_n_497 (h 8) (h 73) (h 497) (jj_gd h 64 8) m ((jj_gd h 417 80) (s : Int32).toNatClampNeg 1) ((jj_gd h 417 80) (s : Int32).toNatClampNeg 2) ((jj_gd h 417 80) (s : Int32).toNatClampNeg 0)))]), g) 52 [(0, .ref 49), (1, .ref 497), (2, .ref (417 + (s : Int32).toNatClampNeg)), (3, .int ((jj_gd h 417 80) (s : Int32).toNatClampNeg 1))] [.int (vX10_ties_n (h 8) (h 73) (h 497) (jj_gd h 64 8) m ((jj_gd h 417 80) (s : Int32).toNatClampNeg 1) ((jj_gd h 417 80) (s : Int32).toNatClampNeg 2) ((jj_gd h 417 80) (s : Int32).toNatClampNeg 0))] Q
    refine rr_nreturn dX10_does_52 rfl (by first | rfl | ((unfold vX10_ties_n; repeat' split) <;> rfl) | assumption) ?_
    simpa only [vX10_does, rX10_does_497, if_pos c1] using kq h2 e4
  · skip
    by_cases c5 : ((jj_gd h 417 80) (s : Int32).toNatClampNeg 0) = 1
    · skip
      refine rr_tcase (tgt := 40) c5 33 dX10_does_7 (by decide) (by decide) (by decide) (by decide) ?_
      refine rr_aload_n 0 rfl rfl dX10_does_40 ?_
      refine rr_aload_n 1 rfl rfl dX10_does_41 ?_
      refine rr_iload_n 3 rfl rfl dX10_does_42 ?_
      refine rr_aload_n 2 rfl rfl dX10_does_43 ?_
      refine rr_iconst 2 rfl dX10_does_44 ?_
      refine rr_iaload dX10_does_45 (lr_416 (jj_ink (i := s) hs)) (sr_416 (jj_ink (i := s) hs)) (jj_inL rfl) ?_
      rw [show h (417 + (s : Int32).toNatClampNeg) = jj_gd h 417 80 (s : Int32).toNatClampNeg from (jj_gd_at (jj_ink (i := s) hs))]
      rw [show jj_gd h 417 80 (s : Int32).toNatClampNeg (2 : Int32).toNatClampNeg = jj_gd h 417 80 (s : Int32).toNatClampNeg 2 from rfl]
      refine rr_aload_n 2 rfl rfl dX10_does_46 ?_
      refine rr_iconst 0 rfl dX10_does_47 ?_
      refine rr_iaload dX10_does_48 (lr_416 (jj_ink (i := s) hs)) (sr_416 (jj_ink (i := s) hs)) (jj_inL rfl) ?_
      rw [show h (417 + (s : Int32).toNatClampNeg) = jj_gd h 417 80 (s : Int32).toNatClampNeg from (jj_gd_at (jj_ink (i := s) hs))]
      rw [show jj_gd h 417 80 (s : Int32).toNatClampNeg (0 : Int32).toNatClampNeg = jj_gd h 417 80 (s : Int32).toNatClampNeg 0 from rfl]
      refine rr_callV (As := [.ref 497, .int ((jj_gd h 417 80) (s : Int32).toNatClampNeg 1), .int ((jj_gd h 417 80) (s : Int32).toNatClampNeg 2), .int ((jj_gd h 417 80) (s : Int32).toNatClampNeg 0)]) (rest := []) (kc2 := 0) (ks2 := 0) dX10_does_49 okX10_ties lX10_280 lo_49 sh_49 rfl rfl (Nat.le_of_ble_eq_true rfl) (Nat.le_of_ble_eq_true rfl) rfl (by omega) (by simp [jj_rk] <;> first | exact Or.inl (lr_416 (jj_ink (i := s) hs))) (by simp [jj_rk] <;> first | exact Or.inl (lr_416 (jj_ink (i := s) hs))) ?_
      refine sp_X10_ties_n (by first | exact ha (Or.inl (by assumption)) | exact ha (Or.inr (Or.inl (by assumption))) | exact ha (Or.inr (Or.inr (Or.inl (by assumption)))) | exact ha (Or.inr (Or.inr (Or.inr (Or.inl (by assumption))))) | exact ha (Or.inr (Or.inr (Or.inr (Or.inr (by assumption))))) | exact hb (Or.inl (by assumption)) | exact hb (Or.inr (by assumption)) | assumption | decide | omega) (by first | exact ha (Or.inl (by assumption)) | exact ha (Or.inr (Or.inl (by assumption))) | exact ha (Or.inr (Or.inr (Or.inl (by assumption)))) | exact ha (Or.inr (Or.inr (Or.inr (Or.inl (by assumption))))) | exact ha (Or.inr (Or.inr (Or.inr (Or.inr (by assumption))))) | exact hb (Or.inl (by assumption)) | exact hb (Or.inr (by assumption)) | assumption | decide | omega) (by first | exact hM | exact (congrFun (jj_eq.rf 49 (by decide)) 17).trans hM | assumption) hm2 (lw_to rfl (show h 8 = h 8 from rfl) hw) (fun h6 e7 => ?_)
      have e8 := jj_lo0 (X := [414, 415]) (jj_eq.rf (X := [414, 415])) e7 (by decide)
      show jj_R _ _ kc ks (jj_S, 782, (jj_rs h6 [(497, (rX10_ties_n_497 (h 8) (h 73) (h 497) (jj_gd h 64 8) m ((jj_gd h 417 80) (s : Int32).toNatClampNeg 1) ((jj_gd h 417 80) (s : Int32).toNatClampNeg 2) ((jj_gd h 417 80) (s : Int32).toNatClampNeg 0)))]), g) 52 [(0, .ref 49), (1, .ref 497), (2, .ref (417 + (s : Int32).toNatClampNeg)), (3, .int ((jj_gd h 417 80) (s : Int32).toNatClampNeg 1))] [.int (vX10_ties_n (h 8) (h 73) (h 497) (jj_gd h 64 8) m ((jj_gd h 417 80) (s : Int32).toNatClampNeg 1) ((jj_gd h 417 80) (s : Int32).toNatClampNeg 2) ((jj_gd h 417 80) (s : Int32).toNatClampNeg 0))] Q
      refine rr_nreturn dX10_does_52 rfl (by first | rfl | ((unfold vX10_ties_n; repeat' split) <;> rfl) | assumption) ?_
      simpa only [vX10_does, rX10_does_497, if_neg c1, if_pos c5] using kq h6 e8
    · skip
      by_cases c9 : ((jj_gd h 417 80) (s : Int32).toNatClampNeg 0) = 2
      · skip
        refine rr_tcase (tgt := 53) c9 46 dX10_does_7 (by decide) (by decide) (by decide) (by decide) ?_
        refine rr_aload_n 1 rfl rfl dX10_does_53 ?_
        refine rr_bipush 32 rfl dX10_does_54 ?_
        refine rr_aload_n 1 rfl rfl dX10_does_56 ?_
        refine rr_bipush 32 rfl dX10_does_57 ?_
        refine rr_iaload dX10_does_59 lo_497 sh_497 (jj_inL rfl) ?_
        rw [show (h 497) (32 : Int32).toNatClampNeg = (h 497) 32 from rfl]
        refine rr_iconst 1 rfl dX10_does_60 ?_
        refine rr_iload_n 3 rfl rfl dX10_does_61 ?_
        refine rr_ishl dX10_does_62 ?_
        refine rr_ior dX10_does_63 ?_
        refine rr_callS (As := [.ref 497, .int 32, .int (((h 497) 32) ||| (1 <<< (((jj_gd h 417 80) (s : Int32).toNatClampNeg 1) &&& 31)))]) (rest := []) (kc2 := 0) (ks2 := 0) dX10_does_64 okX10_becomes lX10_284 rfl (Nat.le_of_ble_eq_true rfl) (Nat.le_of_ble_eq_true rfl) rfl (by omega) (by simp [jj_rk] <;> first | exact Or.inl (lr_416 (jj_ink (i := s) hs))) (by simp [jj_rk] <;> first | exact Or.inl (lr_416 (jj_ink (i := s) hs))) ?_
        refine sp_X10_becomes_c  ?_
        show jj_R _ _ kc ks (jj_S, 782, (jj_rs h [(497, (rX10_becomes_c_497 (h 497) (((h 497) 32) ||| (1 <<< (((jj_gd h 417 80) (s : Int32).toNatClampNeg 1) &&& 31)))))]), g) 67 [(0, .ref 49), (1, .ref 497), (2, .ref (417 + (s : Int32).toNatClampNeg)), (3, .int ((jj_gd h 417 80) (s : Int32).toNatClampNeg 1))] [.int (vX10_becomes_c (h 497) (((h 497) 32) ||| (1 <<< (((jj_gd h 417 80) (s : Int32).toNatClampNeg 1) &&& 31))))] Q
        refine rr_if_ne dX10_does_67 (fun c10 => ?_) (fun c10 => ?_)
        · skip
          refine rr_aload_n 1 rfl rfl dX10_does_72 ?_
          refine rr_bipush 8 rfl dX10_does_73 ?_
          refine rr_iload_n 3 rfl rfl dX10_does_75 ?_
          refine rr_iadd dX10_does_76 ?_
          refine rr_iconst 0 rfl dX10_does_77 ?_
          refine rr_iastore dX10_does_78 lo_497 sh_497 (jj_rowin (n := 8) (o := 8) (by first | exact ha (Or.inl (by assumption)) | exact ha (Or.inr (Or.inl (by assumption))) | exact ha (Or.inr (Or.inr (Or.inl (by assumption)))) | exact ha (Or.inr (Or.inr (Or.inr (Or.inl (by assumption))))) | exact ha (Or.inr (Or.inr (Or.inr (Or.inr (by assumption))))) | exact hb (Or.inl (by assumption)) | exact hb (Or.inr (by assumption)) | assumption | decide | omega) (by decide) (by decide)) ?_
          rw [jj_rs_set (B := h) (L := [(497, (rX10_becomes_c_497 (h 497) (((h 497) 32) ||| (1 <<< (((jj_gd h 417 80) (s : Int32).toNatClampNeg 1) &&& 31)))))]) (L2 := [(497, (upd (rX10_becomes_c_497 (h 497) (((h 497) 32) ||| (1 <<< (((jj_gd h 417 80) (s : Int32).toNatClampNeg 1) &&& 31)))) ((((8 : Int32) + ((jj_gd h 417 80) (s : Int32).toNatClampNeg 1)) : Int32).toNatClampNeg) 0))]) (r := (rX10_becomes_c_497 (h 497) (((h 497) 32) ||| (1 <<< (((jj_gd h 417 80) (s : Int32).toNatClampNeg 1) &&& 31))))) rfl rfl]
          refine rr_iconst 1 rfl dX10_does_79 ?_
          refine rr_nreturn dX10_does_80 rfl (by first | rfl | assumption) ?_
          simpa only [vX10_does, rX10_does_497, if_neg c1, if_neg c5, if_pos c9, if_neg c10] using kq h jj_eq.rf
        · skip
          refine rr_iconst 0 rfl dX10_does_70 ?_
          refine rr_nreturn dX10_does_71 rfl (by first | rfl | assumption) ?_
          simpa only [vX10_does, rX10_does_497, if_neg c1, if_neg c5, if_pos c9, if_pos c10] using kq h jj_eq.rf
      · skip
        by_cases c11 : ((jj_gd h 417 80) (s : Int32).toNatClampNeg 0) = 3
        · skip
          refine rr_tcase (tgt := 81) c11 74 dX10_does_7 (by decide) (by decide) (by decide) (by decide) ?_
          refine rr_aload_n 1 rfl rfl dX10_does_81 ?_
          refine rr_bipush 32 rfl dX10_does_82 ?_
          refine rr_aload_n 1 rfl rfl dX10_does_84 ?_
          refine rr_bipush 32 rfl dX10_does_85 ?_
          refine rr_iaload dX10_does_87 lo_497 sh_497 (jj_inL rfl) ?_
          rw [show (h 497) (32 : Int32).toNatClampNeg = (h 497) 32 from rfl]
          refine rr_iconst 1 rfl dX10_does_88 ?_
          refine rr_iload_n 3 rfl rfl dX10_does_89 ?_
          refine rr_ishl dX10_does_90 ?_
          refine rr_iconst (-1) rfl dX10_does_91 ?_
          refine rr_ixor dX10_does_92 ?_
          refine rr_iand dX10_does_93 ?_
          refine rr_callS (As := [.ref 497, .int 32, .int (((h 497) 32) &&& ((1 <<< (((jj_gd h 417 80) (s : Int32).toNatClampNeg 1) &&& 31)) ^^^ ((-1) : Int32)))]) (rest := []) (kc2 := 0) (ks2 := 0) dX10_does_94 okX10_becomes lX10_284 rfl (Nat.le_of_ble_eq_true rfl) (Nat.le_of_ble_eq_true rfl) rfl (by omega) (by simp [jj_rk] <;> first | exact Or.inl (lr_416 (jj_ink (i := s) hs))) (by simp [jj_rk] <;> first | exact Or.inl (lr_416 (jj_ink (i := s) hs))) ?_
          refine sp_X10_becomes_c  ?_
          show jj_R _ _ kc ks (jj_S, 782, (jj_rs h [(497, (rX10_becomes_c_497 (h 497) (((h 497) 32) &&& ((1 <<< (((jj_gd h 417 80) (s : Int32).toNatClampNeg 1) &&& 31)) ^^^ ((-1) : Int32)))))]), g) 97 [(0, .ref 49), (1, .ref 497), (2, .ref (417 + (s : Int32).toNatClampNeg)), (3, .int ((jj_gd h 417 80) (s : Int32).toNatClampNeg 1))] [.int (vX10_becomes_c (h 497) (((h 497) 32) &&& ((1 <<< (((jj_gd h 417 80) (s : Int32).toNatClampNeg 1) &&& 31)) ^^^ ((-1) : Int32))))] Q
          refine rr_nreturn dX10_does_97 rfl (by first | rfl | ((unfold vX10_becomes_c; repeat' split) <;> rfl) | assumption) ?_
          simpa only [vX10_does, rX10_does_497, if_neg c1, if_neg c5, if_neg c9, if_pos c11] using kq h jj_eq.rf
        · skip
          by_cases c12 : ((jj_gd h 417 80) (s : Int32).toNatClampNeg 0) = 4
          · skip
            refine rr_tcase (tgt := 98) c12 91 dX10_does_7 (by decide) (by decide) (by decide) (by decide) ?_
            refine rr_aload_n 1 rfl rfl dX10_does_98 ?_
            refine rr_bipush 8 rfl dX10_does_99 ?_
            refine rr_iload_n 3 rfl rfl dX10_does_101 ?_
            refine rr_iadd dX10_does_102 ?_
            refine rr_iconst 0 rfl dX10_does_103 ?_
            refine rr_callS (As := [.ref 497, .int ((8 : Int32) + ((jj_gd h 417 80) (s : Int32).toNatClampNeg 1)), .int 0]) (rest := []) (kc2 := 0) (ks2 := 0) dX10_does_104 okX10_becomes lX10_284 rfl (Nat.le_of_ble_eq_true rfl) (Nat.le_of_ble_eq_true rfl) rfl (by omega) (by simp [jj_rk] <;> first | exact Or.inl (lr_416 (jj_ink (i := s) hs))) (by simp [jj_rk] <;> first | exact Or.inl (lr_416 (jj_ink (i := s) hs))) ?_
            refine sp_X10_becomes_t (jj_rowin (n := 8) (o := 8) (ha (Or.inr (Or.inr (Or.inr (Or.inr (by assumption)))))) (by decide) (by decide)) ?_
            show jj_R _ _ kc ks (jj_S, 782, (jj_rs h [(497, (rX10_becomes_t_497 (h 497) ((8 : Int32) + ((jj_gd h 417 80) (s : Int32).toNatClampNeg 1))))]), g) 107 [(0, .ref 49), (1, .ref 497), (2, .ref (417 + (s : Int32).toNatClampNeg)), (3, .int ((jj_gd h 417 80) (s : Int32).toNatClampNeg 1))] [.int (vX10_becomes_t (h 497) ((8 : Int32) + ((jj_gd h 417 80) (s : Int32).toNatClampNeg 1)))] Q
            refine rr_nreturn dX10_does_107 rfl (by first | rfl | ((unfold vX10_becomes_t; repeat' split) <;> rfl) | assumption) ?_
            simpa only [vX10_does, rX10_does_497, if_neg c1, if_neg c5, if_neg c9, if_neg c11, if_pos c12] using kq h jj_eq.rf
          · skip
            refine rr_tableOut (tgt := 108) dX10_does_7 (by have q0 := lv_neT c1 (a := 0) rfl; have q1 := lv_neT c5 (a := 1) rfl; have q2 := lv_neT c9 (a := 2) rfl; have q3 := lv_neT c11 (a := 3) rfl; have q4 := lv_neT c12 (a := 4) rfl; omega) (by decide) ?_
            refine rr_aload_n 1 rfl rfl dX10_does_108 ?_
            refine rr_bipush 33 rfl dX10_does_109 ?_
            refine rr_iaload dX10_does_111 lo_497 sh_497 (jj_inL rfl) ?_
            rw [show (h 497) (33 : Int32).toNatClampNeg = (h 497) 33 from rfl]
            refine rr_sipush 900 rfl dX10_does_112 ?_
            refine rr_icmp_lt dX10_does_115 (fun c13 => ?_) (fun c13 => ?_)
            · skip
              refine rr_aload_n 0 rfl rfl dX10_does_120 ?_
              refine rr_aload_n 1 rfl rfl dX10_does_121 ?_
              refine rr_callV (As := [.ref 497]) (rest := []) (kc2 := 0) (ks2 := 0) dX10_does_122 okX10_dayEnds lX10_287 lo_49 sh_49 rfl rfl (Nat.le_of_ble_eq_true rfl) (Nat.le_of_ble_eq_true rfl) rfl (by omega) (by simp [jj_rk] <;> first | exact Or.inl (lr_416 (jj_ink (i := s) hs))) (by simp [jj_rk] <;> first | exact Or.inl (lr_416 (jj_ink (i := s) hs))) ?_
              refine sp_X10_dayEnds_n (by first | exact hT | exact (congrFun (jj_eq.rf 53 (by decide)) 0).trans hT) hn ?_
              show jj_R _ _ kc ks (jj_S, 782, (jj_rs h [(497, (rX10_dayEnds_n_497 (h 497) n))]), g) 125 [(0, .ref 49), (1, .ref 497), (2, .ref (417 + (s : Int32).toNatClampNeg)), (3, .int ((jj_gd h 417 80) (s : Int32).toNatClampNeg 1))] [] Q
              refine rr_iconst 1 rfl dX10_does_125 ?_
              refine rr_nreturn dX10_does_126 rfl (by first | rfl | assumption) ?_
              simpa only [vX10_does, rX10_does_497, if_neg c1, if_neg c5, if_neg c9, if_neg c11, if_neg c12, if_pos c13] using kq h jj_eq.rf
            · skip
              refine rr_iconst 0 rfl dX10_does_118 ?_
              refine rr_nreturn dX10_does_119 rfl (by first | rfl | assumption) ?_
              refine jj_Qh (jj_addr (B := h) (o := 497) (r := (h 497)) rfl) ?_
              simpa only [vX10_does, rX10_does_497, if_neg c1, if_neg c5, if_neg c9, if_neg c11, if_neg c12, if_neg c13] using kq h jj_eq.rf
