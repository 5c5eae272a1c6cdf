def vX6_isCut_n (h : Nat → Nat → Int32) (p : Int32) : Int32 := (if ((h 38 2) &&& (1 <<< (p &&& 31))) = 0 then 0 else 1)
set_option maxHeartbeats 1000000 in
theorem sp_X6_isCut_n {d kc ks : Nat} {h : Nat → Nat → Int32} {g : Nat → Nat → Int64} {Q : jj_Rs → jj_St → Prop} {p : Int32} (kq : Q (.inl (some (.int (vX6_isCut_n h p)))) (jj_S, 782, h, g)) : jj_R mX6_isCut (d + 0) kc ks (jj_S, 782, h, g) 0 [(0, .ref 38), (1, .int p)] [] Q := by
  refine rr_aload_n 0 rfl rfl dX6_isCut_0 ?_
  refine rr_getI dX6_isCut_1 fX6_31 lo_38 sh_38 rfl ?_
  refine rr_iconst 1 rfl dX6_isCut_4 ?_
  refine rr_iload_n 1 rfl rfl dX6_isCut_5 ?_
  refine rr_ishl dX6_isCut_6 ?_
  refine rr_iand dX6_isCut_7 ?_
  refine rr_if_eq dX6_isCut_8 (fun c1 => ?_) (fun c1 => ?_)
  · skip
    refine rr_iconst 0 rfl dX6_isCut_15 ?_
    refine rr_nreturn dX6_isCut_16 rfl (by first | rfl | assumption) ?_
    simpa only [vX6_isCut_n, if_pos c1] using kq
  · skip
    refine rr_iconst 1 rfl dX6_isCut_11 ?_
    refine rr_goto dX6_isCut_12 ?_
    refine rr_nreturn dX6_isCut_16 rfl (by first | rfl | assumption) ?_
    simpa only [vX6_isCut_n, if_neg c1] using kq
def vX6_isLoose_n (h : Nat → Nat → Int32) (p : Int32) : Int32 := (if (h 40 (p : Int32).toNatClampNeg) = 0 then (if (vX6_isCut_n h p) = 0 then 1 else 0) else 0)
set_option maxHeartbeats 1000000 in
theorem sp_X6_isLoose_n {d kc ks : Nat} {h : Nat → Nat → Int32} {g : Nat → Nat → Int64} {Q : jj_Rs → jj_St → Prop} {p : Int32} (hp : vp_in p 8) (kq : Q (.inl (some (.int (vX6_isLoose_n h p)))) (jj_S, 782, h, g)) : jj_R mX6_isLoose (d + 1) kc ks (jj_S, 782, h, g) 0 [(0, .ref 38), (1, .int p)] [] Q := by
  refine rr_aload_n 0 rfl rfl dX6_isLoose_0 ?_
  refine rr_getR dX6_isLoose_1 fX6_15 lo_38 sh_38 rfl ?_
  refine rr_iload_n 1 rfl rfl dX6_isLoose_4 ?_
  refine rr_iaload dX6_isLoose_5 lo_40 sh_40 (by first | assumption | exact of_decide_eq_true rfl | omega) ?_
  refine rr_if_ne dX6_isLoose_6 (fun c1 => ?_) (fun c1 => ?_)
  · skip
    refine rr_iconst 0 rfl dX6_isLoose_21 ?_
    refine rr_nreturn dX6_isLoose_22 rfl (by first | rfl | assumption) ?_
    simpa only [vX6_isLoose_n, if_neg c1] using kq
  · skip
    refine rr_aload_n 0 rfl rfl dX6_isLoose_9 ?_
    refine rr_iload_n 1 rfl rfl dX6_isLoose_10 ?_
    refine rr_callV (As := [.int p]) (rest := []) (kc2 := 0) (ks2 := 0) dX6_isLoose_11 okX6_isCut lX6_34 lo_38 sh_38 rfl rfl (Nat.le_of_ble_eq_true rfl) (Nat.le_of_ble_eq_true rfl) rfl (by omega) (by simp [jj_rk]) (by simp [jj_rk]) ?_
    refine sp_X6_isCut_n  ?_
    show jj_R _ _ _ _ (jj_S, 782, h, g) 14 [(0, .ref 38), (1, .int p)] [.int (vX6_isCut_n h p)] Q
    refine rr_if_ne dX6_isLoose_14 (fun c2 => ?_) (fun c2 => ?_)
    · skip
      refine rr_iconst 0 rfl dX6_isLoose_21 ?_
      refine rr_nreturn dX6_isLoose_22 rfl (by first | rfl | assumption) ?_
      simpa only [vX6_isLoose_n, if_pos c1, if_neg c2] using kq
    · skip
      refine rr_iconst 1 rfl dX6_isLoose_17 ?_
      refine rr_goto dX6_isLoose_18 ?_
      refine rr_nreturn dX6_isLoose_22 rfl (by first | rfl | assumption) ?_
      simpa only [vX6_isLoose_n, if_pos c1, if_pos c2] using kq
def vX6_mayTie_n (h : Nat → Nat → Int32) (a : Int32) (b : Int32) : Int32 := (if (vX6_isLoose_n h b) = 0 then 0 else (if a = b then 1 else (if (h 40 (a : Int32).toNatClampNeg) = 0 then 0 else 1)))
set_option maxHeartbeats 1000000 in
theorem sp_X6_mayTie_n {d kc ks : Nat} {h : Nat → Nat → Int32} {g : Nat → Nat → Int64} {Q : jj_Rs → jj_St → Prop} {a : Int32} {b : Int32} (ha : vp_in a 8) (hb : vp_in b 8) (kq : Q (.inl (some (.int (vX6_mayTie_n h a b)))) (jj_S, 782, h, g)) : jj_R mX6_mayTie (d + 2) kc ks (jj_S, 782, h, g) 0 [(0, .ref 38), (1, .int a), (2, .int b)] [] Q := by
  refine rr_aload_n 0 rfl rfl dX6_mayTie_0 ?_
  refine rr_iload_n 2 rfl rfl dX6_mayTie_1 ?_
  refine rr_callV (As := [.int b]) (rest := []) (kc2 := 0) (ks2 := 0) dX6_mayTie_2 okX6_isLoose lX6_38 lo_38 sh_38 rfl rfl (Nat.le_of_ble_eq_true rfl) (Nat.le_of_ble_eq_true rfl) rfl (by omega) (by simp [jj_rk]) (by simp [jj_rk]) ?_
  refine sp_X6_isLoose_n (by first | assumption | exact of_decide_eq_true rfl | omega) ?_
  show jj_R _ _ _ _ (jj_S, 782, h, g) 5 [(0, .ref 38), (1, .int a), (2, .int b)] [.int (vX6_isLoose_n h b)] Q
  refine rr_if_eq dX6_mayTie_5 (fun c1 => ?_) (fun c1 => ?_)
  · skip
    refine rr_iconst 0 rfl dX6_mayTie_26 ?_
    refine rr_nreturn dX6_mayTie_27 rfl (by first | rfl | assumption) ?_
    simpa only [vX6_mayTie_n, if_pos c1] using kq
  · skip
    refine rr_iload_n 1 rfl rfl dX6_mayTie_8 ?_
    refine rr_iload_n 2 rfl rfl dX6_mayTie_9 ?_
    refine rr_icmp_eq dX6_mayTie_10 (fun c2 => ?_) (fun c2 => ?_)
    · skip
      refine rr_iconst 1 rfl dX6_mayTie_22 ?_
      refine rr_goto dX6_mayTie_23 ?_
      refine rr_nreturn dX6_mayTie_27 rfl (by first | rfl | assumption) ?_
      simpa only [vX6_mayTie_n, if_neg c1, if_pos c2] using kq
    · skip
      refine rr_aload_n 0 rfl rfl dX6_mayTie_13 ?_
      refine rr_getR dX6_mayTie_14 fX6_15 lo_38 sh_38 rfl ?_
      refine rr_iload_n 1 rfl rfl dX6_mayTie_17 ?_
      refine rr_iaload dX6_mayTie_18 lo_40 sh_40 (by first | assumption | exact of_decide_eq_true rfl | omega) ?_
      refine rr_if_eq dX6_mayTie_19 (fun c3 => ?_) (fun c3 => ?_)
      · skip
        refine rr_iconst 0 rfl dX6_mayTie_26 ?_
        refine rr_nreturn dX6_mayTie_27 rfl (by first | rfl | assumption) ?_
        simpa only [vX6_mayTie_n, if_neg c1, if_neg c2, if_pos c3] using kq
      · skip
        refine rr_iconst 1 rfl dX6_mayTie_22 ?_
        refine rr_goto dX6_mayTie_23 ?_
        refine rr_nreturn dX6_mayTie_27 rfl (by first | rfl | assumption) ?_
        simpa only [vX6_mayTie_n, if_neg c1, if_neg c2, if_neg c3] using kq
def vX6_behindOf_n (h : Nat → Nat → Int32) (p : Int32) : Int32 := ((h 38 0) - (h 39 (p : Int32).toNatClampNeg))
set_option maxHeartbeats 1000000 in
theorem sp_X6_behindOf_n {d kc ks : Nat} {h : Nat → Nat → Int32} {g : Nat → Nat → Int64} {Q : jj_Rs → jj_St → Prop} {p : Int32} (hp : vp_in p 8) (kq : Q (.inl (some (.int (vX6_behindOf_n h p)))) (jj_S, 782, h, g)) : jj_R mX6_behindOf (d + 0) kc ks (jj_S, 782, h, g) 0 [(0, .ref 38), (1, .int p)] [] Q := by
  refine rr_aload_n 0 rfl rfl dX6_behindOf_0 ?_
  refine rr_getI dX6_behindOf_1 fX6_24 lo_38 sh_38 rfl ?_
  refine rr_aload_n 0 rfl rfl dX6_behindOf_4 ?_
  refine rr_getR dX6_behindOf_5 fX6_9 lo_38 sh_38 rfl ?_
  refine rr_iload_n 1 rfl rfl dX6_behindOf_8 ?_
  refine rr_iaload dX6_behindOf_9 lo_39 sh_39 (by first | assumption | exact of_decide_eq_true rfl | omega) ?_
  refine rr_isub dX6_behindOf_10 ?_
  refine rr_ireturn dX6_behindOf_11 rfl ?_
  simpa only [vX6_behindOf_n] using kq
def vX6_isCut_t (h : Nat → Nat → Int32) (p : Int32) : Int32 := (if ((h 43 2) &&& (1 <<< (p &&& 31))) = 0 then 0 else 1)
set_option maxHeartbeats 1000000 in
theorem sp_X6_isCut_t {d kc ks : Nat} {h : Nat → Nat → Int32} {g : Nat → Nat → Int64} {Q : jj_Rs → jj_St → Prop} {p : Int32} (kq : Q (.inl (some (.int (vX6_isCut_t h p)))) (jj_S, 782, h, g)) : jj_R mX6_isCut (d + 0) kc ks (jj_S, 782, h, g) 0 [(0, .ref 43), (1, .int p)] [] Q := by
  refine rr_aload_n 0 rfl rfl dX6_isCut_0 ?_
  refine rr_getI dX6_isCut_1 fX6_31 lo_43 sh_43 rfl ?_
  refine rr_iconst 1 rfl dX6_isCut_4 ?_
  refine rr_iload_n 1 rfl rfl dX6_isCut_5 ?_
  refine rr_ishl dX6_isCut_6 ?_
  refine rr_iand dX6_isCut_7 ?_
  refine rr_if_eq dX6_isCut_8 (fun c1 => ?_) (fun c1 => ?_)
  · skip
    refine rr_iconst 0 rfl dX6_isCut_15 ?_
    refine rr_nreturn dX6_isCut_16 rfl (by first | rfl | assumption) ?_
    simpa only [vX6_isCut_t, if_pos c1] using kq
  · skip
    refine rr_iconst 1 rfl dX6_isCut_11 ?_
    refine rr_goto dX6_isCut_12 ?_
    refine rr_nreturn dX6_isCut_16 rfl (by first | rfl | assumption) ?_
    simpa only [vX6_isCut_t, if_neg c1] using kq
def vX6_isLoose_t (h : Nat → Nat → Int32) (p : Int32) : Int32 := (if (h 45 (p : Int32).toNatClampNeg) = 0 then (if (vX6_isCut_t h p) = 0 then 1 else 0) else 0)
set_option maxHeartbeats 1000000 in
theorem sp_X6_isLoose_t {d kc ks : Nat} {h : Nat → Nat → Int32} {g : Nat → Nat → Int64} {Q : jj_Rs → jj_St → Prop} {p : Int32} (hp : vp_in p 8) (kq : Q (.inl (some (.int (vX6_isLoose_t h p)))) (jj_S, 782, h, g)) : jj_R mX6_isLoose (d + 1) kc ks (jj_S, 782, h, g) 0 [(0, .ref 43), (1, .int p)] [] Q := by
  refine rr_aload_n 0 rfl rfl dX6_isLoose_0 ?_
  refine rr_getR dX6_isLoose_1 fX6_15 lo_43 sh_43 rfl ?_
  refine rr_iload_n 1 rfl rfl dX6_isLoose_4 ?_
  refine rr_iaload dX6_isLoose_5 lo_45 sh_45 (by first | assumption | exact of_decide_eq_true rfl | omega) ?_
  refine rr_if_ne dX6_isLoose_6 (fun c1 => ?_) (fun c1 => ?_)
  · skip
    refine rr_iconst 0 rfl dX6_isLoose_21 ?_
    refine rr_nreturn dX6_isLoose_22 rfl (by first | rfl | assumption) ?_
    simpa only [vX6_isLoose_t, if_neg c1] using kq
  · skip
    refine rr_aload_n 0 rfl rfl dX6_isLoose_9 ?_
    refine rr_iload_n 1 rfl rfl dX6_isLoose_10 ?_
    refine rr_callV (As := [.int p]) (rest := []) (kc2 := 0) (ks2 := 0) dX6_isLoose_11 okX6_isCut lX6_34 lo_43 sh_43 rfl rfl (Nat.le_of_ble_eq_true rfl) (Nat.le_of_ble_eq_true rfl) rfl (by omega) (by simp [jj_rk]) (by simp [jj_rk]) ?_
    refine sp_X6_isCut_t  ?_
    show jj_R _ _ _ _ (jj_S, 782, h, g) 14 [(0, .ref 43), (1, .int p)] [.int (vX6_isCut_t h p)] Q
    refine rr_if_ne dX6_isLoose_14 (fun c2 => ?_) (fun c2 => ?_)
    · skip
      refine rr_iconst 0 rfl dX6_isLoose_21 ?_
      refine rr_nreturn dX6_isLoose_22 rfl (by first | rfl | assumption) ?_
      simpa only [vX6_isLoose_t, if_pos c1, if_neg c2] using kq
    · skip
      refine rr_iconst 1 rfl dX6_isLoose_17 ?_
      refine rr_goto dX6_isLoose_18 ?_
      refine rr_nreturn dX6_isLoose_22 rfl (by first | rfl | assumption) ?_
      simpa only [vX6_isLoose_t, if_pos c1, if_pos c2] using kq
def vX6_mayTie_t (h : Nat → Nat → Int32) (a : Int32) (b : Int32) : Int32 := (if (vX6_isLoose_t h b) = 0 then 0 else (if a = b then 1 else (if (h 45 (a : Int32).toNatClampNeg) = 0 then 0 else 1)))
set_option maxHeartbeats 1000000 in
theorem sp_X6_mayTie_t {d kc ks : Nat} {h : Nat → Nat → Int32} {g : Nat → Nat → Int64} {Q : jj_Rs → jj_St → Prop} {a : Int32} {b : Int32} (ha : vp_in a 8) (hb : vp_in b 8) (kq : Q (.inl (some (.int (vX6_mayTie_t h a b)))) (jj_S, 782, h, g)) : jj_R mX6_mayTie (d + 2) kc ks (jj_S, 782, h, g) 0 [(0, .ref 43), (1, .int a), (2, .int b)] [] Q := by
  refine rr_aload_n 0 rfl rfl dX6_mayTie_0 ?_
  refine rr_iload_n 2 rfl rfl dX6_mayTie_1 ?_
  refine rr_callV (As := [.int b]) (rest := []) (kc2 := 0) (ks2 := 0) dX6_mayTie_2 okX6_isLoose lX6_38 lo_43 sh_43 rfl rfl (Nat.le_of_ble_eq_true rfl) (Nat.le_of_ble_eq_true rfl) rfl (by omega) (by simp [jj_rk]) (by simp [jj_rk]) ?_
  refine sp_X6_isLoose_t (by first | assumption | exact of_decide_eq_true rfl | omega) ?_
  show jj_R _ _ _ _ (jj_S, 782, h, g) 5 [(0, .ref 43), (1, .int a), (2, .int b)] [.int (vX6_isLoose_t h b)] Q
  refine rr_if_eq dX6_mayTie_5 (fun c1 => ?_) (fun c1 => ?_)
  · skip
    refine rr_iconst 0 rfl dX6_mayTie_26 ?_
    refine rr_nreturn dX6_mayTie_27 rfl (by first | rfl | assumption) ?_
    simpa only [vX6_mayTie_t, if_pos c1] using kq
  · skip
    refine rr_iload_n 1 rfl rfl dX6_mayTie_8 ?_
    refine rr_iload_n 2 rfl rfl dX6_mayTie_9 ?_
    refine rr_icmp_eq dX6_mayTie_10 (fun c2 => ?_) (fun c2 => ?_)
    · skip
      refine rr_iconst 1 rfl dX6_mayTie_22 ?_
      refine rr_goto dX6_mayTie_23 ?_
      refine rr_nreturn dX6_mayTie_27 rfl (by first | rfl | assumption) ?_
      simpa only [vX6_mayTie_t, if_neg c1, if_pos c2] using kq
    · skip
      refine rr_aload_n 0 rfl rfl dX6_mayTie_13 ?_
      refine rr_getR dX6_mayTie_14 fX6_15 lo_43 sh_43 rfl ?_
      refine rr_iload_n 1 rfl rfl dX6_mayTie_17 ?_
      refine rr_iaload dX6_mayTie_18 lo_45 sh_45 (by first | assumption | exact of_decide_eq_true rfl | omega) ?_
      refine rr_if_eq dX6_mayTie_19 (fun c3 => ?_) (fun c3 => ?_)
      · skip
        refine rr_iconst 0 rfl dX6_mayTie_26 ?_
        refine rr_nreturn dX6_mayTie_27 rfl (by first | rfl | assumption) ?_
        simpa only [vX6_mayTie_t, if_neg c1, if_neg c2, if_pos c3] using kq
      · skip
        refine rr_iconst 1 rfl dX6_mayTie_22 ?_
        refine rr_goto dX6_mayTie_23 ?_
        refine rr_nreturn dX6_mayTie_27 rfl (by first | rfl | assumption) ?_
        simpa only [vX6_mayTie_t, if_neg c1, if_neg c2, if_neg c3] using kq
def vX6_behindOf_t (h : Nat → Nat → Int32) (p : Int32) : Int32 := ((h 43 0) - (h 44 (p : Int32).toNatClampNeg))
set_option maxHeartbeats 1000000 in
theorem sp_X6_behindOf_t {d kc ks : Nat} {h : Nat → Nat → Int32} {g : Nat → Nat → Int64} {Q : jj_Rs → jj_St → Prop} {p : Int32} (hp : vp_in p 8) (kq : Q (.inl (some (.int (vX6_behindOf_t h p)))) (jj_S, 782, h, g)) : jj_R mX6_behindOf (d + 0) kc ks (jj_S, 782, h, g) 0 [(0, .ref 43), (1, .int p)] [] Q := by
  refine rr_aload_n 0 rfl rfl dX6_behindOf_0 ?_
  refine rr_getI dX6_behindOf_1 fX6_24 lo_43 sh_43 rfl ?_
  refine rr_aload_n 0 rfl rfl dX6_behindOf_4 ?_
  refine rr_getR dX6_behindOf_5 fX6_9 lo_43 sh_43 rfl ?_
  refine rr_iload_n 1 rfl rfl dX6_behindOf_8 ?_
  refine rr_iaload dX6_behindOf_9 lo_44 sh_44 (by first | assumption | exact of_decide_eq_true rfl | omega) ?_
  refine rr_isub dX6_behindOf_10 ?_
  refine rr_ireturn dX6_behindOf_11 rfl ?_
  simpa only [vX6_behindOf_t] using kq
