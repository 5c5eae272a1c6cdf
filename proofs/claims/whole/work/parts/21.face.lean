theorem jj_nIc {x : Int32} (c : ¬ x < 0) : x = nI x.toNatClampNeg := by
  rw [Int32.lt_iff_toInt_lt] at c
  simp at c
  have h1 := x.toInt_lt
  apply Int32.toInt_inj.mp
  rw [nI_toInt (by rw [Int32.toNatClampNeg]; omega), Int32.toNatClampNeg]
  omega
theorem jj_nle {x : Int32} {b : Nat} (hb : b < 2 ^ 31) (c : ¬ nI b < x) : x.toNatClampNeg ≤ b := by
  rw [Int32.lt_iff_toInt_lt, nI_toInt hb] at c
  rw [Int32.toNatClampNeg]
  omega
def rX9_letDaysPass_43 (r38 : Nat → Int32) (r39 : Nat → Int32) (r40 : Nat → Int32) (r41 : Nat → Int32) (r42 : Nat → Int32) (r43 : Nat → Int32) (r44 : Nat → Int32) (r45 : Nat → Int32) (r46 : Nat → Int32) (r47 : Nat → Int32) (n : Nat) (q : Nat) : Nat → Int32 := (jj_fo (fun k1 (a1 : (Nat → Int32) × (Nat → Int32) × (Nat → Int32) × (Nat → Int32) × (Nat → Int32)) => ((rX6_passDay_t_43 a1.1 a1.2.1 a1.2.2.1 n), (rX6_passDay_t_44 a1.1 a1.2.1 a1.2.2.1 n), (rX6_passDay_t_45 a1.1 a1.2.1 a1.2.2.1 n), a1.2.2.2.1, a1.2.2.2.2)) q ((rX6_copyFrom_43 r38 r39 r40 r41 r42 r43 r44 r45 r46 r47), (rX6_copyFrom_44 r38 r39 r40 r41 r42 r43 r44 r45 r46 r47), (rX6_copyFrom_45 r38 r39 r40 r41 r42 r43 r44 r45 r46 r47), (rX6_copyFrom_46 r38 r39 r40 r41 r42 r43 r44 r45 r46 r47), (rX6_copyFrom_47 r38 r39 r40 r41 r42 r43 r44 r45 r46 r47))).1
def rX9_letDaysPass_44 (r38 : Nat → Int32) (r39 : Nat → Int32) (r40 : Nat → Int32) (r41 : Nat → Int32) (r42 : Nat → Int32) (r43 : Nat → Int32) (r44 : Nat → Int32) (r45 : Nat → Int32) (r46 : Nat → Int32) (r47 : Nat → Int32) (n : Nat) (q : Nat) : Nat → Int32 := (jj_fo (fun k1 (a1 : (Nat → Int32) × (Nat → Int32) × (Nat → Int32) × (Nat → Int32) × (Nat → Int32)) => ((rX6_passDay_t_43 a1.1 a1.2.1 a1.2.2.1 n), (rX6_passDay_t_44 a1.1 a1.2.1 a1.2.2.1 n), (rX6_passDay_t_45 a1.1 a1.2.1 a1.2.2.1 n), a1.2.2.2.1, a1.2.2.2.2)) q ((rX6_copyFrom_43 r38 r39 r40 r41 r42 r43 r44 r45 r46 r47), (rX6_copyFrom_44 r38 r39 r40 r41 r42 r43 r44 r45 r46 r47), (rX6_copyFrom_45 r38 r39 r40 r41 r42 r43 r44 r45 r46 r47), (rX6_copyFrom_46 r38 r39 r40 r41 r42 r43 r44 r45 r46 r47), (rX6_copyFrom_47 r38 r39 r40 r41 r42 r43 r44 r45 r46 r47))).2.1
def rX9_letDaysPass_45 (r38 : Nat → Int32) (r39 : Nat → Int32) (r40 : Nat → Int32) (r41 : Nat → Int32) (r42 : Nat → Int32) (r43 : Nat → Int32) (r44 : Nat → Int32) (r45 : Nat → Int32) (r46 : Nat → Int32) (r47 : Nat → Int32) (n : Nat) (q : Nat) : Nat → Int32 := (jj_fo (fun k1 (a1 : (Nat → Int32) × (Nat → Int32) × (Nat → Int32) × (Nat → Int32) × (Nat → Int32)) => ((rX6_passDay_t_43 a1.1 a1.2.1 a1.2.2.1 n), (rX6_passDay_t_44 a1.1 a1.2.1 a1.2.2.1 n), (rX6_passDay_t_45 a1.1 a1.2.1 a1.2.2.1 n), a1.2.2.2.1, a1.2.2.2.2)) q ((rX6_copyFrom_43 r38 r39 r40 r41 r42 r43 r44 r45 r46 r47), (rX6_copyFrom_44 r38 r39 r40 r41 r42 r43 r44 r45 r46 r47), (rX6_copyFrom_45 r38 r39 r40 r41 r42 r43 r44 r45 r46 r47), (rX6_copyFrom_46 r38 r39 r40 r41 r42 r43 r44 r45 r46 r47), (rX6_copyFrom_47 r38 r39 r40 r41 r42 r43 r44 r45 r46 r47))).2.2.1
def rX9_letDaysPass_46 (r38 : Nat → Int32) (r39 : Nat → Int32) (r40 : Nat → Int32) (r41 : Nat → Int32) (r42 : Nat → Int32) (r43 : Nat → Int32) (r44 : Nat → Int32) (r45 : Nat → Int32) (r46 : Nat → Int32) (r47 : Nat → Int32) (n : Nat) (q : Nat) : Nat → Int32 := (jj_fo (fun k1 (a1 : (Nat → Int32) × (Nat → Int32) × (Nat → Int32) × (Nat → Int32) × (Nat → Int32)) => ((rX6_passDay_t_43 a1.1 a1.2.1 a1.2.2.1 n), (rX6_passDay_t_44 a1.1 a1.2.1 a1.2.2.1 n), (rX6_passDay_t_45 a1.1 a1.2.1 a1.2.2.1 n), a1.2.2.2.1, a1.2.2.2.2)) q ((rX6_copyFrom_43 r38 r39 r40 r41 r42 r43 r44 r45 r46 r47), (rX6_copyFrom_44 r38 r39 r40 r41 r42 r43 r44 r45 r46 r47), (rX6_copyFrom_45 r38 r39 r40 r41 r42 r43 r44 r45 r46 r47), (rX6_copyFrom_46 r38 r39 r40 r41 r42 r43 r44 r45 r46 r47), (rX6_copyFrom_47 r38 r39 r40 r41 r42 r43 r44 r45 r46 r47))).2.2.2.1
def rX9_letDaysPass_47 (r38 : Nat → Int32) (r39 : Nat → Int32) (r40 : Nat → Int32) (r41 : Nat → Int32) (r42 : Nat → Int32) (r43 : Nat → Int32) (r44 : Nat → Int32) (r45 : Nat → Int32) (r46 : Nat → Int32) (r47 : Nat → Int32) (n : Nat) (q : Nat) : Nat → Int32 := (jj_fo (fun k1 (a1 : (Nat → Int32) × (Nat → Int32) × (Nat → Int32) × (Nat → Int32) × (Nat → Int32)) => ((rX6_passDay_t_43 a1.1 a1.2.1 a1.2.2.1 n), (rX6_passDay_t_44 a1.1 a1.2.1 a1.2.2.1 n), (rX6_passDay_t_45 a1.1 a1.2.1 a1.2.2.1 n), a1.2.2.2.1, a1.2.2.2.2)) q ((rX6_copyFrom_43 r38 r39 r40 r41 r42 r43 r44 r45 r46 r47), (rX6_copyFrom_44 r38 r39 r40 r41 r42 r43 r44 r45 r46 r47), (rX6_copyFrom_45 r38 r39 r40 r41 r42 r43 r44 r45 r46 r47), (rX6_copyFrom_46 r38 r39 r40 r41 r42 r43 r44 r45 r46 r47), (rX6_copyFrom_47 r38 r39 r40 r41 r42 r43 r44 r45 r46 r47))).2.2.2.2
set_option maxHeartbeats 1000000 in
theorem sp_X9_letDaysPass {d kc ks : Nat} {h : Nat → Nat → Int32} {g : Nat → Nat → Int64} {Q : jj_Rs → jj_St → Prop} {n : Nat} {q : Nat} {q_ : Int32} (hq_ : q_ = nI q) (hP : h 1 0 = nI n) (hn : n ≤ 8) (hq : q ≤ 99) (kq : Q (.inl none) (jj_S, 782, (jj_rs h [(43, (rX9_letDaysPass_43 (h 38) (h 39) (h 40) (h 41) (h 42) (h 43) (h 44) (h 45) (h 46) (h 47) n q)), (44, (rX9_letDaysPass_44 (h 38) (h 39) (h 40) (h 41) (h 42) (h 43) (h 44) (h 45) (h 46) (h 47) n q)), (45, (rX9_letDaysPass_45 (h 38) (h 39) (h 40) (h 41) (h 42) (h 43) (h 44) (h 45) (h 46) (h 47) n q)), (46, (rX9_letDaysPass_46 (h 38) (h 39) (h 40) (h 41) (h 42) (h 43) (h 44) (h 45) (h 46) (h 47) n q)), (47, (rX9_letDaysPass_47 (h 38) (h 39) (h 40) (h 41) (h 42) (h 43) (h 44) (h 45) (h 46) (h 47) n q))]), g)) : jj_R mX9_letDaysPass (d + 2) kc ks (jj_S, 782, h, g) 0 [(0, .ref 0), (1, .int q_)] [] Q := by
  subst hq_
  refine rr_aload_n 0 rfl rfl dX9_letDaysPass_0 ?_
  refine rr_getR dX9_letDaysPass_1 fX9_84 lo_0 sh_0 rfl ?_
  refine rr_aload_n 0 rfl rfl dX9_letDaysPass_4 ?_
  refine rr_getR dX9_letDaysPass_5 fX9_80 lo_0 sh_0 rfl ?_
  refine rr_callV (As := [.ref 38]) (rest := []) (kc2 := 0) (ks2 := 0) dX9_letDaysPass_8 okX6_copyFrom lX9_257 lo_43 sh_43 rfl rfl (Nat.le_of_ble_eq_true rfl) (Nat.le_of_ble_eq_true rfl) rfl (by omega) (by simp [jj_rk]) (by simp [jj_rk]) ?_
  refine sp_X6_copyFrom  ?_
  show jj_R _ _ kc ks (jj_S, 782, (jj_rs h [(43, (rX6_copyFrom_43 (h 38) (h 39) (h 40) (h 41) (h 42) (h 43) (h 44) (h 45) (h 46) (h 47))), (44, (rX6_copyFrom_44 (h 38) (h 39) (h 40) (h 41) (h 42) (h 43) (h 44) (h 45) (h 46) (h 47))), (45, (rX6_copyFrom_45 (h 38) (h 39) (h 40) (h 41) (h 42) (h 43) (h 44) (h 45) (h 46) (h 47))), (46, (rX6_copyFrom_46 (h 38) (h 39) (h 40) (h 41) (h 42) (h 43) (h 44) (h 45) (h 46) (h 47))), (47, (rX6_copyFrom_47 (h 38) (h 39) (h 40) (h 41) (h 42) (h 43) (h 44) (h 45) (h 46) (h 47)))]), g) 11 [(0, .ref 0), (1, .int (nI q))] [] Q
  refine rr_iconst 0 rfl dX9_letDaysPass_11 ?_
  refine rr_istore_n [(0, .ref 0), (1, .int (nI q)), (2, .int 0)] dX9_letDaysPass_12 rfl (by decide) rfl ?_
  refine jj_for (fun k1 (a1 : (Nat → Int32) × (Nat → Int32) × (Nat → Int32) × (Nat → Int32) × (Nat → Int32)) => jj_R _ _ kc ks (jj_S, 782, (jj_rs h [(43, a1.1), (44, a1.2.1), (45, a1.2.2.1), (46, a1.2.2.2.1), (47, a1.2.2.2.2)]), g) 13 [(0, .ref 0), (1, .int (nI q)), (2, .int (nI k1))] [] Q) (fun k1 (a1 : (Nat → Int32) × (Nat → Int32) × (Nat → Int32) × (Nat → Int32) × (Nat → Int32)) => ((rX6_passDay_t_43 a1.1 a1.2.1 a1.2.2.1 n), (rX6_passDay_t_44 a1.1 a1.2.1 a1.2.2.1 n), (rX6_passDay_t_45 a1.1 a1.2.1 a1.2.2.1 n), a1.2.2.2.1, a1.2.2.2.2)) q ((rX6_copyFrom_43 (h 38) (h 39) (h 40) (h 41) (h 42) (h 43) (h 44) (h 45) (h 46) (h 47)), (rX6_copyFrom_44 (h 38) (h 39) (h 40) (h 41) (h 42) (h 43) (h 44) (h 45) (h 46) (h 47)), (rX6_copyFrom_45 (h 38) (h 39) (h 40) (h 41) (h 42) (h 43) (h 44) (h 45) (h 46) (h 47)), (rX6_copyFrom_46 (h 38) (h 39) (h 40) (h 41) (h 42) (h 43) (h 44) (h 45) (h 46) (h 47)), (rX6_copyFrom_47 (h 38) (h 39) (h 40) (h 41) (h 42) (h 43) (h 44) (h 45) (h 46) (h 47))) ?_ ?_
  · intro k1 hk1 ih1
    generalize jj_fo _ k1 _ = a1 at ih1 ⊢
    try dsimp only at ih1 ⊢
    refine rr_iload_n 2 rfl rfl dX9_letDaysPass_13 ?_
    refine rr_iload_n 1 rfl rfl dX9_letDaysPass_14 ?_
    refine rr_icmp_ge dX9_letDaysPass_15 (fun c => absurd c (nI_ge (a := k1) (b := q) (by omega) (by omega))) (fun _ => ?_)
    refine rr_aload_n 0 rfl rfl dX9_letDaysPass_18 ?_
    refine rr_getR dX9_letDaysPass_19 fX9_84 lo_0 sh_0 rfl ?_
    refine rr_aload_n 0 rfl rfl dX9_letDaysPass_22 ?_
    refine rr_getR dX9_letDaysPass_23 fX9_27 lo_0 sh_0 rfl ?_
    refine rr_getI dX9_letDaysPass_26 fX9_132 lo_1 sh_1 rfl ?_
    rw [show (jj_rs h [(43, a1.1), (44, a1.2.1), (45, a1.2.2.1), (46, a1.2.2.2.1), (47, a1.2.2.2.2)]) 1 = h 1 from rfl]
    rw [hP]
    refine rr_callV (As := [.int (nI n)]) (rest := []) (kc2 := 0) (ks2 := 0) dX9_letDaysPass_29 okX6_passDay lX9_263 lo_43 sh_43 rfl rfl (Nat.le_of_ble_eq_true rfl) (Nat.le_of_ble_eq_true rfl) rfl (by omega) (by simp [jj_rk]) (by simp [jj_rk]) ?_
    refine sp_X6_passDay_t (by first | assumption | (rw [show (jj_rs h [(43, a1.1), (44, a1.2.1), (45, a1.2.2.1), (46, a1.2.2.2.1), (47, a1.2.2.2.2)]) 7 = h 7 from rfl]; assumption) | (rw [show (jj_rs h [(43, a1.1), (44, a1.2.1), (45, a1.2.2.1), (46, a1.2.2.2.1), (47, a1.2.2.2.2)]) 1 = h 1 from rfl]; assumption) | exact jj_pers hP hn (by assumption) | exact vp_in_nI (by omega) (by decide) | decide | omega) ?_
    show jj_R _ _ kc ks (jj_S, 782, (jj_rs (jj_rs h [(43, a1.1), (44, a1.2.1), (45, a1.2.2.1), (46, a1.2.2.2.1), (47, a1.2.2.2.2)]) [(43, (rX6_passDay_t_43 a1.1 a1.2.1 a1.2.2.1 n)), (44, (rX6_passDay_t_44 a1.1 a1.2.1 a1.2.2.1 n)), (45, (rX6_passDay_t_45 a1.1 a1.2.1 a1.2.2.1 n))]), g) 32 [(0, .ref 0), (1, .int (nI q)), (2, .int (nI k1))] [] Q
    rw [jj_rs_rs (B := h) (L := [(43, a1.1), (44, a1.2.1), (45, a1.2.2.1), (46, a1.2.2.2.1), (47, a1.2.2.2.2)]) (M := [(43, (rX6_passDay_t_43 a1.1 a1.2.1 a1.2.2.1 n)), (44, (rX6_passDay_t_44 a1.1 a1.2.1 a1.2.2.1 n)), (45, (rX6_passDay_t_45 a1.1 a1.2.1 a1.2.2.1 n))]) (L2 := [(43, (rX6_passDay_t_43 a1.1 a1.2.1 a1.2.2.1 n)), (44, (rX6_passDay_t_44 a1.1 a1.2.1 a1.2.2.1 n)), (45, (rX6_passDay_t_45 a1.1 a1.2.1 a1.2.2.1 n)), (46, a1.2.2.2.1), (47, a1.2.2.2.2)]) rfl]
    refine rr_iinc 2 1 [(0, .ref 0), (1, .int (nI q)), (2, .int ((nI k1) + 1))] dX9_letDaysPass_32 rfl rfl (by decide) rfl ?_
    refine rr_goto dX9_letDaysPass_35 ?_
    simpa only [nI_1, (nI_clamp (show k1 < 2 ^ 31 by omega))] using ih1
  · try dsimp only
    refine rr_iload_n 2 rfl rfl dX9_letDaysPass_13 ?_
    refine rr_iload_n 1 rfl rfl dX9_letDaysPass_14 ?_
    refine rr_icmp_ge dX9_letDaysPass_15 (fun _ => ?_) (fun c => absurd (jj_le_rf _) c)
    refine rr_return dX9_letDaysPass_38 rfl ?_
    simpa only [rX9_letDaysPass_43, rX9_letDaysPass_44, rX9_letDaysPass_45, rX9_letDaysPass_46, rX9_letDaysPass_47] using kq
def vX9_ahead (r0 : Nat → Int32) (r38 : Nat → Int32) (r39 : Nat → Int32) (r40 : Nat → Int32) (r41 : Nat → Int32) (r42 : Nat → Int32) (r43 : Nat → Int32) (r44 : Nat → Int32) (r45 : Nat → Int32) (r46 : Nat → Int32) (r47 : Nat → Int32) (n : Nat) (q : Int32) (w : Int32) : jj_Rs := (if q < 0 then (.inr "java/lang/IllegalArgumentException") else (if 99 < q then (.inr "java/lang/IllegalArgumentException") else (if w < 0 then (.inr "java/lang/IllegalArgumentException") else (if 2 < w then (.inr "java/lang/IllegalArgumentException") else (if w = 0 then (.inl (some (.int (vX6_behindTogether_t (rX9_letDaysPass_43 r38 r39 r40 r41 r42 r43 r44 r45 r46 r47 n ((q : Int32).toNatClampNeg)) (rX9_letDaysPass_44 r38 r39 r40 r41 r42 r43 r44 r45 r46 r47 n ((q : Int32).toNatClampNeg)) n)))) else (if w = 1 then (.inl (some (.int (vX6_behindBits_t (rX9_letDaysPass_43 r38 r39 r40 r41 r42 r43 r44 r45 r46 r47 n ((q : Int32).toNatClampNeg)) (rX9_letDaysPass_44 r38 r39 r40 r41 r42 r43 r44 r45 r46 r47 n ((q : Int32).toNatClampNeg)) n)))) else (.inl (some (.int (vX6_tiedBits_t (rX9_letDaysPass_45 r38 r39 r40 r41 r42 r43 r44 r45 r46 r47 n ((q : Int32).toNatClampNeg)) n 1))))))))))
def rX9_ahead_0 (r0 : Nat → Int32) (r38 : Nat → Int32) (r39 : Nat → Int32) (r40 : Nat → Int32) (r41 : Nat → Int32) (r42 : Nat → Int32) (r43 : Nat → Int32) (r44 : Nat → Int32) (r45 : Nat → Int32) (r46 : Nat → Int32) (r47 : Nat → Int32) (n : Nat) (q : Int32) (w : Int32) : Nat → Int32 := (if q < 0 then (upd r0 14 (r0 14 + 1)) else (if 99 < q then (upd r0 14 (r0 14 + 1)) else (if w < 0 then (upd r0 14 (r0 14 + 1)) else (if 2 < w then (upd r0 14 (r0 14 + 1)) else r0))))
def rX9_ahead_43 (r0 : Nat → Int32) (r38 : Nat → Int32) (r39 : Nat → Int32) (r40 : Nat → Int32) (r41 : Nat → Int32) (r42 : Nat → Int32) (r43 : Nat → Int32) (r44 : Nat → Int32) (r45 : Nat → Int32) (r46 : Nat → Int32) (r47 : Nat → Int32) (n : Nat) (q : Int32) (w : Int32) : Nat → Int32 := (if q < 0 then r43 else (if 99 < q then r43 else (if w < 0 then r43 else (if 2 < w then r43 else (rX9_letDaysPass_43 r38 r39 r40 r41 r42 r43 r44 r45 r46 r47 n ((q : Int32).toNatClampNeg))))))
def rX9_ahead_44 (r0 : Nat → Int32) (r38 : Nat → Int32) (r39 : Nat → Int32) (r40 : Nat → Int32) (r41 : Nat → Int32) (r42 : Nat → Int32) (r43 : Nat → Int32) (r44 : Nat → Int32) (r45 : Nat → Int32) (r46 : Nat → Int32) (r47 : Nat → Int32) (n : Nat) (q : Int32) (w : Int32) : Nat → Int32 := (if q < 0 then r44 else (if 99 < q then r44 else (if w < 0 then r44 else (if 2 < w then r44 else (rX9_letDaysPass_44 r38 r39 r40 r41 r42 r43 r44 r45 r46 r47 n ((q : Int32).toNatClampNeg))))))
def rX9_ahead_45 (r0 : Nat → Int32) (r38 : Nat → Int32) (r39 : Nat → Int32) (r40 : Nat → Int32) (r41 : Nat → Int32) (r42 : Nat → Int32) (r43 : Nat → Int32) (r44 : Nat → Int32) (r45 : Nat → Int32) (r46 : Nat → Int32) (r47 : Nat → Int32) (n : Nat) (q : Int32) (w : Int32) : Nat → Int32 := (if q < 0 then r45 else (if 99 < q then r45 else (if w < 0 then r45 else (if 2 < w then r45 else (rX9_letDaysPass_45 r38 r39 r40 r41 r42 r43 r44 r45 r46 r47 n ((q : Int32).toNatClampNeg))))))
def rX9_ahead_46 (r0 : Nat → Int32) (r38 : Nat → Int32) (r39 : Nat → Int32) (r40 : Nat → Int32) (r41 : Nat → Int32) (r42 : Nat → Int32) (r43 : Nat → Int32) (r44 : Nat → Int32) (r45 : Nat → Int32) (r46 : Nat → Int32) (r47 : Nat → Int32) (n : Nat) (q : Int32) (w : Int32) : Nat → Int32 := (if q < 0 then r46 else (if 99 < q then r46 else (if w < 0 then r46 else (if 2 < w then r46 else (rX9_letDaysPass_46 r38 r39 r40 r41 r42 r43 r44 r45 r46 r47 n ((q : Int32).toNatClampNeg))))))
def rX9_ahead_47 (r0 : Nat → Int32) (r38 : Nat → Int32) (r39 : Nat → Int32) (r40 : Nat → Int32) (r41 : Nat → Int32) (r42 : Nat → Int32) (r43 : Nat → Int32) (r44 : Nat → Int32) (r45 : Nat → Int32) (r46 : Nat → Int32) (r47 : Nat → Int32) (n : Nat) (q : Int32) (w : Int32) : Nat → Int32 := (if q < 0 then r47 else (if 99 < q then r47 else (if w < 0 then r47 else (if 2 < w then r47 else (rX9_letDaysPass_47 r38 r39 r40 r41 r42 r43 r44 r45 r46 r47 n ((q : Int32).toNatClampNeg))))))
set_option maxHeartbeats 1000000 in
theorem sp_X9_ahead {d kc ks : Nat} {h : Nat → Nat → Int32} {g : Nat → Nat → Int64} {Q : jj_Rs → jj_St → Prop} {n : Nat} {q : Int32} {w : Int32} (hP : h 1 0 = nI n) (hn : n ≤ 8) (kq : Q (vX9_ahead (h 0) (h 38) (h 39) (h 40) (h 41) (h 42) (h 43) (h 44) (h 45) (h 46) (h 47) n q w) (jj_S, 782, (jj_rs h [(0, (rX9_ahead_0 (h 0) (h 38) (h 39) (h 40) (h 41) (h 42) (h 43) (h 44) (h 45) (h 46) (h 47) n q w)), (43, (rX9_ahead_43 (h 0) (h 38) (h 39) (h 40) (h 41) (h 42) (h 43) (h 44) (h 45) (h 46) (h 47) n q w)), (44, (rX9_ahead_44 (h 0) (h 38) (h 39) (h 40) (h 41) (h 42) (h 43) (h 44) (h 45) (h 46) (h 47) n q w)), (45, (rX9_ahead_45 (h 0) (h 38) (h 39) (h 40) (h 41) (h 42) (h 43) (h 44) (h 45) (h 46) (h 47) n q w)), (46, (rX9_ahead_46 (h 0) (h 38) (h 39) (h 40) (h 41) (h 42) (h 43) (h 44) (h 45) (h 46) (h 47) n q w)), (47, (rX9_ahead_47 (h 0) (h 38) (h 39) (h 40) (h 41) (h 42) (h 43) (h 44) (h 45) (h 46) (h 47) n q w))]), g)) : jj_R mX9_ahead (d + 7) (kc + 1) (ks + 6) (jj_S, 782, h, g) 0 [(0, .ref 0), (1, .int q), (2, .int w)] [] Q := by
  refine rr_aload_n 0 rfl rfl dX9_ahead_0 ?_
  refine rr_iload_n 1 rfl rfl dX9_ahead_1 ?_
  refine rr_if_lt dX9_ahead_2 (fun c1 => ?_) (fun c1 => ?_)
  · skip
    refine rr_iconst 0 rfl dX9_ahead_24 ?_
    refine rr_callV (As := [.int 0]) (rest := []) (kc2 := 1) (ks2 := 6) dX9_ahead_25 okX9_require lX9_103 lo_0 sh_0 rfl rfl (Nat.le_of_ble_eq_true rfl) (Nat.le_of_ble_eq_true rfl) rfl (by omega) (by simp [jj_rk]) (by simp [jj_rk]) ?_
    refine sp_X9_require  (fun c => absurd rfl c) (fun _ => ?_)
    show Q (.inr "java/lang/IllegalArgumentException") (jj_S, 782, (jj_rs h [(0, (upd (h 0) 14 ((h 0) 14 + 1)))]), g)
    refine jj_Qh (jj_rs_add (B := h) (L := [(0, (upd (h 0) 14 ((h 0) 14 + 1)))]) (L2 := [(0, (upd (h 0) 14 ((h 0) 14 + 1))), (43, (h 43))]) (o := 43) (r := (h 43)) rfl rfl) ?_
    refine jj_Qh (jj_rs_add (B := h) (L := [(0, (upd (h 0) 14 ((h 0) 14 + 1))), (43, (h 43))]) (L2 := [(0, (upd (h 0) 14 ((h 0) 14 + 1))), (43, (h 43)), (44, (h 44))]) (o := 44) (r := (h 44)) rfl rfl) ?_
    refine jj_Qh (jj_rs_add (B := h) (L := [(0, (upd (h 0) 14 ((h 0) 14 + 1))), (43, (h 43)), (44, (h 44))]) (L2 := [(0, (upd (h 0) 14 ((h 0) 14 + 1))), (43, (h 43)), (44, (h 44)), (45, (h 45))]) (o := 45) (r := (h 45)) rfl rfl) ?_
    refine jj_Qh (jj_rs_add (B := h) (L := [(0, (upd (h 0) 14 ((h 0) 14 + 1))), (43, (h 43)), (44, (h 44)), (45, (h 45))]) (L2 := [(0, (upd (h 0) 14 ((h 0) 14 + 1))), (43, (h 43)), (44, (h 44)), (45, (h 45)), (46, (h 46))]) (o := 46) (r := (h 46)) rfl rfl) ?_
    refine jj_Qh (jj_rs_add (B := h) (L := [(0, (upd (h 0) 14 ((h 0) 14 + 1))), (43, (h 43)), (44, (h 44)), (45, (h 45)), (46, (h 46))]) (L2 := [(0, (upd (h 0) 14 ((h 0) 14 + 1))), (43, (h 43)), (44, (h 44)), (45, (h 45)), (46, (h 46)), (47, (h 47))]) (o := 47) (r := (h 47)) rfl rfl) ?_
    simpa only [vX9_ahead, rX9_ahead_0, rX9_ahead_43, rX9_ahead_44, rX9_ahead_45, rX9_ahead_46, rX9_ahead_47, if_pos c1] using kq
  · skip
    refine rr_iload_n 1 rfl rfl dX9_ahead_5 ?_
    refine rr_bipush 99 rfl dX9_ahead_6 ?_
    refine rr_icmp_gt dX9_ahead_8 (fun c3 => ?_) (fun c3 => ?_)
    · skip
      refine rr_iconst 0 rfl dX9_ahead_24 ?_
      refine rr_callV (As := [.int 0]) (rest := []) (kc2 := 1) (ks2 := 6) dX9_ahead_25 okX9_require lX9_103 lo_0 sh_0 rfl rfl (Nat.le_of_ble_eq_true rfl) (Nat.le_of_ble_eq_true rfl) rfl (by omega) (by simp [jj_rk]) (by simp [jj_rk]) ?_
      refine sp_X9_require  (fun c => absurd rfl c) (fun _ => ?_)
      show Q (.inr "java/lang/IllegalArgumentException") (jj_S, 782, (jj_rs h [(0, (upd (h 0) 14 ((h 0) 14 + 1)))]), g)
      refine jj_Qh (jj_rs_add (B := h) (L := [(0, (upd (h 0) 14 ((h 0) 14 + 1)))]) (L2 := [(0, (upd (h 0) 14 ((h 0) 14 + 1))), (43, (h 43))]) (o := 43) (r := (h 43)) rfl rfl) ?_
      refine jj_Qh (jj_rs_add (B := h) (L := [(0, (upd (h 0) 14 ((h 0) 14 + 1))), (43, (h 43))]) (L2 := [(0, (upd (h 0) 14 ((h 0) 14 + 1))), (43, (h 43)), (44, (h 44))]) (o := 44) (r := (h 44)) rfl rfl) ?_
      refine jj_Qh (jj_rs_add (B := h) (L := [(0, (upd (h 0) 14 ((h 0) 14 + 1))), (43, (h 43)), (44, (h 44))]) (L2 := [(0, (upd (h 0) 14 ((h 0) 14 + 1))), (43, (h 43)), (44, (h 44)), (45, (h 45))]) (o := 45) (r := (h 45)) rfl rfl) ?_
      refine jj_Qh (jj_rs_add (B := h) (L := [(0, (upd (h 0) 14 ((h 0) 14 + 1))), (43, (h 43)), (44, (h 44)), (45, (h 45))]) (L2 := [(0, (upd (h 0) 14 ((h 0) 14 + 1))), (43, (h 43)), (44, (h 44)), (45, (h 45)), (46, (h 46))]) (o := 46) (r := (h 46)) rfl rfl) ?_
      refine jj_Qh (jj_rs_add (B := h) (L := [(0, (upd (h 0) 14 ((h 0) 14 + 1))), (43, (h 43)), (44, (h 44)), (45, (h 45)), (46, (h 46))]) (L2 := [(0, (upd (h 0) 14 ((h 0) 14 + 1))), (43, (h 43)), (44, (h 44)), (45, (h 45)), (46, (h 46)), (47, (h 47))]) (o := 47) (r := (h 47)) rfl rfl) ?_
      simpa only [vX9_ahead, rX9_ahead_0, rX9_ahead_43, rX9_ahead_44, rX9_ahead_45, rX9_ahead_46, rX9_ahead_47, if_neg c1, if_pos c3] using kq
    · skip
      refine rr_iload_n 2 rfl rfl dX9_ahead_11 ?_
      refine rr_if_lt dX9_ahead_12 (fun c5 => ?_) (fun c5 => ?_)
      · skip
        refine rr_iconst 0 rfl dX9_ahead_24 ?_
        refine rr_callV (As := [.int 0]) (rest := []) (kc2 := 1) (ks2 := 6) dX9_ahead_25 okX9_require lX9_103 lo_0 sh_0 rfl rfl (Nat.le_of_ble_eq_true rfl) (Nat.le_of_ble_eq_true rfl) rfl (by omega) (by simp [jj_rk]) (by simp [jj_rk]) ?_
        refine sp_X9_require  (fun c => absurd rfl c) (fun _ => ?_)
        show Q (.inr "java/lang/IllegalArgumentException") (jj_S, 782, (jj_rs h [(0, (upd (h 0) 14 ((h 0) 14 + 1)))]), g)
        refine jj_Qh (jj_rs_add (B := h) (L := [(0, (upd (h 0) 14 ((h 0) 14 + 1)))]) (L2 := [(0, (upd (h 0) 14 ((h 0) 14 + 1))), (43, (h 43))]) (o := 43) (r := (h 43)) rfl rfl) ?_
        refine jj_Qh (jj_rs_add (B := h) (L := [(0, (upd (h 0) 14 ((h 0) 14 + 1))), (43, (h 43))]) (L2 := [(0, (upd (h 0) 14 ((h 0) 14 + 1))), (43, (h 43)), (44, (h 44))]) (o := 44) (r := (h 44)) rfl rfl) ?_
        refine jj_Qh (jj_rs_add (B := h) (L := [(0, (upd (h 0) 14 ((h 0) 14 + 1))), (43, (h 43)), (44, (h 44))]) (L2 := [(0, (upd (h 0) 14 ((h 0) 14 + 1))), (43, (h 43)), (44, (h 44)), (45, (h 45))]) (o := 45) (r := (h 45)) rfl rfl) ?_
        refine jj_Qh (jj_rs_add (B := h) (L := [(0, (upd (h 0) 14 ((h 0) 14 + 1))), (43, (h 43)), (44, (h 44)), (45, (h 45))]) (L2 := [(0, (upd (h 0) 14 ((h 0) 14 + 1))), (43, (h 43)), (44, (h 44)), (45, (h 45)), (46, (h 46))]) (o := 46) (r := (h 46)) rfl rfl) ?_
        refine jj_Qh (jj_rs_add (B := h) (L := [(0, (upd (h 0) 14 ((h 0) 14 + 1))), (43, (h 43)), (44, (h 44)), (45, (h 45)), (46, (h 46))]) (L2 := [(0, (upd (h 0) 14 ((h 0) 14 + 1))), (43, (h 43)), (44, (h 44)), (45, (h 45)), (46, (h 46)), (47, (h 47))]) (o := 47) (r := (h 47)) rfl rfl) ?_
        simpa only [vX9_ahead, rX9_ahead_0, rX9_ahead_43, rX9_ahead_44, rX9_ahead_45, rX9_ahead_46, rX9_ahead_47, if_neg c1, if_neg c3, if_pos c5] using kq
      · skip
        refine rr_iload_n 2 rfl rfl dX9_ahead_15 ?_
        refine rr_iconst 2 rfl dX9_ahead_16 ?_
        refine rr_icmp_gt dX9_ahead_17 (fun c7 => ?_) (fun c7 => ?_)
        · skip
          refine rr_iconst 0 rfl dX9_ahead_24 ?_
          refine rr_callV (As := [.int 0]) (rest := []) (kc2 := 1) (ks2 := 6) dX9_ahead_25 okX9_require lX9_103 lo_0 sh_0 rfl rfl (Nat.le_of_ble_eq_true rfl) (Nat.le_of_ble_eq_true rfl) rfl (by omega) (by simp [jj_rk]) (by simp [jj_rk]) ?_
          refine sp_X9_require  (fun c => absurd rfl c) (fun _ => ?_)
          show Q (.inr "java/lang/IllegalArgumentException") (jj_S, 782, (jj_rs h [(0, (upd (h 0) 14 ((h 0) 14 + 1)))]), g)
          refine jj_Qh (jj_rs_add (B := h) (L := [(0, (upd (h 0) 14 ((h 0) 14 + 1)))]) (L2 := [(0, (upd (h 0) 14 ((h 0) 14 + 1))), (43, (h 43))]) (o := 43) (r := (h 43)) rfl rfl) ?_
          refine jj_Qh (jj_rs_add (B := h) (L := [(0, (upd (h 0) 14 ((h 0) 14 + 1))), (43, (h 43))]) (L2 := [(0, (upd (h 0) 14 ((h 0) 14 + 1))), (43, (h 43)), (44, (h 44))]) (o := 44) (r := (h 44)) rfl rfl) ?_
          refine jj_Qh (jj_rs_add (B := h) (L := [(0, (upd (h 0) 14 ((h 0) 14 + 1))), (43, (h 43)), (44, (h 44))]) (L2 := [(0, (upd (h 0) 14 ((h 0) 14 + 1))), (43, (h 43)), (44, (h 44)), (45, (h 45))]) (o := 45) (r := (h 45)) rfl rfl) ?_
          refine jj_Qh (jj_rs_add (B := h) (L := [(0, (upd (h 0) 14 ((h 0) 14 + 1))), (43, (h 43)), (44, (h 44)), (45, (h 45))]) (L2 := [(0, (upd (h 0) 14 ((h 0) 14 + 1))), (43, (h 43)), (44, (h 44)), (45, (h 45)), (46, (h 46))]) (o := 46) (r := (h 46)) rfl rfl) ?_
          refine jj_Qh (jj_rs_add (B := h) (L := [(0, (upd (h 0) 14 ((h 0) 14 + 1))), (43, (h 43)), (44, (h 44)), (45, (h 45)), (46, (h 46))]) (L2 := [(0, (upd (h 0) 14 ((h 0) 14 + 1))), (43, (h 43)), (44, (h 44)), (45, (h 45)), (46, (h 46)), (47, (h 47))]) (o := 47) (r := (h 47)) rfl rfl) ?_
          simpa only [vX9_ahead, rX9_ahead_0, rX9_ahead_43, rX9_ahead_44, rX9_ahead_45, rX9_ahead_46, rX9_ahead_47, if_neg c1, if_neg c3, if_neg c5, if_pos c7] using kq
        · skip
          refine rr_iconst 1 rfl dX9_ahead_20 ?_
          refine rr_goto dX9_ahead_21 ?_
          refine rr_callV (As := [.int 1]) (rest := []) (kc2 := 1) (ks2 := 6) dX9_ahead_25 okX9_require lX9_103 lo_0 sh_0 rfl rfl (Nat.le_of_ble_eq_true rfl) (Nat.le_of_ble_eq_true rfl) rfl (by omega) (by simp [jj_rk]) (by simp [jj_rk]) ?_
          refine sp_X9_require  (fun _ => ?_) (fun c => absurd c (by decide))
          show jj_R _ _ kc ks (jj_S, 782, h, g) 28 [(0, .ref 0), (1, .int q), (2, .int w)] [] Q
          refine rr_aload_n 0 rfl rfl dX9_ahead_28 ?_
          refine rr_iload_n 1 rfl rfl dX9_ahead_29 ?_
          refine rr_callV (As := [.int q]) (rest := []) (kc2 := 0) (ks2 := 0) dX9_ahead_30 okX9_letDaysPass lX9_254 lo_0 sh_0 rfl rfl (Nat.le_of_ble_eq_true rfl) (Nat.le_of_ble_eq_true rfl) rfl (by omega) (by simp [jj_rk]) (by simp [jj_rk]) ?_
          refine sp_X9_letDaysPass (q := (q : Int32).toNatClampNeg) (jj_nIc (by first | assumption | exact (jj_wk (by assumption)).1)) (by first | assumption | exact jj_pers hP hn (by assumption) | exact vp_in_nI (by omega) (by decide) | decide | omega) (by first | assumption | exact jj_pers hP hn (by assumption) | exact vp_in_nI (by omega) (by decide) | decide | omega) (jj_nle (b := 99) (by decide) (by assumption)) ?_
          show jj_R _ _ kc ks (jj_S, 782, (jj_rs h [(43, (rX9_letDaysPass_43 (h 38) (h 39) (h 40) (h 41) (h 42) (h 43) (h 44) (h 45) (h 46) (h 47) n ((q : Int32).toNatClampNeg))), (44, (rX9_letDaysPass_44 (h 38) (h 39) (h 40) (h 41) (h 42) (h 43) (h 44) (h 45) (h 46) (h 47) n ((q : Int32).toNatClampNeg))), (45, (rX9_letDaysPass_45 (h 38) (h 39) (h 40) (h 41) (h 42) (h 43) (h 44) (h 45) (h 46) (h 47) n ((q : Int32).toNatClampNeg))), (46, (rX9_letDaysPass_46 (h 38) (h 39) (h 40) (h 41) (h 42) (h 43) (h 44) (h 45) (h 46) (h 47) n ((q : Int32).toNatClampNeg))), (47, (rX9_letDaysPass_47 (h 38) (h 39) (h 40) (h 41) (h 42) (h 43) (h 44) (h 45) (h 46) (h 47) n ((q : Int32).toNatClampNeg)))]), g) 33 [(0, .ref 0), (1, .int q), (2, .int w)] [] Q
          refine rr_iload_n 2 rfl rfl dX9_ahead_33 ?_
          by_cases c10 : w = 0
          · skip
            refine rr_lcase (tgt := 60) (off := 26) c10 dX9_ahead_34 (by decide) (by decide) (by decide) ?_
            refine rr_aload_n 0 rfl rfl dX9_ahead_60 ?_
            refine rr_getR dX9_ahead_61 fX9_84 lo_0 sh_0 rfl ?_
            refine rr_aload_n 0 rfl rfl dX9_ahead_64 ?_
            refine rr_getR dX9_ahead_65 fX9_27 lo_0 sh_0 rfl ?_
            refine rr_getI dX9_ahead_68 fX9_132 lo_1 sh_1 rfl ?_
            rw [show (jj_rs h [(43, (rX9_letDaysPass_43 (h 38) (h 39) (h 40) (h 41) (h 42) (h 43) (h 44) (h 45) (h 46) (h 47) n ((q : Int32).toNatClampNeg))), (44, (rX9_letDaysPass_44 (h 38) (h 39) (h 40) (h 41) (h 42) (h 43) (h 44) (h 45) (h 46) (h 47) n ((q : Int32).toNatClampNeg))), (45, (rX9_letDaysPass_45 (h 38) (h 39) (h 40) (h 41) (h 42) (h 43) (h 44) (h 45) (h 46) (h 47) n ((q : Int32).toNatClampNeg))), (46, (rX9_letDaysPass_46 (h 38) (h 39) (h 40) (h 41) (h 42) (h 43) (h 44) (h 45) (h 46) (h 47) n ((q : Int32).toNatClampNeg))), (47, (rX9_letDaysPass_47 (h 38) (h 39) (h 40) (h 41) (h 42) (h 43) (h 44) (h 45) (h 46) (h 47) n ((q : Int32).toNatClampNeg)))]) 1 = h 1 from rfl]
            rw [hP]
            refine rr_callV (As := [.int (nI n)]) (rest := []) (kc2 := 0) (ks2 := 0) dX9_ahead_71 okX6_behindTogether lX9_186 lo_43 sh_43 rfl rfl (Nat.le_of_ble_eq_true rfl) (Nat.le_of_ble_eq_true rfl) rfl (by omega) (by simp [jj_rk]) (by simp [jj_rk]) ?_
            refine sp_X6_behindTogether_t (by first | assumption | (rw [show (jj_rs h [(43, (rX9_letDaysPass_43 (h 38) (h 39) (h 40) (h 41) (h 42) (h 43) (h 44) (h 45) (h 46) (h 47) n ((q : Int32).toNatClampNeg))), (44, (rX9_letDaysPass_44 (h 38) (h 39) (h 40) (h 41) (h 42) (h 43) (h 44) (h 45) (h 46) (h 47) n ((q : Int32).toNatClampNeg))), (45, (rX9_letDaysPass_45 (h 38) (h 39) (h 40) (h 41) (h 42) (h 43) (h 44) (h 45) (h 46) (h 47) n ((q : Int32).toNatClampNeg))), (46, (rX9_letDaysPass_46 (h 38) (h 39) (h 40) (h 41) (h 42) (h 43) (h 44) (h 45) (h 46) (h 47) n ((q : Int32).toNatClampNeg))), (47, (rX9_letDaysPass_47 (h 38) (h 39) (h 40) (h 41) (h 42) (h 43) (h 44) (h 45) (h 46) (h 47) n ((q : Int32).toNatClampNeg)))]) 7 = h 7 from rfl]; assumption) | (rw [show (jj_rs h [(43, (rX9_letDaysPass_43 (h 38) (h 39) (h 40) (h 41) (h 42) (h 43) (h 44) (h 45) (h 46) (h 47) n ((q : Int32).toNatClampNeg))), (44, (rX9_letDaysPass_44 (h 38) (h 39) (h 40) (h 41) (h 42) (h 43) (h 44) (h 45) (h 46) (h 47) n ((q : Int32).toNatClampNeg))), (45, (rX9_letDaysPass_45 (h 38) (h 39) (h 40) (h 41) (h 42) (h 43) (h 44) (h 45) (h 46) (h 47) n ((q : Int32).toNatClampNeg))), (46, (rX9_letDaysPass_46 (h 38) (h 39) (h 40) (h 41) (h 42) (h 43) (h 44) (h 45) (h 46) (h 47) n ((q : Int32).toNatClampNeg))), (47, (rX9_letDaysPass_47 (h 38) (h 39) (h 40) (h 41) (h 42) (h 43) (h 44) (h 45) (h 46) (h 47) n ((q : Int32).toNatClampNeg)))]) 1 = h 1 from rfl]; assumption) | exact jj_pers hP hn (by assumption) | exact vp_in_nI (by omega) (by decide) | decide | omega) ?_
            show jj_R _ _ kc ks (jj_S, 782, (jj_rs h [(43, (rX9_letDaysPass_43 (h 38) (h 39) (h 40) (h 41) (h 42) (h 43) (h 44) (h 45) (h 46) (h 47) n ((q : Int32).toNatClampNeg))), (44, (rX9_letDaysPass_44 (h 38) (h 39) (h 40) (h 41) (h 42) (h 43) (h 44) (h 45) (h 46) (h 47) n ((q : Int32).toNatClampNeg))), (45, (rX9_letDaysPass_45 (h 38) (h 39) (h 40) (h 41) (h 42) (h 43) (h 44) (h 45) (h 46) (h 47) n ((q : Int32).toNatClampNeg))), (46, (rX9_letDaysPass_46 (h 38) (h 39) (h 40) (h 41) (h 42) (h 43) (h 44) (h 45) (h 46) (h 47) n ((q : Int32).toNatClampNeg))), (47, (rX9_letDaysPass_47 (h 38) (h 39) (h 40) (h 41) (h 42) (h 43) (h 44) (h 45) (h 46) (h 47) n ((q : Int32).toNatClampNeg)))]), g) 74 [(0, .ref 0), (1, .int q), (2, .int w)] [.int (vX6_behindTogether_t (rX9_letDaysPass_43 (h 38) (h 39) (h 40) (h 41) (h 42) (h 43) (h 44) (h 45) (h 46) (h 47) n ((q : Int32).toNatClampNeg)) (rX9_letDaysPass_44 (h 38) (h 39) (h 40) (h 41) (h 42) (h 43) (h 44) (h 45) (h 46) (h 47) n ((q : Int32).toNatClampNeg)) n)] Q
            refine rr_ireturn dX9_ahead_74 rfl ?_
            refine jj_Qh (jj_rs_add (B := h) (L := [(43, (rX9_letDaysPass_43 (h 38) (h 39) (h 40) (h 41) (h 42) (h 43) (h 44) (h 45) (h 46) (h 47) n ((q : Int32).toNatClampNeg))), (44, (rX9_letDaysPass_44 (h 38) (h 39) (h 40) (h 41) (h 42) (h 43) (h 44) (h 45) (h 46) (h 47) n ((q : Int32).toNatClampNeg))), (45, (rX9_letDaysPass_45 (h 38) (h 39) (h 40) (h 41) (h 42) (h 43) (h 44) (h 45) (h 46) (h 47) n ((q : Int32).toNatClampNeg))), (46, (rX9_letDaysPass_46 (h 38) (h 39) (h 40) (h 41) (h 42) (h 43) (h 44) (h 45) (h 46) (h 47) n ((q : Int32).toNatClampNeg))), (47, (rX9_letDaysPass_47 (h 38) (h 39) (h 40) (h 41) (h 42) (h 43) (h 44) (h 45) (h 46) (h 47) n ((q : Int32).toNatClampNeg)))]) (L2 := [(0, (h 0)), (43, (rX9_letDaysPass_43 (h 38) (h 39) (h 40) (h 41) (h 42) (h 43) (h 44) (h 45) (h 46) (h 47) n ((q : Int32).toNatClampNeg))), (44, (rX9_letDaysPass_44 (h 38) (h 39) (h 40) (h 41) (h 42) (h 43) (h 44) (h 45) (h 46) (h 47) n ((q : Int32).toNatClampNeg))), (45, (rX9_letDaysPass_45 (h 38) (h 39) (h 40) (h 41) (h 42) (h 43) (h 44) (h 45) (h 46) (h 47) n ((q : Int32).toNatClampNeg))), (46, (rX9_letDaysPass_46 (h 38) (h 39) (h 40) (h 41) (h 42) (h 43) (h 44) (h 45) (h 46) (h 47) n ((q : Int32).toNatClampNeg))), (47, (rX9_letDaysPass_47 (h 38) (h 39) (h 40) (h 41) (h 42) (h 43) (h 44) (h 45) (h 46) (h 47) n ((q : Int32).toNatClampNeg)))]) (o := 0) (r := (h 0)) rfl rfl) ?_
            simpa only [vX9_ahead, rX9_ahead_0, rX9_ahead_43, rX9_ahead_44, rX9_ahead_45, rX9_ahead_46, rX9_ahead_47, if_neg c1, if_neg c3, if_neg c5, if_neg c7, if_pos c10] using kq
          · skip
            by_cases c11 : w = 1
            · skip
              refine rr_lcase (tgt := 75) (off := 41) c11 dX9_ahead_34 (by decide) (by decide) (by decide) ?_
              refine rr_aload_n 0 rfl rfl dX9_ahead_75 ?_
              refine rr_getR dX9_ahead_76 fX9_84 lo_0 sh_0 rfl ?_
              refine rr_aload_n 0 rfl rfl dX9_ahead_79 ?_
              refine rr_getR dX9_ahead_80 fX9_27 lo_0 sh_0 rfl ?_
              refine rr_getI dX9_ahead_83 fX9_132 lo_1 sh_1 rfl ?_
              rw [show (jj_rs h [(43, (rX9_letDaysPass_43 (h 38) (h 39) (h 40) (h 41) (h 42) (h 43) (h 44) (h 45) (h 46) (h 47) n ((q : Int32).toNatClampNeg))), (44, (rX9_letDaysPass_44 (h 38) (h 39) (h 40) (h 41) (h 42) (h 43) (h 44) (h 45) (h 46) (h 47) n ((q : Int32).toNatClampNeg))), (45, (rX9_letDaysPass_45 (h 38) (h 39) (h 40) (h 41) (h 42) (h 43) (h 44) (h 45) (h 46) (h 47) n ((q : Int32).toNatClampNeg))), (46, (rX9_letDaysPass_46 (h 38) (h 39) (h 40) (h 41) (h 42) (h 43) (h 44) (h 45) (h 46) (h 47) n ((q : Int32).toNatClampNeg))), (47, (rX9_letDaysPass_47 (h 38) (h 39) (h 40) (h 41) (h 42) (h 43) (h 44) (h 45) (h 46) (h 47) n ((q : Int32).toNatClampNeg)))]) 1 = h 1 from rfl]
              rw [hP]
              refine rr_callV (As := [.int (nI n)]) (rest := []) (kc2 := 0) (ks2 := 0) dX9_ahead_86 okX6_behindBits lX9_182 lo_43 sh_43 rfl rfl (Nat.le_of_ble_eq_true rfl) (Nat.le_of_ble_eq_true rfl) rfl (by omega) (by simp [jj_rk]) (by simp [jj_rk]) ?_
              refine sp_X6_behindBits_t (by first | assumption | (rw [show (jj_rs h [(43, (rX9_letDaysPass_43 (h 38) (h 39) (h 40) (h 41) (h 42) (h 43) (h 44) (h 45) (h 46) (h 47) n ((q : Int32).toNatClampNeg))), (44, (rX9_letDaysPass_44 (h 38) (h 39) (h 40) (h 41) (h 42) (h 43) (h 44) (h 45) (h 46) (h 47) n ((q : Int32).toNatClampNeg))), (45, (rX9_letDaysPass_45 (h 38) (h 39) (h 40) (h 41) (h 42) (h 43) (h 44) (h 45) (h 46) (h 47) n ((q : Int32).toNatClampNeg))), (46, (rX9_letDaysPass_46 (h 38) (h 39) (h 40) (h 41) (h 42) (h 43) (h 44) (h 45) (h 46) (h 47) n ((q : Int32).toNatClampNeg))), (47, (rX9_letDaysPass_47 (h 38) (h 39) (h 40) (h 41) (h 42) (h 43) (h 44) (h 45) (h 46) (h 47) n ((q : Int32).toNatClampNeg)))]) 7 = h 7 from rfl]; assumption) | (rw [show (jj_rs h [(43, (rX9_letDaysPass_43 (h 38) (h 39) (h 40) (h 41) (h 42) (h 43) (h 44) (h 45) (h 46) (h 47) n ((q : Int32).toNatClampNeg))), (44, (rX9_letDaysPass_44 (h 38) (h 39) (h 40) (h 41) (h 42) (h 43) (h 44) (h 45) (h 46) (h 47) n ((q : Int32).toNatClampNeg))), (45, (rX9_letDaysPass_45 (h 38) (h 39) (h 40) (h 41) (h 42) (h 43) (h 44) (h 45) (h 46) (h 47) n ((q : Int32).toNatClampNeg))), (46, (rX9_letDaysPass_46 (h 38) (h 39) (h 40) (h 41) (h 42) (h 43) (h 44) (h 45) (h 46) (h 47) n ((q : Int32).toNatClampNeg))), (47, (rX9_letDaysPass_47 (h 38) (h 39) (h 40) (h 41) (h 42) (h 43) (h 44) (h 45) (h 46) (h 47) n ((q : Int32).toNatClampNeg)))]) 1 = h 1 from rfl]; assumption) | exact jj_pers hP hn (by assumption) | exact vp_in_nI (by omega) (by decide) | decide | omega) ?_
              show jj_R _ _ kc ks (jj_S, 782, (jj_rs h [(43, (rX9_letDaysPass_43 (h 38) (h 39) (h 40) (h 41) (h 42) (h 43) (h 44) (h 45) (h 46) (h 47) n ((q : Int32).toNatClampNeg))), (44, (rX9_letDaysPass_44 (h 38) (h 39) (h 40) (h 41) (h 42) (h 43) (h 44) (h 45) (h 46) (h 47) n ((q : Int32).toNatClampNeg))), (45, (rX9_letDaysPass_45 (h 38) (h 39) (h 40) (h 41) (h 42) (h 43) (h 44) (h 45) (h 46) (h 47) n ((q : Int32).toNatClampNeg))), (46, (rX9_letDaysPass_46 (h 38) (h 39) (h 40) (h 41) (h 42) (h 43) (h 44) (h 45) (h 46) (h 47) n ((q : Int32).toNatClampNeg))), (47, (rX9_letDaysPass_47 (h 38) (h 39) (h 40) (h 41) (h 42) (h 43) (h 44) (h 45) (h 46) (h 47) n ((q : Int32).toNatClampNeg)))]), g) 89 [(0, .ref 0), (1, .int q), (2, .int w)] [.int (vX6_behindBits_t (rX9_letDaysPass_43 (h 38) (h 39) (h 40) (h 41) (h 42) (h 43) (h 44) (h 45) (h 46) (h 47) n ((q : Int32).toNatClampNeg)) (rX9_letDaysPass_44 (h 38) (h 39) (h 40) (h 41) (h 42) (h 43) (h 44) (h 45) (h 46) (h 47) n ((q : Int32).toNatClampNeg)) n)] Q
              refine rr_ireturn dX9_ahead_89 rfl ?_
              refine jj_Qh (jj_rs_add (B := h) (L := [(43, (rX9_letDaysPass_43 (h 38) (h 39) (h 40) (h 41) (h 42) (h 43) (h 44) (h 45) (h 46) (h 47) n ((q : Int32).toNatClampNeg))), (44, (rX9_letDaysPass_44 (h 38) (h 39) (h 40) (h 41) (h 42) (h 43) (h 44) (h 45) (h 46) (h 47) n ((q : Int32).toNatClampNeg))), (45, (rX9_letDaysPass_45 (h 38) (h 39) (h 40) (h 41) (h 42) (h 43) (h 44) (h 45) (h 46) (h 47) n ((q : Int32).toNatClampNeg))), (46, (rX9_letDaysPass_46 (h 38) (h 39) (h 40) (h 41) (h 42) (h 43) (h 44) (h 45) (h 46) (h 47) n ((q : Int32).toNatClampNeg))), (47, (rX9_letDaysPass_47 (h 38) (h 39) (h 40) (h 41) (h 42) (h 43) (h 44) (h 45) (h 46) (h 47) n ((q : Int32).toNatClampNeg)))]) (L2 := [(0, (h 0)), (43, (rX9_letDaysPass_43 (h 38) (h 39) (h 40) (h 41) (h 42) (h 43) (h 44) (h 45) (h 46) (h 47) n ((q : Int32).toNatClampNeg))), (44, (rX9_letDaysPass_44 (h 38) (h 39) (h 40) (h 41) (h 42) (h 43) (h 44) (h 45) (h 46) (h 47) n ((q : Int32).toNatClampNeg))), (45, (rX9_letDaysPass_45 (h 38) (h 39) (h 40) (h 41) (h 42) (h 43) (h 44) (h 45) (h 46) (h 47) n ((q : Int32).toNatClampNeg))), (46, (rX9_letDaysPass_46 (h 38) (h 39) (h 40) (h 41) (h 42) (h 43) (h 44) (h 45) (h 46) (h 47) n ((q : Int32).toNatClampNeg))), (47, (rX9_letDaysPass_47 (h 38) (h 39) (h 40) (h 41) (h 42) (h 43) (h 44) (h 45) (h 46) (h 47) n ((q : Int32).toNatClampNeg)))]) (o := 0) (r := (h 0)) rfl rfl) ?_
              simpa only [vX9_ahead, rX9_ahead_0, rX9_ahead_43, rX9_ahead_44, rX9_ahead_45, rX9_ahead_46, rX9_ahead_47, if_neg c1, if_neg c3, if_neg c5, if_neg c7, if_neg c10, if_pos c11] using kq
            · skip
              refine rr_lookup (tgt := 90) (off := 56) dX9_ahead_34 (by decide) (by simp [Op.lookupswitch.offset, lv_neT c10 (a := 0) rfl, Ne.symm (lv_neT c10 (a := 0) rfl), lv_neT c11 (a := 1) rfl, Ne.symm (lv_neT c11 (a := 1) rfl)]) (by decide) ?_
              refine rr_aload_n 0 rfl rfl dX9_ahead_90 ?_
              refine rr_getR dX9_ahead_91 fX9_84 lo_0 sh_0 rfl ?_
              refine rr_aload_n 0 rfl rfl dX9_ahead_94 ?_
              refine rr_getR dX9_ahead_95 fX9_27 lo_0 sh_0 rfl ?_
              refine rr_getI dX9_ahead_98 fX9_132 lo_1 sh_1 rfl ?_
              rw [show (jj_rs h [(43, (rX9_letDaysPass_43 (h 38) (h 39) (h 40) (h 41) (h 42) (h 43) (h 44) (h 45) (h 46) (h 47) n ((q : Int32).toNatClampNeg))), (44, (rX9_letDaysPass_44 (h 38) (h 39) (h 40) (h 41) (h 42) (h 43) (h 44) (h 45) (h 46) (h 47) n ((q : Int32).toNatClampNeg))), (45, (rX9_letDaysPass_45 (h 38) (h 39) (h 40) (h 41) (h 42) (h 43) (h 44) (h 45) (h 46) (h 47) n ((q : Int32).toNatClampNeg))), (46, (rX9_letDaysPass_46 (h 38) (h 39) (h 40) (h 41) (h 42) (h 43) (h 44) (h 45) (h 46) (h 47) n ((q : Int32).toNatClampNeg))), (47, (rX9_letDaysPass_47 (h 38) (h 39) (h 40) (h 41) (h 42) (h 43) (h 44) (h 45) (h 46) (h 47) n ((q : Int32).toNatClampNeg)))]) 1 = h 1 from rfl]
              rw [hP]
              refine rr_iconst 1 rfl dX9_ahead_101 ?_
              refine rr_callV (As := [.int (nI n), .int 1]) (rest := []) (kc2 := 0) (ks2 := 0) dX9_ahead_102 okX6_tiedBits lX9_175 lo_43 sh_43 rfl rfl (Nat.le_of_ble_eq_true rfl) (Nat.le_of_ble_eq_true rfl) rfl (by omega) (by simp [jj_rk]) (by simp [jj_rk]) ?_
              refine sp_X6_tiedBits_t (by first | assumption | (rw [show (jj_rs h [(43, (rX9_letDaysPass_43 (h 38) (h 39) (h 40) (h 41) (h 42) (h 43) (h 44) (h 45) (h 46) (h 47) n ((q : Int32).toNatClampNeg))), (44, (rX9_letDaysPass_44 (h 38) (h 39) (h 40) (h 41) (h 42) (h 43) (h 44) (h 45) (h 46) (h 47) n ((q : Int32).toNatClampNeg))), (45, (rX9_letDaysPass_45 (h 38) (h 39) (h 40) (h 41) (h 42) (h 43) (h 44) (h 45) (h 46) (h 47) n ((q : Int32).toNatClampNeg))), (46, (rX9_letDaysPass_46 (h 38) (h 39) (h 40) (h 41) (h 42) (h 43) (h 44) (h 45) (h 46) (h 47) n ((q : Int32).toNatClampNeg))), (47, (rX9_letDaysPass_47 (h 38) (h 39) (h 40) (h 41) (h 42) (h 43) (h 44) (h 45) (h 46) (h 47) n ((q : Int32).toNatClampNeg)))]) 7 = h 7 from rfl]; assumption) | (rw [show (jj_rs h [(43, (rX9_letDaysPass_43 (h 38) (h 39) (h 40) (h 41) (h 42) (h 43) (h 44) (h 45) (h 46) (h 47) n ((q : Int32).toNatClampNeg))), (44, (rX9_letDaysPass_44 (h 38) (h 39) (h 40) (h 41) (h 42) (h 43) (h 44) (h 45) (h 46) (h 47) n ((q : Int32).toNatClampNeg))), (45, (rX9_letDaysPass_45 (h 38) (h 39) (h 40) (h 41) (h 42) (h 43) (h 44) (h 45) (h 46) (h 47) n ((q : Int32).toNatClampNeg))), (46, (rX9_letDaysPass_46 (h 38) (h 39) (h 40) (h 41) (h 42) (h 43) (h 44) (h 45) (h 46) (h 47) n ((q : Int32).toNatClampNeg))), (47, (rX9_letDaysPass_47 (h 38) (h 39) (h 40) (h 41) (h 42) (h 43) (h 44) (h 45) (h 46) (h 47) n ((q : Int32).toNatClampNeg)))]) 1 = h 1 from rfl]; assumption) | exact jj_pers hP hn (by assumption) | exact vp_in_nI (by omega) (by decide) | decide | omega) ?_
              show jj_R _ _ kc ks (jj_S, 782, (jj_rs h [(43, (rX9_letDaysPass_43 (h 38) (h 39) (h 40) (h 41) (h 42) (h 43) (h 44) (h 45) (h 46) (h 47) n ((q : Int32).toNatClampNeg))), (44, (rX9_letDaysPass_44 (h 38) (h 39) (h 40) (h 41) (h 42) (h 43) (h 44) (h 45) (h 46) (h 47) n ((q : Int32).toNatClampNeg))), (45, (rX9_letDaysPass_45 (h 38) (h 39) (h 40) (h 41) (h 42) (h 43) (h 44) (h 45) (h 46) (h 47) n ((q : Int32).toNatClampNeg))), (46, (rX9_letDaysPass_46 (h 38) (h 39) (h 40) (h 41) (h 42) (h 43) (h 44) (h 45) (h 46) (h 47) n ((q : Int32).toNatClampNeg))), (47, (rX9_letDaysPass_47 (h 38) (h 39) (h 40) (h 41) (h 42) (h 43) (h 44) (h 45) (h 46) (h 47) n ((q : Int32).toNatClampNeg)))]), g) 105 [(0, .ref 0), (1, .int q), (2, .int w)] [.int (vX6_tiedBits_t (rX9_letDaysPass_45 (h 38) (h 39) (h 40) (h 41) (h 42) (h 43) (h 44) (h 45) (h 46) (h 47) n ((q : Int32).toNatClampNeg)) n 1)] Q
              refine rr_ireturn dX9_ahead_105 rfl ?_
              refine jj_Qh (jj_rs_add (B := h) (L := [(43, (rX9_letDaysPass_43 (h 38) (h 39) (h 40) (h 41) (h 42) (h 43) (h 44) (h 45) (h 46) (h 47) n ((q : Int32).toNatClampNeg))), (44, (rX9_letDaysPass_44 (h 38) (h 39) (h 40) (h 41) (h 42) (h 43) (h 44) (h 45) (h 46) (h 47) n ((q : Int32).toNatClampNeg))), (45, (rX9_letDaysPass_45 (h 38) (h 39) (h 40) (h 41) (h 42) (h 43) (h 44) (h 45) (h 46) (h 47) n ((q : Int32).toNatClampNeg))), (46, (rX9_letDaysPass_46 (h 38) (h 39) (h 40) (h 41) (h 42) (h 43) (h 44) (h 45) (h 46) (h 47) n ((q : Int32).toNatClampNeg))), (47, (rX9_letDaysPass_47 (h 38) (h 39) (h 40) (h 41) (h 42) (h 43) (h 44) (h 45) (h 46) (h 47) n ((q : Int32).toNatClampNeg)))]) (L2 := [(0, (h 0)), (43, (rX9_letDaysPass_43 (h 38) (h 39) (h 40) (h 41) (h 42) (h 43) (h 44) (h 45) (h 46) (h 47) n ((q : Int32).toNatClampNeg))), (44, (rX9_letDaysPass_44 (h 38) (h 39) (h 40) (h 41) (h 42) (h 43) (h 44) (h 45) (h 46) (h 47) n ((q : Int32).toNatClampNeg))), (45, (rX9_letDaysPass_45 (h 38) (h 39) (h 40) (h 41) (h 42) (h 43) (h 44) (h 45) (h 46) (h 47) n ((q : Int32).toNatClampNeg))), (46, (rX9_letDaysPass_46 (h 38) (h 39) (h 40) (h 41) (h 42) (h 43) (h 44) (h 45) (h 46) (h 47) n ((q : Int32).toNatClampNeg))), (47, (rX9_letDaysPass_47 (h 38) (h 39) (h 40) (h 41) (h 42) (h 43) (h 44) (h 45) (h 46) (h 47) n ((q : Int32).toNatClampNeg)))]) (o := 0) (r := (h 0)) rfl rfl) ?_
              simpa only [vX9_ahead, rX9_ahead_0, rX9_ahead_43, rX9_ahead_44, rX9_ahead_45, rX9_ahead_46, rX9_ahead_47, if_neg c1, if_neg c3, if_neg c5, if_neg c7, if_neg c10, if_neg c11] using kq
def vX9_later (r0 : Nat → Int32) (r1 : Nat → Int32) (r38 : Nat → Int32) (r39 : Nat → Int32) (r40 : Nat → Int32) (r41 : Nat → Int32) (r42 : Nat → Int32) (r43 : Nat → Int32) (r44 : Nat → Int32) (r45 : Nat → Int32) (r46 : Nat → Int32) (r47 : Nat → Int32) (n : Nat) (p : Int32) (q : Int32) : jj_Rs := (if (vX9_isPerson r1 p) = 0 then (.inr "java/util/NoSuchElementException") else (if q < 0 then (.inr "java/lang/IllegalArgumentException") else (if 99 < q then (.inr "java/lang/IllegalArgumentException") else (.inl (some (.int ((rX9_letDaysPass_44 r38 r39 r40 r41 r42 r43 r44 r45 r46 r47 n ((q : Int32).toNatClampNeg)) (p : Int32).toNatClampNeg)))))))
def rX9_later_0 (r0 : Nat → Int32) (r1 : Nat → Int32) (r38 : Nat → Int32) (r39 : Nat → Int32) (r40 : Nat → Int32) (r41 : Nat → Int32) (r42 : Nat → Int32) (r43 : Nat → Int32) (r44 : Nat → Int32) (r45 : Nat → Int32) (r46 : Nat → Int32) (r47 : Nat → Int32) (n : Nat) (p : Int32) (q : Int32) : Nat → Int32 := (if (vX9_isPerson r1 p) = 0 then (upd r0 13 (r0 13 + 1)) else (if q < 0 then (upd r0 14 (r0 14 + 1)) else (if 99 < q then (upd r0 14 (r0 14 + 1)) else r0)))
def rX9_later_43 (r0 : Nat → Int32) (r1 : Nat → Int32) (r38 : Nat → Int32) (r39 : Nat → Int32) (r40 : Nat → Int32) (r41 : Nat → Int32) (r42 : Nat → Int32) (r43 : Nat → Int32) (r44 : Nat → Int32) (r45 : Nat → Int32) (r46 : Nat → Int32) (r47 : Nat → Int32) (n : Nat) (p : Int32) (q : Int32) : Nat → Int32 := (if (vX9_isPerson r1 p) = 0 then r43 else (if q < 0 then r43 else (if 99 < q then r43 else (rX9_letDaysPass_43 r38 r39 r40 r41 r42 r43 r44 r45 r46 r47 n ((q : Int32).toNatClampNeg)))))
def rX9_later_44 (r0 : Nat → Int32) (r1 : Nat → Int32) (r38 : Nat → Int32) (r39 : Nat → Int32) (r40 : Nat → Int32) (r41 : Nat → Int32) (r42 : Nat → Int32) (r43 : Nat → Int32) (r44 : Nat → Int32) (r45 : Nat → Int32) (r46 : Nat → Int32) (r47 : Nat → Int32) (n : Nat) (p : Int32) (q : Int32) : Nat → Int32 := (if (vX9_isPerson r1 p) = 0 then r44 else (if q < 0 then r44 else (if 99 < q then r44 else (rX9_letDaysPass_44 r38 r39 r40 r41 r42 r43 r44 r45 r46 r47 n ((q : Int32).toNatClampNeg)))))
def rX9_later_45 (r0 : Nat → Int32) (r1 : Nat → Int32) (r38 : Nat → Int32) (r39 : Nat → Int32) (r40 : Nat → Int32) (r41 : Nat → Int32) (r42 : Nat → Int32) (r43 : Nat → Int32) (r44 : Nat → Int32) (r45 : Nat → Int32) (r46 : Nat → Int32) (r47 : Nat → Int32) (n : Nat) (p : Int32) (q : Int32) : Nat → Int32 := (if (vX9_isPerson r1 p) = 0 then r45 else (if q < 0 then r45 else (if 99 < q then r45 else (rX9_letDaysPass_45 r38 r39 r40 r41 r42 r43 r44 r45 r46 r47 n ((q : Int32).toNatClampNeg)))))
def rX9_later_46 (r0 : Nat → Int32) (r1 : Nat → Int32) (r38 : Nat → Int32) (r39 : Nat → Int32) (r40 : Nat → Int32) (r41 : Nat → Int32) (r42 : Nat → Int32) (r43 : Nat → Int32) (r44 : Nat → Int32) (r45 : Nat → Int32) (r46 : Nat → Int32) (r47 : Nat → Int32) (n : Nat) (p : Int32) (q : Int32) : Nat → Int32 := (if (vX9_isPerson r1 p) = 0 then r46 else (if q < 0 then r46 else (if 99 < q then r46 else (rX9_letDaysPass_46 r38 r39 r40 r41 r42 r43 r44 r45 r46 r47 n ((q : Int32).toNatClampNeg)))))
def rX9_later_47 (r0 : Nat → Int32) (r1 : Nat → Int32) (r38 : Nat → Int32) (r39 : Nat → Int32) (r40 : Nat → Int32) (r41 : Nat → Int32) (r42 : Nat → Int32) (r43 : Nat → Int32) (r44 : Nat → Int32) (r45 : Nat → Int32) (r46 : Nat → Int32) (r47 : Nat → Int32) (n : Nat) (p : Int32) (q : Int32) : Nat → Int32 := (if (vX9_isPerson r1 p) = 0 then r47 else (if q < 0 then r47 else (if 99 < q then r47 else (rX9_letDaysPass_47 r38 r39 r40 r41 r42 r43 r44 r45 r46 r47 n ((q : Int32).toNatClampNeg)))))
set_option maxHeartbeats 1000000 in
theorem sp_X9_later {d kc ks : Nat} {h : Nat → Nat → Int32} {g : Nat → Nat → Int64} {Q : jj_Rs → jj_St → Prop} {n : Nat} {p : Int32} {q : Int32} (hP : h 1 0 = nI n) (hn : n ≤ 8) (kq : Q (vX9_later (h 0) (h 1) (h 38) (h 39) (h 40) (h 41) (h 42) (h 43) (h 44) (h 45) (h 46) (h 47) n p q) (jj_S, 782, (jj_rs h [(0, (rX9_later_0 (h 0) (h 1) (h 38) (h 39) (h 40) (h 41) (h 42) (h 43) (h 44) (h 45) (h 46) (h 47) n p q)), (43, (rX9_later_43 (h 0) (h 1) (h 38) (h 39) (h 40) (h 41) (h 42) (h 43) (h 44) (h 45) (h 46) (h 47) n p q)), (44, (rX9_later_44 (h 0) (h 1) (h 38) (h 39) (h 40) (h 41) (h 42) (h 43) (h 44) (h 45) (h 46) (h 47) n p q)), (45, (rX9_later_45 (h 0) (h 1) (h 38) (h 39) (h 40) (h 41) (h 42) (h 43) (h 44) (h 45) (h 46) (h 47) n p q)), (46, (rX9_later_46 (h 0) (h 1) (h 38) (h 39) (h 40) (h 41) (h 42) (h 43) (h 44) (h 45) (h 46) (h 47) n p q)), (47, (rX9_later_47 (h 0) (h 1) (h 38) (h 39) (h 40) (h 41) (h 42) (h 43) (h 44) (h 45) (h 46) (h 47) n p q))]), g)) : jj_R mX9_later (d + 7) (kc + 2) (ks + 12) (jj_S, 782, h, g) 0 [(0, .ref 0), (1, .int p), (2, .int q)] [] Q := by
  refine rr_aload_n 0 rfl rfl dX9_later_0 ?_
  refine rr_iload_n 1 rfl rfl dX9_later_1 ?_
  refine rr_callV (As := [.int p]) (rest := []) (kc2 := 1) (ks2 := 6) dX9_later_2 okX9_requirePerson lX9_198 lo_0 sh_0 rfl rfl (Nat.le_of_ble_eq_true rfl) (Nat.le_of_ble_eq_true rfl) rfl (by omega) (by simp [jj_rk]) (by simp [jj_rk]) ?_
  refine sp_X9_requirePerson  (fun c1 => ?_) (fun c1 => ?_)
  · skip
    show jj_R _ _ (kc + 1) (ks + 6) (jj_S, 782, h, g) 5 [(0, .ref 0), (1, .int p), (2, .int q)] [] Q
    refine rr_aload_n 0 rfl rfl dX9_later_5 ?_
    refine rr_iload_n 2 rfl rfl dX9_later_6 ?_
    refine rr_if_lt dX9_later_7 (fun c2 => ?_) (fun c2 => ?_)
    · skip
      refine rr_iconst 0 rfl dX9_later_20 ?_
      refine rr_callV (As := [.int 0]) (rest := []) (kc2 := 1) (ks2 := 6) dX9_later_21 okX9_require lX9_103 lo_0 sh_0 rfl rfl (Nat.le_of_ble_eq_true rfl) (Nat.le_of_ble_eq_true rfl) rfl (by omega) (by simp [jj_rk]) (by simp [jj_rk]) ?_
      refine sp_X9_require  (fun c => absurd rfl c) (fun _ => ?_)
      show Q (.inr "java/lang/IllegalArgumentException") (jj_S, 782, (jj_rs h [(0, (upd (h 0) 14 ((h 0) 14 + 1)))]), g)
      refine jj_Qh (jj_rs_add (B := h) (L := [(0, (upd (h 0) 14 ((h 0) 14 + 1)))]) (L2 := [(0, (upd (h 0) 14 ((h 0) 14 + 1))), (43, (h 43))]) (o := 43) (r := (h 43)) rfl rfl) ?_
      refine jj_Qh (jj_rs_add (B := h) (L := [(0, (upd (h 0) 14 ((h 0) 14 + 1))), (43, (h 43))]) (L2 := [(0, (upd (h 0) 14 ((h 0) 14 + 1))), (43, (h 43)), (44, (h 44))]) (o := 44) (r := (h 44)) rfl rfl) ?_
      refine jj_Qh (jj_rs_add (B := h) (L := [(0, (upd (h 0) 14 ((h 0) 14 + 1))), (43, (h 43)), (44, (h 44))]) (L2 := [(0, (upd (h 0) 14 ((h 0) 14 + 1))), (43, (h 43)), (44, (h 44)), (45, (h 45))]) (o := 45) (r := (h 45)) rfl rfl) ?_
      refine jj_Qh (jj_rs_add (B := h) (L := [(0, (upd (h 0) 14 ((h 0) 14 + 1))), (43, (h 43)), (44, (h 44)), (45, (h 45))]) (L2 := [(0, (upd (h 0) 14 ((h 0) 14 + 1))), (43, (h 43)), (44, (h 44)), (45, (h 45)), (46, (h 46))]) (o := 46) (r := (h 46)) rfl rfl) ?_
      refine jj_Qh (jj_rs_add (B := h) (L := [(0, (upd (h 0) 14 ((h 0) 14 + 1))), (43, (h 43)), (44, (h 44)), (45, (h 45)), (46, (h 46))]) (L2 := [(0, (upd (h 0) 14 ((h 0) 14 + 1))), (43, (h 43)), (44, (h 44)), (45, (h 45)), (46, (h 46)), (47, (h 47))]) (o := 47) (r := (h 47)) rfl rfl) ?_
      simpa only [vX9_later, rX9_later_0, rX9_later_43, rX9_later_44, rX9_later_45, rX9_later_46, rX9_later_47, if_neg c1, if_pos c2] using kq
    · skip
      refine rr_iload_n 2 rfl rfl dX9_later_10 ?_
      refine rr_bipush 99 rfl dX9_later_11 ?_
      refine rr_icmp_gt dX9_later_13 (fun c4 => ?_) (fun c4 => ?_)
      · skip
        refine rr_iconst 0 rfl dX9_later_20 ?_
        refine rr_callV (As := [.int 0]) (rest := []) (kc2 := 1) (ks2 := 6) dX9_later_21 okX9_require lX9_103 lo_0 sh_0 rfl rfl (Nat.le_of_ble_eq_true rfl) (Nat.le_of_ble_eq_true rfl) rfl (by omega) (by simp [jj_rk]) (by simp [jj_rk]) ?_
        refine sp_X9_require  (fun c => absurd rfl c) (fun _ => ?_)
        show Q (.inr "java/lang/IllegalArgumentException") (jj_S, 782, (jj_rs h [(0, (upd (h 0) 14 ((h 0) 14 + 1)))]), g)
        refine jj_Qh (jj_rs_add (B := h) (L := [(0, (upd (h 0) 14 ((h 0) 14 + 1)))]) (L2 := [(0, (upd (h 0) 14 ((h 0) 14 + 1))), (43, (h 43))]) (o := 43) (r := (h 43)) rfl rfl) ?_
        refine jj_Qh (jj_rs_add (B := h) (L := [(0, (upd (h 0) 14 ((h 0) 14 + 1))), (43, (h 43))]) (L2 := [(0, (upd (h 0) 14 ((h 0) 14 + 1))), (43, (h 43)), (44, (h 44))]) (o := 44) (r := (h 44)) rfl rfl) ?_
        refine jj_Qh (jj_rs_add (B := h) (L := [(0, (upd (h 0) 14 ((h 0) 14 + 1))), (43, (h 43)), (44, (h 44))]) (L2 := [(0, (upd (h 0) 14 ((h 0) 14 + 1))), (43, (h 43)), (44, (h 44)), (45, (h 45))]) (o := 45) (r := (h 45)) rfl rfl) ?_
        refine jj_Qh (jj_rs_add (B := h) (L := [(0, (upd (h 0) 14 ((h 0) 14 + 1))), (43, (h 43)), (44, (h 44)), (45, (h 45))]) (L2 := [(0, (upd (h 0) 14 ((h 0) 14 + 1))), (43, (h 43)), (44, (h 44)), (45, (h 45)), (46, (h 46))]) (o := 46) (r := (h 46)) rfl rfl) ?_
        refine jj_Qh (jj_rs_add (B := h) (L := [(0, (upd (h 0) 14 ((h 0) 14 + 1))), (43, (h 43)), (44, (h 44)), (45, (h 45)), (46, (h 46))]) (L2 := [(0, (upd (h 0) 14 ((h 0) 14 + 1))), (43, (h 43)), (44, (h 44)), (45, (h 45)), (46, (h 46)), (47, (h 47))]) (o := 47) (r := (h 47)) rfl rfl) ?_
        simpa only [vX9_later, rX9_later_0, rX9_later_43, rX9_later_44, rX9_later_45, rX9_later_46, rX9_later_47, if_neg c1, if_neg c2, if_pos c4] using kq
      · skip
        refine rr_iconst 1 rfl dX9_later_16 ?_
        refine rr_goto dX9_later_17 ?_
        refine rr_callV (As := [.int 1]) (rest := []) (kc2 := 1) (ks2 := 6) dX9_later_21 okX9_require lX9_103 lo_0 sh_0 rfl rfl (Nat.le_of_ble_eq_true rfl) (Nat.le_of_ble_eq_true rfl) rfl (by omega) (by simp [jj_rk]) (by simp [jj_rk]) ?_
        refine sp_X9_require  (fun _ => ?_) (fun c => absurd c (by decide))
        show jj_R _ _ kc ks (jj_S, 782, h, g) 24 [(0, .ref 0), (1, .int p), (2, .int q)] [] Q
        refine rr_aload_n 0 rfl rfl dX9_later_24 ?_
        refine rr_iload_n 2 rfl rfl dX9_later_25 ?_
        refine rr_callV (As := [.int q]) (rest := []) (kc2 := 0) (ks2 := 0) dX9_later_26 okX9_letDaysPass lX9_254 lo_0 sh_0 rfl rfl (Nat.le_of_ble_eq_true rfl) (Nat.le_of_ble_eq_true rfl) rfl (by omega) (by simp [jj_rk]) (by simp [jj_rk]) ?_
        refine sp_X9_letDaysPass (q := (q : Int32).toNatClampNeg) (jj_nIc (by first | assumption | exact (jj_wk (by assumption)).1)) (by first | assumption | exact jj_pers hP hn (by assumption) | exact vp_in_nI (by omega) (by decide) | decide | omega) (by first | assumption | exact jj_pers hP hn (by assumption) | exact vp_in_nI (by omega) (by decide) | decide | omega) (jj_nle (b := 99) (by decide) (by assumption)) ?_
        show jj_R _ _ kc ks (jj_S, 782, (jj_rs h [(43, (rX9_letDaysPass_43 (h 38) (h 39) (h 40) (h 41) (h 42) (h 43) (h 44) (h 45) (h 46) (h 47) n ((q : Int32).toNatClampNeg))), (44, (rX9_letDaysPass_44 (h 38) (h 39) (h 40) (h 41) (h 42) (h 43) (h 44) (h 45) (h 46) (h 47) n ((q : Int32).toNatClampNeg))), (45, (rX9_letDaysPass_45 (h 38) (h 39) (h 40) (h 41) (h 42) (h 43) (h 44) (h 45) (h 46) (h 47) n ((q : Int32).toNatClampNeg))), (46, (rX9_letDaysPass_46 (h 38) (h 39) (h 40) (h 41) (h 42) (h 43) (h 44) (h 45) (h 46) (h 47) n ((q : Int32).toNatClampNeg))), (47, (rX9_letDaysPass_47 (h 38) (h 39) (h 40) (h 41) (h 42) (h 43) (h 44) (h 45) (h 46) (h 47) n ((q : Int32).toNatClampNeg)))]), g) 29 [(0, .ref 0), (1, .int p), (2, .int q)] [] Q
        refine rr_aload_n 0 rfl rfl dX9_later_29 ?_
        refine rr_getR dX9_later_30 fX9_84 lo_0 sh_0 rfl ?_
        refine rr_getR dX9_later_33 fX9_213 lo_43 sh_43 rfl ?_
        refine rr_iload_n 1 rfl rfl dX9_later_36 ?_
        refine rr_iaload dX9_later_37 lo_44 sh_44 (by first | assumption | exact jj_pers hP hn (by assumption) | exact vp_in_nI (by omega) (by decide) | decide | omega) ?_
        rw [show (jj_rs h [(43, (rX9_letDaysPass_43 (h 38) (h 39) (h 40) (h 41) (h 42) (h 43) (h 44) (h 45) (h 46) (h 47) n ((q : Int32).toNatClampNeg))), (44, (rX9_letDaysPass_44 (h 38) (h 39) (h 40) (h 41) (h 42) (h 43) (h 44) (h 45) (h 46) (h 47) n ((q : Int32).toNatClampNeg))), (45, (rX9_letDaysPass_45 (h 38) (h 39) (h 40) (h 41) (h 42) (h 43) (h 44) (h 45) (h 46) (h 47) n ((q : Int32).toNatClampNeg))), (46, (rX9_letDaysPass_46 (h 38) (h 39) (h 40) (h 41) (h 42) (h 43) (h 44) (h 45) (h 46) (h 47) n ((q : Int32).toNatClampNeg))), (47, (rX9_letDaysPass_47 (h 38) (h 39) (h 40) (h 41) (h 42) (h 43) (h 44) (h 45) (h 46) (h 47) n ((q : Int32).toNatClampNeg)))]) 44 = (rX9_letDaysPass_44 (h 38) (h 39) (h 40) (h 41) (h 42) (h 43) (h 44) (h 45) (h 46) (h 47) n ((q : Int32).toNatClampNeg)) from rfl]
        refine rr_ireturn dX9_later_38 rfl ?_
        refine jj_Qh (jj_rs_add (B := h) (L := [(43, (rX9_letDaysPass_43 (h 38) (h 39) (h 40) (h 41) (h 42) (h 43) (h 44) (h 45) (h 46) (h 47) n ((q : Int32).toNatClampNeg))), (44, (rX9_letDaysPass_44 (h 38) (h 39) (h 40) (h 41) (h 42) (h 43) (h 44) (h 45) (h 46) (h 47) n ((q : Int32).toNatClampNeg))), (45, (rX9_letDaysPass_45 (h 38) (h 39) (h 40) (h 41) (h 42) (h 43) (h 44) (h 45) (h 46) (h 47) n ((q : Int32).toNatClampNeg))), (46, (rX9_letDaysPass_46 (h 38) (h 39) (h 40) (h 41) (h 42) (h 43) (h 44) (h 45) (h 46) (h 47) n ((q : Int32).toNatClampNeg))), (47, (rX9_letDaysPass_47 (h 38) (h 39) (h 40) (h 41) (h 42) (h 43) (h 44) (h 45) (h 46) (h 47) n ((q : Int32).toNatClampNeg)))]) (L2 := [(0, (h 0)), (43, (rX9_letDaysPass_43 (h 38) (h 39) (h 40) (h 41) (h 42) (h 43) (h 44) (h 45) (h 46) (h 47) n ((q : Int32).toNatClampNeg))), (44, (rX9_letDaysPass_44 (h 38) (h 39) (h 40) (h 41) (h 42) (h 43) (h 44) (h 45) (h 46) (h 47) n ((q : Int32).toNatClampNeg))), (45, (rX9_letDaysPass_45 (h 38) (h 39) (h 40) (h 41) (h 42) (h 43) (h 44) (h 45) (h 46) (h 47) n ((q : Int32).toNatClampNeg))), (46, (rX9_letDaysPass_46 (h 38) (h 39) (h 40) (h 41) (h 42) (h 43) (h 44) (h 45) (h 46) (h 47) n ((q : Int32).toNatClampNeg))), (47, (rX9_letDaysPass_47 (h 38) (h 39) (h 40) (h 41) (h 42) (h 43) (h 44) (h 45) (h 46) (h 47) n ((q : Int32).toNatClampNeg)))]) (o := 0) (r := (h 0)) rfl rfl) ?_
        simpa only [vX9_later, rX9_later_0, rX9_later_43, rX9_later_44, rX9_later_45, rX9_later_46, rX9_later_47, if_neg c1, if_neg c2, if_neg c4] using kq
  · skip
    show Q (.inr "java/util/NoSuchElementException") (jj_S, 782, (jj_rs h [(0, (upd (h 0) 13 ((h 0) 13 + 1)))]), g)
    refine jj_Qh (jj_rs_add (B := h) (L := [(0, (upd (h 0) 13 ((h 0) 13 + 1)))]) (L2 := [(0, (upd (h 0) 13 ((h 0) 13 + 1))), (43, (h 43))]) (o := 43) (r := (h 43)) rfl rfl) ?_
    refine jj_Qh (jj_rs_add (B := h) (L := [(0, (upd (h 0) 13 ((h 0) 13 + 1))), (43, (h 43))]) (L2 := [(0, (upd (h 0) 13 ((h 0) 13 + 1))), (43, (h 43)), (44, (h 44))]) (o := 44) (r := (h 44)) rfl rfl) ?_
    refine jj_Qh (jj_rs_add (B := h) (L := [(0, (upd (h 0) 13 ((h 0) 13 + 1))), (43, (h 43)), (44, (h 44))]) (L2 := [(0, (upd (h 0) 13 ((h 0) 13 + 1))), (43, (h 43)), (44, (h 44)), (45, (h 45))]) (o := 45) (r := (h 45)) rfl rfl) ?_
    refine jj_Qh (jj_rs_add (B := h) (L := [(0, (upd (h 0) 13 ((h 0) 13 + 1))), (43, (h 43)), (44, (h 44)), (45, (h 45))]) (L2 := [(0, (upd (h 0) 13 ((h 0) 13 + 1))), (43, (h 43)), (44, (h 44)), (45, (h 45)), (46, (h 46))]) (o := 46) (r := (h 46)) rfl rfl) ?_
    refine jj_Qh (jj_rs_add (B := h) (L := [(0, (upd (h 0) 13 ((h 0) 13 + 1))), (43, (h 43)), (44, (h 44)), (45, (h 45)), (46, (h 46))]) (L2 := [(0, (upd (h 0) 13 ((h 0) 13 + 1))), (43, (h 43)), (44, (h 44)), (45, (h 45)), (46, (h 46)), (47, (h 47))]) (o := 47) (r := (h 47)) rfl rfl) ?_
    simpa only [vX9_later, rX9_later_0, rX9_later_43, rX9_later_44, rX9_later_45, rX9_later_46, rX9_later_47, if_pos c1] using kq
def vX9_catches (r0 : Nat → Int32) (r1 : Nat → Int32) (r2 : Nat → Int32) (r3 : Nat → Int32) (r6 : Nat → Int32) (r8 : Nat → Int32) (r38 : Nat → Int32) (r39 : Nat → Int32) (r40 : Nat → Int32) (r41 : Nat → Int32) (r42 : Nat → Int32) (r43 : Nat → Int32) (r44 : Nat → Int32) (r45 : Nat → Int32) (r46 : Nat → Int32) (r47 : Nat → Int32) (n : Nat) (m : Nat) (p : Int32) : jj_Rs := (if (vX9_isPerson r1 p) = 0 then (.inr "java/util/NoSuchElementException") else (Sum.elim (fun a1 => (.inl (some (.int (-1))))) (fun r1_ => (.inl (some (.int r1_.1)))) (jj_fx (fun k1 (a1 : (Nat → Int32) × (Nat → Int32) × (Nat → Int32) × (Nat → Int32) × (Nat → Int32)) => ((if (vX6_behindOf_t a1.1 a1.2.1 p) = 0 then (.inr ((nI k1), a1.1, a1.2.1, a1.2.2.1, a1.2.2.2.1, a1.2.2.2.2)) else (.inl ((rX6_passDay_t_43 (rX3_tieLace_t_43 r2 r3 r6 r8 a1.1 a1.2.1 a1.2.2.1 a1.2.2.2.1 a1.2.2.2.2 m p p 1) (rX3_tieLace_t_44 r2 r3 r6 r8 a1.1 a1.2.1 a1.2.2.1 a1.2.2.2.1 a1.2.2.2.2 m p p 1) (rX3_tieLace_t_45 r2 r3 r6 r8 a1.1 a1.2.1 a1.2.2.1 a1.2.2.2.1 a1.2.2.2.2 m p p 1) n), (rX6_passDay_t_44 (rX3_tieLace_t_43 r2 r3 r6 r8 a1.1 a1.2.1 a1.2.2.1 a1.2.2.2.1 a1.2.2.2.2 m p p 1) (rX3_tieLace_t_44 r2 r3 r6 r8 a1.1 a1.2.1 a1.2.2.1 a1.2.2.2.1 a1.2.2.2.2 m p p 1) (rX3_tieLace_t_45 r2 r3 r6 r8 a1.1 a1.2.1 a1.2.2.1 a1.2.2.2.1 a1.2.2.2.2 m p p 1) n), (rX6_passDay_t_45 (rX3_tieLace_t_43 r2 r3 r6 r8 a1.1 a1.2.1 a1.2.2.1 a1.2.2.2.1 a1.2.2.2.2 m p p 1) (rX3_tieLace_t_44 r2 r3 r6 r8 a1.1 a1.2.1 a1.2.2.1 a1.2.2.2.1 a1.2.2.2.2 m p p 1) (rX3_tieLace_t_45 r2 r3 r6 r8 a1.1 a1.2.1 a1.2.2.1 a1.2.2.2.1 a1.2.2.2.2 m p p 1) n), (rX3_tieLace_t_46 r2 r3 r6 r8 a1.1 a1.2.1 a1.2.2.1 a1.2.2.2.1 a1.2.2.2.2 m p p 1), (rX3_tieLace_t_47 r2 r3 r6 r8 a1.1 a1.2.1 a1.2.2.1 a1.2.2.2.1 a1.2.2.2.2 m p p 1)))) : Sum ((Nat → Int32) × (Nat → Int32) × (Nat → Int32) × (Nat → Int32) × (Nat → Int32)) (Int32 × (Nat → Int32) × (Nat → Int32) × (Nat → Int32) × (Nat → Int32) × (Nat → Int32)))) 100 ((rX6_copyFrom_43 r38 r39 r40 r41 r42 r43 r44 r45 r46 r47), (rX6_copyFrom_44 r38 r39 r40 r41 r42 r43 r44 r45 r46 r47), (rX6_copyFrom_45 r38 r39 r40 r41 r42 r43 r44 r45 r46 r47), (rX6_copyFrom_46 r38 r39 r40 r41 r42 r43 r44 r45 r46 r47), (rX6_copyFrom_47 r38 r39 r40 r41 r42 r43 r44 r45 r46 r47)))))
def rX9_catches_0 (r0 : Nat → Int32) (r1 : Nat → Int32) (r2 : Nat → Int32) (r3 : Nat → Int32) (r6 : Nat → Int32) (r8 : Nat → Int32) (r38 : Nat → Int32) (r39 : Nat → Int32) (r40 : Nat → Int32) (r41 : Nat → Int32) (r42 : Nat → Int32) (r43 : Nat → Int32) (r44 : Nat → Int32) (r45 : Nat → Int32) (r46 : Nat → Int32) (r47 : Nat → Int32) (n : Nat) (m : Nat) (p : Int32) : Nat → Int32 := (if (vX9_isPerson r1 p) = 0 then (upd r0 13 (r0 13 + 1)) else (Sum.elim (fun a1 => r0) (fun r1_ => r0) (jj_fx (fun k1 (a1 : (Nat → Int32) × (Nat → Int32) × (Nat → Int32) × (Nat → Int32) × (Nat → Int32)) => ((if (vX6_behindOf_t a1.1 a1.2.1 p) = 0 then (.inr ((nI k1), a1.1, a1.2.1, a1.2.2.1, a1.2.2.2.1, a1.2.2.2.2)) else (.inl ((rX6_passDay_t_43 (rX3_tieLace_t_43 r2 r3 r6 r8 a1.1 a1.2.1 a1.2.2.1 a1.2.2.2.1 a1.2.2.2.2 m p p 1) (rX3_tieLace_t_44 r2 r3 r6 r8 a1.1 a1.2.1 a1.2.2.1 a1.2.2.2.1 a1.2.2.2.2 m p p 1) (rX3_tieLace_t_45 r2 r3 r6 r8 a1.1 a1.2.1 a1.2.2.1 a1.2.2.2.1 a1.2.2.2.2 m p p 1) n), (rX6_passDay_t_44 (rX3_tieLace_t_43 r2 r3 r6 r8 a1.1 a1.2.1 a1.2.2.1 a1.2.2.2.1 a1.2.2.2.2 m p p 1) (rX3_tieLace_t_44 r2 r3 r6 r8 a1.1 a1.2.1 a1.2.2.1 a1.2.2.2.1 a1.2.2.2.2 m p p 1) (rX3_tieLace_t_45 r2 r3 r6 r8 a1.1 a1.2.1 a1.2.2.1 a1.2.2.2.1 a1.2.2.2.2 m p p 1) n), (rX6_passDay_t_45 (rX3_tieLace_t_43 r2 r3 r6 r8 a1.1 a1.2.1 a1.2.2.1 a1.2.2.2.1 a1.2.2.2.2 m p p 1) (rX3_tieLace_t_44 r2 r3 r6 r8 a1.1 a1.2.1 a1.2.2.1 a1.2.2.2.1 a1.2.2.2.2 m p p 1) (rX3_tieLace_t_45 r2 r3 r6 r8 a1.1 a1.2.1 a1.2.2.1 a1.2.2.2.1 a1.2.2.2.2 m p p 1) n), (rX3_tieLace_t_46 r2 r3 r6 r8 a1.1 a1.2.1 a1.2.2.1 a1.2.2.2.1 a1.2.2.2.2 m p p 1), (rX3_tieLace_t_47 r2 r3 r6 r8 a1.1 a1.2.1 a1.2.2.1 a1.2.2.2.1 a1.2.2.2.2 m p p 1)))) : Sum ((Nat → Int32) × (Nat → Int32) × (Nat → Int32) × (Nat → Int32) × (Nat → Int32)) (Int32 × (Nat → Int32) × (Nat → Int32) × (Nat → Int32) × (Nat → Int32) × (Nat → Int32)))) 100 ((rX6_copyFrom_43 r38 r39 r40 r41 r42 r43 r44 r45 r46 r47), (rX6_copyFrom_44 r38 r39 r40 r41 r42 r43 r44 r45 r46 r47), (rX6_copyFrom_45 r38 r39 r40 r41 r42 r43 r44 r45 r46 r47), (rX6_copyFrom_46 r38 r39 r40 r41 r42 r43 r44 r45 r46 r47), (rX6_copyFrom_47 r38 r39 r40 r41 r42 r43 r44 r45 r46 r47)))))
def rX9_catches_43 (r0 : Nat → Int32) (r1 : Nat → Int32) (r2 : Nat → Int32) (r3 : Nat → Int32) (r6 : Nat → Int32) (r8 : Nat → Int32) (r38 : Nat → Int32) (r39 : Nat → Int32) (r40 : Nat → Int32) (r41 : Nat → Int32) (r42 : Nat → Int32) (r43 : Nat → Int32) (r44 : Nat → Int32) (r45 : Nat → Int32) (r46 : Nat → Int32) (r47 : Nat → Int32) (n : Nat) (m : Nat) (p : Int32) : Nat → Int32 := (if (vX9_isPerson r1 p) = 0 then r43 else (Sum.elim (fun a1 => a1.1) (fun r1_ => r1_.2.1) (jj_fx (fun k1 (a1 : (Nat → Int32) × (Nat → Int32) × (Nat → Int32) × (Nat → Int32) × (Nat → Int32)) => ((if (vX6_behindOf_t a1.1 a1.2.1 p) = 0 then (.inr ((nI k1), a1.1, a1.2.1, a1.2.2.1, a1.2.2.2.1, a1.2.2.2.2)) else (.inl ((rX6_passDay_t_43 (rX3_tieLace_t_43 r2 r3 r6 r8 a1.1 a1.2.1 a1.2.2.1 a1.2.2.2.1 a1.2.2.2.2 m p p 1) (rX3_tieLace_t_44 r2 r3 r6 r8 a1.1 a1.2.1 a1.2.2.1 a1.2.2.2.1 a1.2.2.2.2 m p p 1) (rX3_tieLace_t_45 r2 r3 r6 r8 a1.1 a1.2.1 a1.2.2.1 a1.2.2.2.1 a1.2.2.2.2 m p p 1) n), (rX6_passDay_t_44 (rX3_tieLace_t_43 r2 r3 r6 r8 a1.1 a1.2.1 a1.2.2.1 a1.2.2.2.1 a1.2.2.2.2 m p p 1) (rX3_tieLace_t_44 r2 r3 r6 r8 a1.1 a1.2.1 a1.2.2.1 a1.2.2.2.1 a1.2.2.2.2 m p p 1) (rX3_tieLace_t_45 r2 r3 r6 r8 a1.1 a1.2.1 a1.2.2.1 a1.2.2.2.1 a1.2.2.2.2 m p p 1) n), (rX6_passDay_t_45 (rX3_tieLace_t_43 r2 r3 r6 r8 a1.1 a1.2.1 a1.2.2.1 a1.2.2.2.1 a1.2.2.2.2 m p p 1) (rX3_tieLace_t_44 r2 r3 r6 r8 a1.1 a1.2.1 a1.2.2.1 a1.2.2.2.1 a1.2.2.2.2 m p p 1) (rX3_tieLace_t_45 r2 r3 r6 r8 a1.1 a1.2.1 a1.2.2.1 a1.2.2.2.1 a1.2.2.2.2 m p p 1) n), (rX3_tieLace_t_46 r2 r3 r6 r8 a1.1 a1.2.1 a1.2.2.1 a1.2.2.2.1 a1.2.2.2.2 m p p 1), (rX3_tieLace_t_47 r2 r3 r6 r8 a1.1 a1.2.1 a1.2.2.1 a1.2.2.2.1 a1.2.2.2.2 m p p 1)))) : Sum ((Nat → Int32) × (Nat → Int32) × (Nat → Int32) × (Nat → Int32) × (Nat → Int32)) (Int32 × (Nat → Int32) × (Nat → Int32) × (Nat → Int32) × (Nat → Int32) × (Nat → Int32)))) 100 ((rX6_copyFrom_43 r38 r39 r40 r41 r42 r43 r44 r45 r46 r47), (rX6_copyFrom_44 r38 r39 r40 r41 r42 r43 r44 r45 r46 r47), (rX6_copyFrom_45 r38 r39 r40 r41 r42 r43 r44 r45 r46 r47), (rX6_copyFrom_46 r38 r39 r40 r41 r42 r43 r44 r45 r46 r47), (rX6_copyFrom_47 r38 r39 r40 r41 r42 r43 r44 r45 r46 r47)))))
def rX9_catches_44 (r0 : Nat → Int32) (r1 : Nat → Int32) (r2 : Nat → Int32) (r3 : Nat → Int32) (r6 : Nat → Int32) (r8 : Nat → Int32) (r38 : Nat → Int32) (r39 : Nat → Int32) (r40 : Nat → Int32) (r41 : Nat → Int32) (r42 : Nat → Int32) (r43 : Nat → Int32) (r44 : Nat → Int32) (r45 : Nat → Int32) (r46 : Nat → Int32) (r47 : Nat → Int32) (n : Nat) (m : Nat) (p : Int32) : Nat → Int32 := (if (vX9_isPerson r1 p) = 0 then r44 else (Sum.elim (fun a1 => a1.2.1) (fun r1_ => r1_.2.2.1) (jj_fx (fun k1 (a1 : (Nat → Int32) × (Nat → Int32) × (Nat → Int32) × (Nat → Int32) × (Nat → Int32)) => ((if (vX6_behindOf_t a1.1 a1.2.1 p) = 0 then (.inr ((nI k1), a1.1, a1.2.1, a1.2.2.1, a1.2.2.2.1, a1.2.2.2.2)) else (.inl ((rX6_passDay_t_43 (rX3_tieLace_t_43 r2 r3 r6 r8 a1.1 a1.2.1 a1.2.2.1 a1.2.2.2.1 a1.2.2.2.2 m p p 1) (rX3_tieLace_t_44 r2 r3 r6 r8 a1.1 a1.2.1 a1.2.2.1 a1.2.2.2.1 a1.2.2.2.2 m p p 1) (rX3_tieLace_t_45 r2 r3 r6 r8 a1.1 a1.2.1 a1.2.2.1 a1.2.2.2.1 a1.2.2.2.2 m p p 1) n), (rX6_passDay_t_44 (rX3_tieLace_t_43 r2 r3 r6 r8 a1.1 a1.2.1 a1.2.2.1 a1.2.2.2.1 a1.2.2.2.2 m p p 1) (rX3_tieLace_t_44 r2 r3 r6 r8 a1.1 a1.2.1 a1.2.2.1 a1.2.2.2.1 a1.2.2.2.2 m p p 1) (rX3_tieLace_t_45 r2 r3 r6 r8 a1.1 a1.2.1 a1.2.2.1 a1.2.2.2.1 a1.2.2.2.2 m p p 1) n), (rX6_passDay_t_45 (rX3_tieLace_t_43 r2 r3 r6 r8 a1.1 a1.2.1 a1.2.2.1 a1.2.2.2.1 a1.2.2.2.2 m p p 1) (rX3_tieLace_t_44 r2 r3 r6 r8 a1.1 a1.2.1 a1.2.2.1 a1.2.2.2.1 a1.2.2.2.2 m p p 1) (rX3_tieLace_t_45 r2 r3 r6 r8 a1.1 a1.2.1 a1.2.2.1 a1.2.2.2.1 a1.2.2.2.2 m p p 1) n), (rX3_tieLace_t_46 r2 r3 r6 r8 a1.1 a1.2.1 a1.2.2.1 a1.2.2.2.1 a1.2.2.2.2 m p p 1), (rX3_tieLace_t_47 r2 r3 r6 r8 a1.1 a1.2.1 a1.2.2.1 a1.2.2.2.1 a1.2.2.2.2 m p p 1)))) : Sum ((Nat → Int32) × (Nat → Int32) × (Nat → Int32) × (Nat → Int32) × (Nat → Int32)) (Int32 × (Nat → Int32) × (Nat → Int32) × (Nat → Int32) × (Nat → Int32) × (Nat → Int32)))) 100 ((rX6_copyFrom_43 r38 r39 r40 r41 r42 r43 r44 r45 r46 r47), (rX6_copyFrom_44 r38 r39 r40 r41 r42 r43 r44 r45 r46 r47), (rX6_copyFrom_45 r38 r39 r40 r41 r42 r43 r44 r45 r46 r47), (rX6_copyFrom_46 r38 r39 r40 r41 r42 r43 r44 r45 r46 r47), (rX6_copyFrom_47 r38 r39 r40 r41 r42 r43 r44 r45 r46 r47)))))
def rX9_catches_45 (r0 : Nat → Int32) (r1 : Nat → Int32) (r2 : Nat → Int32) (r3 : Nat → Int32) (r6 : Nat → Int32) (r8 : Nat → Int32) (r38 : Nat → Int32) (r39 : Nat → Int32) (r40 : Nat → Int32) (r41 : Nat → Int32) (r42 : Nat → Int32) (r43 : Nat → Int32) (r44 : Nat → Int32) (r45 : Nat → Int32) (r46 : Nat → Int32) (r47 : Nat → Int32) (n : Nat) (m : Nat) (p : Int32) : Nat → Int32 := (if (vX9_isPerson r1 p) = 0 then r45 else (Sum.elim (fun a1 => a1.2.2.1) (fun r1_ => r1_.2.2.2.1) (jj_fx (fun k1 (a1 : (Nat → Int32) × (Nat → Int32) × (Nat → Int32) × (Nat → Int32) × (Nat → Int32)) => ((if (vX6_behindOf_t a1.1 a1.2.1 p) = 0 then (.inr ((nI k1), a1.1, a1.2.1, a1.2.2.1, a1.2.2.2.1, a1.2.2.2.2)) else (.inl ((rX6_passDay_t_43 (rX3_tieLace_t_43 r2 r3 r6 r8 a1.1 a1.2.1 a1.2.2.1 a1.2.2.2.1 a1.2.2.2.2 m p p 1) (rX3_tieLace_t_44 r2 r3 r6 r8 a1.1 a1.2.1 a1.2.2.1 a1.2.2.2.1 a1.2.2.2.2 m p p 1) (rX3_tieLace_t_45 r2 r3 r6 r8 a1.1 a1.2.1 a1.2.2.1 a1.2.2.2.1 a1.2.2.2.2 m p p 1) n), (rX6_passDay_t_44 (rX3_tieLace_t_43 r2 r3 r6 r8 a1.1 a1.2.1 a1.2.2.1 a1.2.2.2.1 a1.2.2.2.2 m p p 1) (rX3_tieLace_t_44 r2 r3 r6 r8 a1.1 a1.2.1 a1.2.2.1 a1.2.2.2.1 a1.2.2.2.2 m p p 1) (rX3_tieLace_t_45 r2 r3 r6 r8 a1.1 a1.2.1 a1.2.2.1 a1.2.2.2.1 a1.2.2.2.2 m p p 1) n), (rX6_passDay_t_45 (rX3_tieLace_t_43 r2 r3 r6 r8 a1.1 a1.2.1 a1.2.2.1 a1.2.2.2.1 a1.2.2.2.2 m p p 1) (rX3_tieLace_t_44 r2 r3 r6 r8 a1.1 a1.2.1 a1.2.2.1 a1.2.2.2.1 a1.2.2.2.2 m p p 1) (rX3_tieLace_t_45 r2 r3 r6 r8 a1.1 a1.2.1 a1.2.2.1 a1.2.2.2.1 a1.2.2.2.2 m p p 1) n), (rX3_tieLace_t_46 r2 r3 r6 r8 a1.1 a1.2.1 a1.2.2.1 a1.2.2.2.1 a1.2.2.2.2 m p p 1), (rX3_tieLace_t_47 r2 r3 r6 r8 a1.1 a1.2.1 a1.2.2.1 a1.2.2.2.1 a1.2.2.2.2 m p p 1)))) : Sum ((Nat → Int32) × (Nat → Int32) × (Nat → Int32) × (Nat → Int32) × (Nat → Int32)) (Int32 × (Nat → Int32) × (Nat → Int32) × (Nat → Int32) × (Nat → Int32) × (Nat → Int32)))) 100 ((rX6_copyFrom_43 r38 r39 r40 r41 r42 r43 r44 r45 r46 r47), (rX6_copyFrom_44 r38 r39 r40 r41 r42 r43 r44 r45 r46 r47), (rX6_copyFrom_45 r38 r39 r40 r41 r42 r43 r44 r45 r46 r47), (rX6_copyFrom_46 r38 r39 r40 r41 r42 r43 r44 r45 r46 r47), (rX6_copyFrom_47 r38 r39 r40 r41 r42 r43 r44 r45 r46 r47)))))
def rX9_catches_46 (r0 : Nat → Int32) (r1 : Nat → Int32) (r2 : Nat → Int32) (r3 : Nat → Int32) (r6 : Nat → Int32) (r8 : Nat → Int32) (r38 : Nat → Int32) (r39 : Nat → Int32) (r40 : Nat → Int32) (r41 : Nat → Int32) (r42 : Nat → Int32) (r43 : Nat → Int32) (r44 : Nat → Int32) (r45 : Nat → Int32) (r46 : Nat → Int32) (r47 : Nat → Int32) (n : Nat) (m : Nat) (p : Int32) : Nat → Int32 := (if (vX9_isPerson r1 p) = 0 then r46 else (Sum.elim (fun a1 => a1.2.2.2.1) (fun r1_ => r1_.2.2.2.2.1) (jj_fx (fun k1 (a1 : (Nat → Int32) × (Nat → Int32) × (Nat → Int32) × (Nat → Int32) × (Nat → Int32)) => ((if (vX6_behindOf_t a1.1 a1.2.1 p) = 0 then (.inr ((nI k1), a1.1, a1.2.1, a1.2.2.1, a1.2.2.2.1, a1.2.2.2.2)) else (.inl ((rX6_passDay_t_43 (rX3_tieLace_t_43 r2 r3 r6 r8 a1.1 a1.2.1 a1.2.2.1 a1.2.2.2.1 a1.2.2.2.2 m p p 1) (rX3_tieLace_t_44 r2 r3 r6 r8 a1.1 a1.2.1 a1.2.2.1 a1.2.2.2.1 a1.2.2.2.2 m p p 1) (rX3_tieLace_t_45 r2 r3 r6 r8 a1.1 a1.2.1 a1.2.2.1 a1.2.2.2.1 a1.2.2.2.2 m p p 1) n), (rX6_passDay_t_44 (rX3_tieLace_t_43 r2 r3 r6 r8 a1.1 a1.2.1 a1.2.2.1 a1.2.2.2.1 a1.2.2.2.2 m p p 1) (rX3_tieLace_t_44 r2 r3 r6 r8 a1.1 a1.2.1 a1.2.2.1 a1.2.2.2.1 a1.2.2.2.2 m p p 1) (rX3_tieLace_t_45 r2 r3 r6 r8 a1.1 a1.2.1 a1.2.2.1 a1.2.2.2.1 a1.2.2.2.2 m p p 1) n), (rX6_passDay_t_45 (rX3_tieLace_t_43 r2 r3 r6 r8 a1.1 a1.2.1 a1.2.2.1 a1.2.2.2.1 a1.2.2.2.2 m p p 1) (rX3_tieLace_t_44 r2 r3 r6 r8 a1.1 a1.2.1 a1.2.2.1 a1.2.2.2.1 a1.2.2.2.2 m p p 1) (rX3_tieLace_t_45 r2 r3 r6 r8 a1.1 a1.2.1 a1.2.2.1 a1.2.2.2.1 a1.2.2.2.2 m p p 1) n), (rX3_tieLace_t_46 r2 r3 r6 r8 a1.1 a1.2.1 a1.2.2.1 a1.2.2.2.1 a1.2.2.2.2 m p p 1), (rX3_tieLace_t_47 r2 r3 r6 r8 a1.1 a1.2.1 a1.2.2.1 a1.2.2.2.1 a1.2.2.2.2 m p p 1)))) : Sum ((Nat → Int32) × (Nat → Int32) × (Nat → Int32) × (Nat → Int32) × (Nat → Int32)) (Int32 × (Nat → Int32) × (Nat → Int32) × (Nat → Int32) × (Nat → Int32) × (Nat → Int32)))) 100 ((rX6_copyFrom_43 r38 r39 r40 r41 r42 r43 r44 r45 r46 r47), (rX6_copyFrom_44 r38 r39 r40 r41 r42 r43 r44 r45 r46 r47), (rX6_copyFrom_45 r38 r39 r40 r41 r42 r43 r44 r45 r46 r47), (rX6_copyFrom_46 r38 r39 r40 r41 r42 r43 r44 r45 r46 r47), (rX6_copyFrom_47 r38 r39 r40 r41 r42 r43 r44 r45 r46 r47)))))
def rX9_catches_47 (r0 : Nat → Int32) (r1 : Nat → Int32) (r2 : Nat → Int32) (r3 : Nat → Int32) (r6 : Nat → Int32) (r8 : Nat → Int32) (r38 : Nat → Int32) (r39 : Nat → Int32) (r40 : Nat → Int32) (r41 : Nat → Int32) (r42 : Nat → Int32) (r43 : Nat → Int32) (r44 : Nat → Int32) (r45 : Nat → Int32) (r46 : Nat → Int32) (r47 : Nat → Int32) (n : Nat) (m : Nat) (p : Int32) : Nat → Int32 := (if (vX9_isPerson r1 p) = 0 then r47 else (Sum.elim (fun a1 => a1.2.2.2.2) (fun r1_ => r1_.2.2.2.2.2) (jj_fx (fun k1 (a1 : (Nat → Int32) × (Nat → Int32) × (Nat → Int32) × (Nat → Int32) × (Nat → Int32)) => ((if (vX6_behindOf_t a1.1 a1.2.1 p) = 0 then (.inr ((nI k1), a1.1, a1.2.1, a1.2.2.1, a1.2.2.2.1, a1.2.2.2.2)) else (.inl ((rX6_passDay_t_43 (rX3_tieLace_t_43 r2 r3 r6 r8 a1.1 a1.2.1 a1.2.2.1 a1.2.2.2.1 a1.2.2.2.2 m p p 1) (rX3_tieLace_t_44 r2 r3 r6 r8 a1.1 a1.2.1 a1.2.2.1 a1.2.2.2.1 a1.2.2.2.2 m p p 1) (rX3_tieLace_t_45 r2 r3 r6 r8 a1.1 a1.2.1 a1.2.2.1 a1.2.2.2.1 a1.2.2.2.2 m p p 1) n), (rX6_passDay_t_44 (rX3_tieLace_t_43 r2 r3 r6 r8 a1.1 a1.2.1 a1.2.2.1 a1.2.2.2.1 a1.2.2.2.2 m p p 1) (rX3_tieLace_t_44 r2 r3 r6 r8 a1.1 a1.2.1 a1.2.2.1 a1.2.2.2.1 a1.2.2.2.2 m p p 1) (rX3_tieLace_t_45 r2 r3 r6 r8 a1.1 a1.2.1 a1.2.2.1 a1.2.2.2.1 a1.2.2.2.2 m p p 1) n), (rX6_passDay_t_45 (rX3_tieLace_t_43 r2 r3 r6 r8 a1.1 a1.2.1 a1.2.2.1 a1.2.2.2.1 a1.2.2.2.2 m p p 1) (rX3_tieLace_t_44 r2 r3 r6 r8 a1.1 a1.2.1 a1.2.2.1 a1.2.2.2.1 a1.2.2.2.2 m p p 1) (rX3_tieLace_t_45 r2 r3 r6 r8 a1.1 a1.2.1 a1.2.2.1 a1.2.2.2.1 a1.2.2.2.2 m p p 1) n), (rX3_tieLace_t_46 r2 r3 r6 r8 a1.1 a1.2.1 a1.2.2.1 a1.2.2.2.1 a1.2.2.2.2 m p p 1), (rX3_tieLace_t_47 r2 r3 r6 r8 a1.1 a1.2.1 a1.2.2.1 a1.2.2.2.1 a1.2.2.2.2 m p p 1)))) : Sum ((Nat → Int32) × (Nat → Int32) × (Nat → Int32) × (Nat → Int32) × (Nat → Int32)) (Int32 × (Nat → Int32) × (Nat → Int32) × (Nat → Int32) × (Nat → Int32) × (Nat → Int32)))) 100 ((rX6_copyFrom_43 r38 r39 r40 r41 r42 r43 r44 r45 r46 r47), (rX6_copyFrom_44 r38 r39 r40 r41 r42 r43 r44 r45 r46 r47), (rX6_copyFrom_45 r38 r39 r40 r41 r42 r43 r44 r45 r46 r47), (rX6_copyFrom_46 r38 r39 r40 r41 r42 r43 r44 r45 r46 r47), (rX6_copyFrom_47 r38 r39 r40 r41 r42 r43 r44 r45 r46 r47)))))
set_option maxHeartbeats 1000000 in
theorem sp_X9_catches {d kc ks : Nat} {h : Nat → Nat → Int32} {g : Nat → Nat → Int64} {Q : jj_Rs → jj_St → Prop} {n : Nat} {m : Nat} {p : Int32} (hP : h 1 0 = nI n) (hn : n ≤ 8) (hm : h 7 1 = nI m) (hm2 : m ≤ 150) (kq : ∀ h9, jj_eq [10, 11] h h9 → Q (vX9_catches (h 0) (h 1) (h 2) (h 3) (h 6) (h 8) (h 38) (h 39) (h 40) (h 41) (h 42) (h 43) (h 44) (h 45) (h 46) (h 47) n m p) (jj_S, 782, (jj_rs h9 [(0, (rX9_catches_0 (h 0) (h 1) (h 2) (h 3) (h 6) (h 8) (h 38) (h 39) (h 40) (h 41) (h 42) (h 43) (h 44) (h 45) (h 46) (h 47) n m p)), (43, (rX9_catches_43 (h 0) (h 1) (h 2) (h 3) (h 6) (h 8) (h 38) (h 39) (h 40) (h 41) (h 42) (h 43) (h 44) (h 45) (h 46) (h 47) n m p)), (44, (rX9_catches_44 (h 0) (h 1) (h 2) (h 3) (h 6) (h 8) (h 38) (h 39) (h 40) (h 41) (h 42) (h 43) (h 44) (h 45) (h 46) (h 47) n m p)), (45, (rX9_catches_45 (h 0) (h 1) (h 2) (h 3) (h 6) (h 8) (h 38) (h 39) (h 40) (h 41) (h 42) (h 43) (h 44) (h 45) (h 46) (h 47) n m p)), (46, (rX9_catches_46 (h 0) (h 1) (h 2) (h 3) (h 6) (h 8) (h 38) (h 39) (h 40) (h 41) (h 42) (h 43) (h 44) (h 45) (h 46) (h 47) n m p)), (47, (rX9_catches_47 (h 0) (h 1) (h 2) (h 3) (h 6) (h 8) (h 38) (h 39) (h 40) (h 41) (h 42) (h 43) (h 44) (h 45) (h 46) (h 47) n m p))]), g)) : jj_R mX9_catches (d + 7) (kc + 1) (ks + 6) (jj_S, 782, h, g) 0 [(0, .ref 0), (1, .int p)] [] Q := by
  refine rr_aload_n 0 rfl rfl dX9_catches_0 ?_
  refine rr_iload_n 1 rfl rfl dX9_catches_1 ?_
  refine rr_callV (As := [.int p]) (rest := []) (kc2 := 1) (ks2 := 6) dX9_catches_2 okX9_requirePerson lX9_198 lo_0 sh_0 rfl rfl (Nat.le_of_ble_eq_true rfl) (Nat.le_of_ble_eq_true rfl) rfl (by omega) (by simp [jj_rk]) (by simp [jj_rk]) ?_
  refine sp_X9_requirePerson  (fun c1 => ?_) (fun c1 => ?_)
  · skip
    show jj_R _ _ kc ks (jj_S, 782, h, g) 5 [(0, .ref 0), (1, .int p)] [] Q
    refine rr_aload_n 0 rfl rfl dX9_catches_5 ?_
    refine rr_getR dX9_catches_6 fX9_84 lo_0 sh_0 rfl ?_
    refine rr_aload_n 0 rfl rfl dX9_catches_9 ?_
    refine rr_getR dX9_catches_10 fX9_80 lo_0 sh_0 rfl ?_
    refine rr_callV (As := [.ref 38]) (rest := []) (kc2 := 0) (ks2 := 0) dX9_catches_13 okX6_copyFrom lX9_257 lo_43 sh_43 rfl rfl (Nat.le_of_ble_eq_true rfl) (Nat.le_of_ble_eq_true rfl) rfl (by omega) (by simp [jj_rk]) (by simp [jj_rk]) ?_
    refine sp_X6_copyFrom  ?_
    show jj_R _ _ kc ks (jj_S, 782, (jj_rs h [(43, (rX6_copyFrom_43 (h 38) (h 39) (h 40) (h 41) (h 42) (h 43) (h 44) (h 45) (h 46) (h 47))), (44, (rX6_copyFrom_44 (h 38) (h 39) (h 40) (h 41) (h 42) (h 43) (h 44) (h 45) (h 46) (h 47))), (45, (rX6_copyFrom_45 (h 38) (h 39) (h 40) (h 41) (h 42) (h 43) (h 44) (h 45) (h 46) (h 47))), (46, (rX6_copyFrom_46 (h 38) (h 39) (h 40) (h 41) (h 42) (h 43) (h 44) (h 45) (h 46) (h 47))), (47, (rX6_copyFrom_47 (h 38) (h 39) (h 40) (h 41) (h 42) (h 43) (h 44) (h 45) (h 46) (h 47)))]), g) 16 [(0, .ref 0), (1, .int p)] [] Q
    refine rr_iconst 0 rfl dX9_catches_16 ?_
    refine rr_istore_n [(0, .ref 0), (1, .int p), (2, .int 0)] dX9_catches_17 rfl (by decide) rfl ?_
    refine jj_forx (fun k1 (a1 : (Nat → Int32) × (Nat → Int32) × (Nat → Int32) × (Nat → Int32) × (Nat → Int32)) => ∀ hc1, jj_eq [10, 11] h hc1 → jj_R _ _ kc ks (jj_S, 782, (jj_rs hc1 [(43, a1.1), (44, a1.2.1), (45, a1.2.2.1), (46, a1.2.2.2.1), (47, a1.2.2.2.2)]), g) 18 [(0, .ref 0), (1, .int p), (2, .int (nI k1))] [] Q) (fun k1 (a1 : (Nat → Int32) × (Nat → Int32) × (Nat → Int32) × (Nat → Int32) × (Nat → Int32)) => ((if (vX6_behindOf_t a1.1 a1.2.1 p) = 0 then (.inr ((nI k1), a1.1, a1.2.1, a1.2.2.1, a1.2.2.2.1, a1.2.2.2.2)) else (.inl ((rX6_passDay_t_43 (rX3_tieLace_t_43 (h 2) (h 3) (h 6) (h 8) a1.1 a1.2.1 a1.2.2.1 a1.2.2.2.1 a1.2.2.2.2 m p p 1) (rX3_tieLace_t_44 (h 2) (h 3) (h 6) (h 8) a1.1 a1.2.1 a1.2.2.1 a1.2.2.2.1 a1.2.2.2.2 m p p 1) (rX3_tieLace_t_45 (h 2) (h 3) (h 6) (h 8) a1.1 a1.2.1 a1.2.2.1 a1.2.2.2.1 a1.2.2.2.2 m p p 1) n), (rX6_passDay_t_44 (rX3_tieLace_t_43 (h 2) (h 3) (h 6) (h 8) a1.1 a1.2.1 a1.2.2.1 a1.2.2.2.1 a1.2.2.2.2 m p p 1) (rX3_tieLace_t_44 (h 2) (h 3) (h 6) (h 8) a1.1 a1.2.1 a1.2.2.1 a1.2.2.2.1 a1.2.2.2.2 m p p 1) (rX3_tieLace_t_45 (h 2) (h 3) (h 6) (h 8) a1.1 a1.2.1 a1.2.2.1 a1.2.2.2.1 a1.2.2.2.2 m p p 1) n), (rX6_passDay_t_45 (rX3_tieLace_t_43 (h 2) (h 3) (h 6) (h 8) a1.1 a1.2.1 a1.2.2.1 a1.2.2.2.1 a1.2.2.2.2 m p p 1) (rX3_tieLace_t_44 (h 2) (h 3) (h 6) (h 8) a1.1 a1.2.1 a1.2.2.1 a1.2.2.2.1 a1.2.2.2.2 m p p 1) (rX3_tieLace_t_45 (h 2) (h 3) (h 6) (h 8) a1.1 a1.2.1 a1.2.2.1 a1.2.2.2.1 a1.2.2.2.2 m p p 1) n), (rX3_tieLace_t_46 (h 2) (h 3) (h 6) (h 8) a1.1 a1.2.1 a1.2.2.1 a1.2.2.2.1 a1.2.2.2.2 m p p 1), (rX3_tieLace_t_47 (h 2) (h 3) (h 6) (h 8) a1.1 a1.2.1 a1.2.2.1 a1.2.2.2.1 a1.2.2.2.2 m p p 1)))) : Sum ((Nat → Int32) × (Nat → Int32) × (Nat → Int32) × (Nat → Int32) × (Nat → Int32)) (Int32 × (Nat → Int32) × (Nat → Int32) × (Nat → Int32) × (Nat → Int32) × (Nat → Int32)))) 100 ((rX6_copyFrom_43 (h 38) (h 39) (h 40) (h 41) (h 42) (h 43) (h 44) (h 45) (h 46) (h 47)), (rX6_copyFrom_44 (h 38) (h 39) (h 40) (h 41) (h 42) (h 43) (h 44) (h 45) (h 46) (h 47)), (rX6_copyFrom_45 (h 38) (h 39) (h 40) (h 41) (h 42) (h 43) (h 44) (h 45) (h 46) (h 47)), (rX6_copyFrom_46 (h 38) (h 39) (h 40) (h 41) (h 42) (h 43) (h 44) (h 45) (h 46) (h 47)), (rX6_copyFrom_47 (h 38) (h 39) (h 40) (h 41) (h 42) (h 43) (h 44) (h 45) (h 46) (h 47))) (fun (r1_ : Int32 × (Nat → Int32) × (Nat → Int32) × (Nat → Int32) × (Nat → Int32) × (Nat → Int32)) => ∀ hc1, jj_eq [10, 11] h hc1 → Q (.inl (some (.int r1_.1))) (jj_S, 782, (jj_rs hc1 [(43, r1_.2.1), (44, r1_.2.2.1), (45, r1_.2.2.2.1), (46, r1_.2.2.2.2.1), (47, r1_.2.2.2.2.2)]), g)) ?_ ?_ ?_ h jj_eq.rf
    · intro k1 hk1 a1 ih1 ix1 hc1 ec1
      try dsimp only at ih1 ix1 ⊢
      refine rr_iload_n 2 rfl rfl dX9_catches_18 ?_
      refine rr_bipush 99 rfl dX9_catches_19 ?_
      refine rr_icmp_gt dX9_catches_21 (fun c => absurd c (jj_ngt (a := k1) (b := 99) (by omega) (by omega))) (fun _ => ?_)
      refine rr_aload_n 0 rfl rfl dX9_catches_24 ?_
      refine rr_getR dX9_catches_25 fX9_84 lo_0 sh_0 rfl ?_
      refine rr_iload_n 1 rfl rfl dX9_catches_28 ?_
      refine rr_callV (As := [.int p]) (rest := []) (kc2 := 0) (ks2 := 0) dX9_catches_29 okX6_behindOf lX9_216 lo_43 sh_43 rfl rfl (Nat.le_of_ble_eq_true rfl) (Nat.le_of_ble_eq_true rfl) rfl (by omega) (by simp [jj_rk]) (by simp [jj_rk]) ?_
      refine sp_X6_behindOf_t (by first | assumption | (rw [show (jj_rs hc1 [(43, a1.1), (44, a1.2.1), (45, a1.2.2.1), (46, a1.2.2.2.1), (47, a1.2.2.2.2)]) 7 = hc1 7 from rfl]; rw [ec1 7 (by decide)]; assumption) | (rw [show (jj_rs hc1 [(43, a1.1), (44, a1.2.1), (45, a1.2.2.1), (46, a1.2.2.2.1), (47, a1.2.2.2.2)]) 1 = hc1 1 from rfl]; rw [ec1 1 (by decide)]; assumption) | exact jj_pers hP hn (by assumption) | exact vp_in_nI (by omega) (by decide) | decide | omega) ?_
      show jj_R _ _ kc ks (jj_S, 782, (jj_rs hc1 [(43, a1.1), (44, a1.2.1), (45, a1.2.2.1), (46, a1.2.2.2.1), (47, a1.2.2.2.2)]), g) 32 [(0, .ref 0), (1, .int p), (2, .int (nI k1))] [.int (vX6_behindOf_t a1.1 a1.2.1 p)] Q
      refine rr_if_ne dX9_catches_32 (fun c2 => ?_) (fun c2 => ?_)
      · skip
        refine rr_aload_n 0 rfl rfl dX9_catches_37 ?_
        refine rr_getR dX9_catches_38 fX9_38 lo_0 sh_0 rfl ?_
        refine rr_aload_n 0 rfl rfl dX9_catches_41 ?_
        refine rr_getR dX9_catches_42 fX9_84 lo_0 sh_0 rfl ?_
        refine rr_iload_n 1 rfl rfl dX9_catches_45 ?_
        refine rr_iload_n 1 rfl rfl dX9_catches_46 ?_
        refine rr_iconst 1 rfl dX9_catches_47 ?_
        refine rr_callV (As := [.ref 43, .int p, .int p, .int 1]) (rest := []) (kc2 := 0) (ks2 := 0) dX9_catches_48 okX3_tieLace lX9_259 lo_12 sh_12 rfl rfl (Nat.le_of_ble_eq_true rfl) (Nat.le_of_ble_eq_true rfl) rfl (by omega) (by simp [jj_rk]) (by simp [jj_rk]) ?_
        refine sp_X3_tieLace_t (by first | assumption | (rw [show (jj_rs hc1 [(43, a1.1), (44, a1.2.1), (45, a1.2.2.1), (46, a1.2.2.2.1), (47, a1.2.2.2.2)]) 7 = hc1 7 from rfl]; rw [ec1 7 (by decide)]; assumption) | (rw [show (jj_rs hc1 [(43, a1.1), (44, a1.2.1), (45, a1.2.2.1), (46, a1.2.2.2.1), (47, a1.2.2.2.2)]) 1 = hc1 1 from rfl]; rw [ec1 1 (by decide)]; assumption) | exact jj_pers hP hn (by assumption) | exact vp_in_nI (by omega) (by decide) | decide | omega) (by first | assumption | (rw [show (jj_rs hc1 [(43, a1.1), (44, a1.2.1), (45, a1.2.2.1), (46, a1.2.2.2.1), (47, a1.2.2.2.2)]) 7 = hc1 7 from rfl]; rw [ec1 7 (by decide)]; assumption) | (rw [show (jj_rs hc1 [(43, a1.1), (44, a1.2.1), (45, a1.2.2.1), (46, a1.2.2.2.1), (47, a1.2.2.2.2)]) 1 = hc1 1 from rfl]; rw [ec1 1 (by decide)]; assumption) | exact jj_pers hP hn (by assumption) | exact vp_in_nI (by omega) (by decide) | decide | omega) (by first | assumption | (rw [show (jj_rs hc1 [(43, a1.1), (44, a1.2.1), (45, a1.2.2.1), (46, a1.2.2.2.1), (47, a1.2.2.2.2)]) 7 = hc1 7 from rfl]; rw [ec1 7 (by decide)]; assumption) | (rw [show (jj_rs hc1 [(43, a1.1), (44, a1.2.1), (45, a1.2.2.1), (46, a1.2.2.2.1), (47, a1.2.2.2.2)]) 1 = hc1 1 from rfl]; rw [ec1 1 (by decide)]; assumption) | exact jj_pers hP hn (by assumption) | exact vp_in_nI (by omega) (by decide) | decide | omega) (by first | assumption | (rw [show (jj_rs hc1 [(43, a1.1), (44, a1.2.1), (45, a1.2.2.1), (46, a1.2.2.2.1), (47, a1.2.2.2.2)]) 7 = hc1 7 from rfl]; rw [ec1 7 (by decide)]; assumption) | (rw [show (jj_rs hc1 [(43, a1.1), (44, a1.2.1), (45, a1.2.2.1), (46, a1.2.2.2.1), (47, a1.2.2.2.2)]) 1 = hc1 1 from rfl]; rw [ec1 1 (by decide)]; assumption) | exact jj_pers hP hn (by assumption) | exact vp_in_nI (by omega) (by decide) | decide | omega) (fun h3 e4 => ?_)
        obtain ⟨h6, e5, rfl⟩ := jj_lo (X := [10, 11]) ec1 e4 (by decide) (by simp [List.lookup])
        show jj_R _ _ kc ks (jj_S, 782, (jj_rs (jj_rs h6 [(43, a1.1), (44, a1.2.1), (45, a1.2.2.1), (46, a1.2.2.2.1), (47, a1.2.2.2.2)]) [(43, (rX3_tieLace_t_43 (hc1 2) (hc1 3) (hc1 6) (hc1 8) a1.1 a1.2.1 a1.2.2.1 a1.2.2.2.1 a1.2.2.2.2 m p p 1)), (44, (rX3_tieLace_t_44 (hc1 2) (hc1 3) (hc1 6) (hc1 8) a1.1 a1.2.1 a1.2.2.1 a1.2.2.2.1 a1.2.2.2.2 m p p 1)), (45, (rX3_tieLace_t_45 (hc1 2) (hc1 3) (hc1 6) (hc1 8) a1.1 a1.2.1 a1.2.2.1 a1.2.2.2.1 a1.2.2.2.2 m p p 1)), (46, (rX3_tieLace_t_46 (hc1 2) (hc1 3) (hc1 6) (hc1 8) a1.1 a1.2.1 a1.2.2.1 a1.2.2.2.1 a1.2.2.2.2 m p p 1)), (47, (rX3_tieLace_t_47 (hc1 2) (hc1 3) (hc1 6) (hc1 8) a1.1 a1.2.1 a1.2.2.1 a1.2.2.2.1 a1.2.2.2.2 m p p 1))]), g) 51 [(0, .ref 0), (1, .int p), (2, .int (nI k1))] [.int (vX3_tieLace_t (hc1 2) (hc1 3) (hc1 6) (hc1 8) a1.1 a1.2.1 a1.2.2.1 a1.2.2.2.1 a1.2.2.2.2 m p p 1)] Q
        rw [jj_rs_rs (B := h6) (L := [(43, a1.1), (44, a1.2.1), (45, a1.2.2.1), (46, a1.2.2.2.1), (47, a1.2.2.2.2)]) (M := [(43, (rX3_tieLace_t_43 (hc1 2) (hc1 3) (hc1 6) (hc1 8) a1.1 a1.2.1 a1.2.2.1 a1.2.2.2.1 a1.2.2.2.2 m p p 1)), (44, (rX3_tieLace_t_44 (hc1 2) (hc1 3) (hc1 6) (hc1 8) a1.1 a1.2.1 a1.2.2.1 a1.2.2.2.1 a1.2.2.2.2 m p p 1)), (45, (rX3_tieLace_t_45 (hc1 2) (hc1 3) (hc1 6) (hc1 8) a1.1 a1.2.1 a1.2.2.1 a1.2.2.2.1 a1.2.2.2.2 m p p 1)), (46, (rX3_tieLace_t_46 (hc1 2) (hc1 3) (hc1 6) (hc1 8) a1.1 a1.2.1 a1.2.2.1 a1.2.2.2.1 a1.2.2.2.2 m p p 1)), (47, (rX3_tieLace_t_47 (hc1 2) (hc1 3) (hc1 6) (hc1 8) a1.1 a1.2.1 a1.2.2.1 a1.2.2.2.1 a1.2.2.2.2 m p p 1))]) (L2 := [(43, (rX3_tieLace_t_43 (hc1 2) (hc1 3) (hc1 6) (hc1 8) a1.1 a1.2.1 a1.2.2.1 a1.2.2.2.1 a1.2.2.2.2 m p p 1)), (44, (rX3_tieLace_t_44 (hc1 2) (hc1 3) (hc1 6) (hc1 8) a1.1 a1.2.1 a1.2.2.1 a1.2.2.2.1 a1.2.2.2.2 m p p 1)), (45, (rX3_tieLace_t_45 (hc1 2) (hc1 3) (hc1 6) (hc1 8) a1.1 a1.2.1 a1.2.2.1 a1.2.2.2.1 a1.2.2.2.2 m p p 1)), (46, (rX3_tieLace_t_46 (hc1 2) (hc1 3) (hc1 6) (hc1 8) a1.1 a1.2.1 a1.2.2.1 a1.2.2.2.1 a1.2.2.2.2 m p p 1)), (47, (rX3_tieLace_t_47 (hc1 2) (hc1 3) (hc1 6) (hc1 8) a1.1 a1.2.1 a1.2.2.1 a1.2.2.2.1 a1.2.2.2.2 m p p 1))]) rfl]
        try rw [ec1 2 (by decide)]
        try rw [ec1 3 (by decide)]
        try rw [ec1 6 (by decide)]
        try rw [ec1 8 (by decide)]
        refine rr_pop rfl dX9_catches_51 ?_
        refine rr_aload_n 0 rfl rfl dX9_catches_52 ?_
        refine rr_getR dX9_catches_53 fX9_84 lo_0 sh_0 rfl ?_
        refine rr_aload_n 0 rfl rfl dX9_catches_56 ?_
        refine rr_getR dX9_catches_57 fX9_27 lo_0 sh_0 rfl ?_
        refine rr_getI dX9_catches_60 fX9_132 lo_1 sh_1 rfl ?_
        rw [show (jj_rs h6 [(43, (rX3_tieLace_t_43 (h 2) (h 3) (h 6) (h 8) a1.1 a1.2.1 a1.2.2.1 a1.2.2.2.1 a1.2.2.2.2 m p p 1)), (44, (rX3_tieLace_t_44 (h 2) (h 3) (h 6) (h 8) a1.1 a1.2.1 a1.2.2.1 a1.2.2.2.1 a1.2.2.2.2 m p p 1)), (45, (rX3_tieLace_t_45 (h 2) (h 3) (h 6) (h 8) a1.1 a1.2.1 a1.2.2.1 a1.2.2.2.1 a1.2.2.2.2 m p p 1)), (46, (rX3_tieLace_t_46 (h 2) (h 3) (h 6) (h 8) a1.1 a1.2.1 a1.2.2.1 a1.2.2.2.1 a1.2.2.2.2 m p p 1)), (47, (rX3_tieLace_t_47 (h 2) (h 3) (h 6) (h 8) a1.1 a1.2.1 a1.2.2.1 a1.2.2.2.1 a1.2.2.2.2 m p p 1))]) 1 = h6 1 from rfl]
        rw [e5 1 (by decide)]
        rw [hP]
        refine rr_callV (As := [.int (nI n)]) (rest := []) (kc2 := 0) (ks2 := 0) dX9_catches_63 okX6_passDay lX9_263 lo_43 sh_43 rfl rfl (Nat.le_of_ble_eq_true rfl) (Nat.le_of_ble_eq_true rfl) rfl (by omega) (by simp [jj_rk]) (by simp [jj_rk]) ?_
        refine sp_X6_passDay_t (by first | assumption | (rw [show (jj_rs h6 [(43, (rX3_tieLace_t_43 (h 2) (h 3) (h 6) (h 8) a1.1 a1.2.1 a1.2.2.1 a1.2.2.2.1 a1.2.2.2.2 m p p 1)), (44, (rX3_tieLace_t_44 (h 2) (h 3) (h 6) (h 8) a1.1 a1.2.1 a1.2.2.1 a1.2.2.2.1 a1.2.2.2.2 m p p 1)), (45, (rX3_tieLace_t_45 (h 2) (h 3) (h 6) (h 8) a1.1 a1.2.1 a1.2.2.1 a1.2.2.2.1 a1.2.2.2.2 m p p 1)), (46, (rX3_tieLace_t_46 (h 2) (h 3) (h 6) (h 8) a1.1 a1.2.1 a1.2.2.1 a1.2.2.2.1 a1.2.2.2.2 m p p 1)), (47, (rX3_tieLace_t_47 (h 2) (h 3) (h 6) (h 8) a1.1 a1.2.1 a1.2.2.1 a1.2.2.2.1 a1.2.2.2.2 m p p 1))]) 7 = h6 7 from rfl]; rw [e5 7 (by decide)]; assumption) | (rw [show (jj_rs h6 [(43, (rX3_tieLace_t_43 (h 2) (h 3) (h 6) (h 8) a1.1 a1.2.1 a1.2.2.1 a1.2.2.2.1 a1.2.2.2.2 m p p 1)), (44, (rX3_tieLace_t_44 (h 2) (h 3) (h 6) (h 8) a1.1 a1.2.1 a1.2.2.1 a1.2.2.2.1 a1.2.2.2.2 m p p 1)), (45, (rX3_tieLace_t_45 (h 2) (h 3) (h 6) (h 8) a1.1 a1.2.1 a1.2.2.1 a1.2.2.2.1 a1.2.2.2.2 m p p 1)), (46, (rX3_tieLace_t_46 (h 2) (h 3) (h 6) (h 8) a1.1 a1.2.1 a1.2.2.1 a1.2.2.2.1 a1.2.2.2.2 m p p 1)), (47, (rX3_tieLace_t_47 (h 2) (h 3) (h 6) (h 8) a1.1 a1.2.1 a1.2.2.1 a1.2.2.2.1 a1.2.2.2.2 m p p 1))]) 1 = h6 1 from rfl]; rw [e5 1 (by decide)]; assumption) | exact jj_pers hP hn (by assumption) | exact vp_in_nI (by omega) (by decide) | decide | omega) ?_
        show jj_R _ _ kc ks (jj_S, 782, (jj_rs (jj_rs h6 [(43, (rX3_tieLace_t_43 (h 2) (h 3) (h 6) (h 8) a1.1 a1.2.1 a1.2.2.1 a1.2.2.2.1 a1.2.2.2.2 m p p 1)), (44, (rX3_tieLace_t_44 (h 2) (h 3) (h 6) (h 8) a1.1 a1.2.1 a1.2.2.1 a1.2.2.2.1 a1.2.2.2.2 m p p 1)), (45, (rX3_tieLace_t_45 (h 2) (h 3) (h 6) (h 8) a1.1 a1.2.1 a1.2.2.1 a1.2.2.2.1 a1.2.2.2.2 m p p 1)), (46, (rX3_tieLace_t_46 (h 2) (h 3) (h 6) (h 8) a1.1 a1.2.1 a1.2.2.1 a1.2.2.2.1 a1.2.2.2.2 m p p 1)), (47, (rX3_tieLace_t_47 (h 2) (h 3) (h 6) (h 8) a1.1 a1.2.1 a1.2.2.1 a1.2.2.2.1 a1.2.2.2.2 m p p 1))]) [(43, (rX6_passDay_t_43 (rX3_tieLace_t_43 (h 2) (h 3) (h 6) (h 8) a1.1 a1.2.1 a1.2.2.1 a1.2.2.2.1 a1.2.2.2.2 m p p 1) (rX3_tieLace_t_44 (h 2) (h 3) (h 6) (h 8) a1.1 a1.2.1 a1.2.2.1 a1.2.2.2.1 a1.2.2.2.2 m p p 1) (rX3_tieLace_t_45 (h 2) (h 3) (h 6) (h 8) a1.1 a1.2.1 a1.2.2.1 a1.2.2.2.1 a1.2.2.2.2 m p p 1) n)), (44, (rX6_passDay_t_44 (rX3_tieLace_t_43 (h 2) (h 3) (h 6) (h 8) a1.1 a1.2.1 a1.2.2.1 a1.2.2.2.1 a1.2.2.2.2 m p p 1) (rX3_tieLace_t_44 (h 2) (h 3) (h 6) (h 8) a1.1 a1.2.1 a1.2.2.1 a1.2.2.2.1 a1.2.2.2.2 m p p 1) (rX3_tieLace_t_45 (h 2) (h 3) (h 6) (h 8) a1.1 a1.2.1 a1.2.2.1 a1.2.2.2.1 a1.2.2.2.2 m p p 1) n)), (45, (rX6_passDay_t_45 (rX3_tieLace_t_43 (h 2) (h 3) (h 6) (h 8) a1.1 a1.2.1 a1.2.2.1 a1.2.2.2.1 a1.2.2.2.2 m p p 1) (rX3_tieLace_t_44 (h 2) (h 3) (h 6) (h 8) a1.1 a1.2.1 a1.2.2.1 a1.2.2.2.1 a1.2.2.2.2 m p p 1) (rX3_tieLace_t_45 (h 2) (h 3) (h 6) (h 8) a1.1 a1.2.1 a1.2.2.1 a1.2.2.2.1 a1.2.2.2.2 m p p 1) n))]), g) 66 [(0, .ref 0), (1, .int p), (2, .int (nI k1))] [] Q
        rw [jj_rs_rs (B := h6) (L := [(43, (rX3_tieLace_t_43 (h 2) (h 3) (h 6) (h 8) a1.1 a1.2.1 a1.2.2.1 a1.2.2.2.1 a1.2.2.2.2 m p p 1)), (44, (rX3_tieLace_t_44 (h 2) (h 3) (h 6) (h 8) a1.1 a1.2.1 a1.2.2.1 a1.2.2.2.1 a1.2.2.2.2 m p p 1)), (45, (rX3_tieLace_t_45 (h 2) (h 3) (h 6) (h 8) a1.1 a1.2.1 a1.2.2.1 a1.2.2.2.1 a1.2.2.2.2 m p p 1)), (46, (rX3_tieLace_t_46 (h 2) (h 3) (h 6) (h 8) a1.1 a1.2.1 a1.2.2.1 a1.2.2.2.1 a1.2.2.2.2 m p p 1)), (47, (rX3_tieLace_t_47 (h 2) (h 3) (h 6) (h 8) a1.1 a1.2.1 a1.2.2.1 a1.2.2.2.1 a1.2.2.2.2 m p p 1))]) (M := [(43, (rX6_passDay_t_43 (rX3_tieLace_t_43 (h 2) (h 3) (h 6) (h 8) a1.1 a1.2.1 a1.2.2.1 a1.2.2.2.1 a1.2.2.2.2 m p p 1) (rX3_tieLace_t_44 (h 2) (h 3) (h 6) (h 8) a1.1 a1.2.1 a1.2.2.1 a1.2.2.2.1 a1.2.2.2.2 m p p 1) (rX3_tieLace_t_45 (h 2) (h 3) (h 6) (h 8) a1.1 a1.2.1 a1.2.2.1 a1.2.2.2.1 a1.2.2.2.2 m p p 1) n)), (44, (rX6_passDay_t_44 (rX3_tieLace_t_43 (h 2) (h 3) (h 6) (h 8) a1.1 a1.2.1 a1.2.2.1 a1.2.2.2.1 a1.2.2.2.2 m p p 1) (rX3_tieLace_t_44 (h 2) (h 3) (h 6) (h 8) a1.1 a1.2.1 a1.2.2.1 a1.2.2.2.1 a1.2.2.2.2 m p p 1) (rX3_tieLace_t_45 (h 2) (h 3) (h 6) (h 8) a1.1 a1.2.1 a1.2.2.1 a1.2.2.2.1 a1.2.2.2.2 m p p 1) n)), (45, (rX6_passDay_t_45 (rX3_tieLace_t_43 (h 2) (h 3) (h 6) (h 8) a1.1 a1.2.1 a1.2.2.1 a1.2.2.2.1 a1.2.2.2.2 m p p 1) (rX3_tieLace_t_44 (h 2) (h 3) (h 6) (h 8) a1.1 a1.2.1 a1.2.2.1 a1.2.2.2.1 a1.2.2.2.2 m p p 1) (rX3_tieLace_t_45 (h 2) (h 3) (h 6) (h 8) a1.1 a1.2.1 a1.2.2.1 a1.2.2.2.1 a1.2.2.2.2 m p p 1) n))]) (L2 := [(43, (rX6_passDay_t_43 (rX3_tieLace_t_43 (h 2) (h 3) (h 6) (h 8) a1.1 a1.2.1 a1.2.2.1 a1.2.2.2.1 a1.2.2.2.2 m p p 1) (rX3_tieLace_t_44 (h 2) (h 3) (h 6) (h 8) a1.1 a1.2.1 a1.2.2.1 a1.2.2.2.1 a1.2.2.2.2 m p p 1) (rX3_tieLace_t_45 (h 2) (h 3) (h 6) (h 8) a1.1 a1.2.1 a1.2.2.1 a1.2.2.2.1 a1.2.2.2.2 m p p 1) n)), (44, (rX6_passDay_t_44 (rX3_tieLace_t_43 (h 2) (h 3) (h 6) (h 8) a1.1 a1.2.1 a1.2.2.1 a1.2.2.2.1 a1.2.2.2.2 m p p 1) (rX3_tieLace_t_44 (h 2) (h 3) (h 6) (h 8) a1.1 a1.2.1 a1.2.2.1 a1.2.2.2.1 a1.2.2.2.2 m p p 1) (rX3_tieLace_t_45 (h 2) (h 3) (h 6) (h 8) a1.1 a1.2.1 a1.2.2.1 a1.2.2.2.1 a1.2.2.2.2 m p p 1) n)), (45, (rX6_passDay_t_45 (rX3_tieLace_t_43 (h 2) (h 3) (h 6) (h 8) a1.1 a1.2.1 a1.2.2.1 a1.2.2.2.1 a1.2.2.2.2 m p p 1) (rX3_tieLace_t_44 (h 2) (h 3) (h 6) (h 8) a1.1 a1.2.1 a1.2.2.1 a1.2.2.2.1 a1.2.2.2.2 m p p 1) (rX3_tieLace_t_45 (h 2) (h 3) (h 6) (h 8) a1.1 a1.2.1 a1.2.2.1 a1.2.2.2.1 a1.2.2.2.2 m p p 1) n)), (46, (rX3_tieLace_t_46 (h 2) (h 3) (h 6) (h 8) a1.1 a1.2.1 a1.2.2.1 a1.2.2.2.1 a1.2.2.2.2 m p p 1)), (47, (rX3_tieLace_t_47 (h 2) (h 3) (h 6) (h 8) a1.1 a1.2.1 a1.2.2.1 a1.2.2.2.1 a1.2.2.2.2 m p p 1))]) rfl]
        refine rr_iinc 2 1 [(0, .ref 0), (1, .int p), (2, .int ((nI k1) + 1))] dX9_catches_66 rfl rfl (by decide) rfl ?_
        refine rr_goto dX9_catches_69 ?_
        try simp only [(nI_clamp (show k1 < 2 ^ 31 by omega))] at c2
        simpa only [nI_1, (nI_clamp (show k1 < 2 ^ 31 by omega)), if_neg c2] using ih1 ((rX6_passDay_t_43 (rX3_tieLace_t_43 (h 2) (h 3) (h 6) (h 8) a1.1 a1.2.1 a1.2.2.1 a1.2.2.2.1 a1.2.2.2.2 m p p 1) (rX3_tieLace_t_44 (h 2) (h 3) (h 6) (h 8) a1.1 a1.2.1 a1.2.2.1 a1.2.2.2.1 a1.2.2.2.2 m p p 1) (rX3_tieLace_t_45 (h 2) (h 3) (h 6) (h 8) a1.1 a1.2.1 a1.2.2.1 a1.2.2.2.1 a1.2.2.2.2 m p p 1) n), (rX6_passDay_t_44 (rX3_tieLace_t_43 (h 2) (h 3) (h 6) (h 8) a1.1 a1.2.1 a1.2.2.1 a1.2.2.2.1 a1.2.2.2.2 m p p 1) (rX3_tieLace_t_44 (h 2) (h 3) (h 6) (h 8) a1.1 a1.2.1 a1.2.2.1 a1.2.2.2.1 a1.2.2.2.2 m p p 1) (rX3_tieLace_t_45 (h 2) (h 3) (h 6) (h 8) a1.1 a1.2.1 a1.2.2.1 a1.2.2.2.1 a1.2.2.2.2 m p p 1) n), (rX6_passDay_t_45 (rX3_tieLace_t_43 (h 2) (h 3) (h 6) (h 8) a1.1 a1.2.1 a1.2.2.1 a1.2.2.2.1 a1.2.2.2.2 m p p 1) (rX3_tieLace_t_44 (h 2) (h 3) (h 6) (h 8) a1.1 a1.2.1 a1.2.2.1 a1.2.2.2.1 a1.2.2.2.2 m p p 1) (rX3_tieLace_t_45 (h 2) (h 3) (h 6) (h 8) a1.1 a1.2.1 a1.2.2.1 a1.2.2.2.1 a1.2.2.2.2 m p p 1) n), (rX3_tieLace_t_46 (h 2) (h 3) (h 6) (h 8) a1.1 a1.2.1 a1.2.2.1 a1.2.2.2.1 a1.2.2.2.2 m p p 1), (rX3_tieLace_t_47 (h 2) (h 3) (h 6) (h 8) a1.1 a1.2.1 a1.2.2.1 a1.2.2.2.1 a1.2.2.2.2 m p p 1)) (by simp only [(nI_clamp (show k1 < 2 ^ 31 by omega)), if_neg c2]) h6 e5
      · skip
        refine rr_iload_n 2 rfl rfl dX9_catches_35 ?_
        refine rr_ireturn dX9_catches_36 rfl ?_
        try simp only [(nI_clamp (show k1 < 2 ^ 31 by omega))] at c2
        simpa only [nI_1, (nI_clamp (show k1 < 2 ^ 31 by omega)), if_pos c2] using ix1 ((nI k1), a1.1, a1.2.1, a1.2.2.1, a1.2.2.2.1, a1.2.2.2.2) (by simp only [(nI_clamp (show k1 < 2 ^ 31 by omega)), if_pos c2]) hc1 ec1
    · intro a1 hx1 hc1 ec1
      try dsimp only
      refine rr_iload_n 2 rfl rfl dX9_catches_18 ?_
      refine rr_bipush 99 rfl dX9_catches_19 ?_
      refine rr_icmp_gt dX9_catches_21 (fun _ => ?_) (fun c => absurd (by decide) c)
      refine rr_iconst (-1) rfl dX9_catches_72 ?_
      refine rr_ireturn dX9_catches_73 rfl ?_
      refine jj_Qh (jj_rs_add (B := hc1) (L := [(43, a1.1), (44, a1.2.1), (45, a1.2.2.1), (46, a1.2.2.2.1), (47, a1.2.2.2.2)]) (L2 := [(0, (h 0)), (43, a1.1), (44, a1.2.1), (45, a1.2.2.1), (46, a1.2.2.2.1), (47, a1.2.2.2.2)]) (o := 0) (r := (h 0)) ((show jj_rs hc1 [(43, a1.1), (44, a1.2.1), (45, a1.2.2.1), (46, a1.2.2.2.1), (47, a1.2.2.2.2)] 0 = hc1 0 from rfl).trans (ec1 0 (by decide))) rfl) ?_
      simpa only [vX9_catches, rX9_catches_0, rX9_catches_43, rX9_catches_44, rX9_catches_45, rX9_catches_46, rX9_catches_47, if_neg c1, hx1, Sum.elim_inl, Sum.elim_inr] using kq hc1 ec1
    · intro r1_ hx1 hc1 ec1
      try dsimp only
      refine jj_Qh (jj_rs_add (B := hc1) (L := [(43, r1_.2.1), (44, r1_.2.2.1), (45, r1_.2.2.2.1), (46, r1_.2.2.2.2.1), (47, r1_.2.2.2.2.2)]) (L2 := [(0, (h 0)), (43, r1_.2.1), (44, r1_.2.2.1), (45, r1_.2.2.2.1), (46, r1_.2.2.2.2.1), (47, r1_.2.2.2.2.2)]) (o := 0) (r := (h 0)) ((show jj_rs hc1 [(43, r1_.2.1), (44, r1_.2.2.1), (45, r1_.2.2.2.1), (46, r1_.2.2.2.2.1), (47, r1_.2.2.2.2.2)] 0 = hc1 0 from rfl).trans (ec1 0 (by decide))) rfl) ?_
      simpa only [vX9_catches, rX9_catches_0, rX9_catches_43, rX9_catches_44, rX9_catches_45, rX9_catches_46, rX9_catches_47, if_neg c1, hx1, Sum.elim_inl, Sum.elim_inr] using kq hc1 ec1
  · skip
    show Q (.inr "java/util/NoSuchElementException") (jj_S, 782, (jj_rs h [(0, (upd (h 0) 13 ((h 0) 13 + 1)))]), g)
    refine jj_Qh (jj_rs_add (B := h) (L := [(0, (upd (h 0) 13 ((h 0) 13 + 1)))]) (L2 := [(0, (upd (h 0) 13 ((h 0) 13 + 1))), (43, (h 43))]) (o := 43) (r := (h 43)) rfl rfl) ?_
    refine jj_Qh (jj_rs_add (B := h) (L := [(0, (upd (h 0) 13 ((h 0) 13 + 1))), (43, (h 43))]) (L2 := [(0, (upd (h 0) 13 ((h 0) 13 + 1))), (43, (h 43)), (44, (h 44))]) (o := 44) (r := (h 44)) rfl rfl) ?_
    refine jj_Qh (jj_rs_add (B := h) (L := [(0, (upd (h 0) 13 ((h 0) 13 + 1))), (43, (h 43)), (44, (h 44))]) (L2 := [(0, (upd (h 0) 13 ((h 0) 13 + 1))), (43, (h 43)), (44, (h 44)), (45, (h 45))]) (o := 45) (r := (h 45)) rfl rfl) ?_
    refine jj_Qh (jj_rs_add (B := h) (L := [(0, (upd (h 0) 13 ((h 0) 13 + 1))), (43, (h 43)), (44, (h 44)), (45, (h 45))]) (L2 := [(0, (upd (h 0) 13 ((h 0) 13 + 1))), (43, (h 43)), (44, (h 44)), (45, (h 45)), (46, (h 46))]) (o := 46) (r := (h 46)) rfl rfl) ?_
    refine jj_Qh (jj_rs_add (B := h) (L := [(0, (upd (h 0) 13 ((h 0) 13 + 1))), (43, (h 43)), (44, (h 44)), (45, (h 45)), (46, (h 46))]) (L2 := [(0, (upd (h 0) 13 ((h 0) 13 + 1))), (43, (h 43)), (44, (h 44)), (45, (h 45)), (46, (h 46)), (47, (h 47))]) (o := 47) (r := (h 47)) rfl rfl) ?_
    simpa only [vX9_catches, rX9_catches_0, rX9_catches_43, rX9_catches_44, rX9_catches_45, rX9_catches_46, rX9_catches_47, if_pos c1] using kq h jj_eq.rf
def vX9_hold (r0 : Nat → Int32) (r1 : Nat → Int32) (r2 : Nat → Int32) (r3 : Nat → Int32) (r6 : Nat → Int32) (r8 : Nat → Int32) (r38 : Nat → Int32) (r39 : Nat → Int32) (r41 : Nat → Int32) (m : Nat) (a : Int32) (b : Int32) (w : Int32) : jj_Rs := (if (vX9_isPerson r1 a) = 0 then (.inr "java/util/NoSuchElementException") else (if (vX9_isPerson r1 b) = 0 then (.inr "java/util/NoSuchElementException") else (if (vX9_isBit w) = 0 then (.inr "java/lang/IllegalArgumentException") else (.inl (some (.int (vX3_holdOf_n r2 r3 r6 r8 r38 r39 r41 m a b w)))))))
def rX9_hold_0 (r0 : Nat → Int32) (r1 : Nat → Int32) (r2 : Nat → Int32) (r3 : Nat → Int32) (r6 : Nat → Int32) (r8 : Nat → Int32) (r38 : Nat → Int32) (r39 : Nat → Int32) (r41 : Nat → Int32) (m : Nat) (a : Int32) (b : Int32) (w : Int32) : Nat → Int32 := (if (vX9_isPerson r1 a) = 0 then (upd r0 13 (r0 13 + 1)) else (if (vX9_isPerson r1 b) = 0 then (upd r0 13 (r0 13 + 1)) else (if (vX9_isBit w) = 0 then (upd r0 14 (r0 14 + 1)) else r0)))
set_option maxHeartbeats 1000000 in
theorem sp_X9_hold {d kc ks : Nat} {h : Nat → Nat → Int32} {g : Nat → Nat → Int64} {Q : jj_Rs → jj_St → Prop} {n : Nat} {m : Nat} {a : Int32} {b : Int32} {w : Int32} (hP : h 1 0 = nI n) (hn : n ≤ 8) (hm : h 7 1 = nI m) (hm2 : m ≤ 150) (kq : ∀ h9, jj_eq [10, 11] h h9 → Q (vX9_hold (h 0) (h 1) (h 2) (h 3) (h 6) (h 8) (h 38) (h 39) (h 41) m a b w) (jj_S, 782, (jj_rs h9 [(0, (rX9_hold_0 (h 0) (h 1) (h 2) (h 3) (h 6) (h 8) (h 38) (h 39) (h 41) m a b w))]), g)) : jj_R mX9_hold (d + 7) (kc + 3) (ks + 18) (jj_S, 782, h, g) 0 [(0, .ref 0), (1, .int a), (2, .int b), (3, .int w)] [] Q := by
  refine rr_aload_n 0 rfl rfl dX9_hold_0 ?_
  refine rr_iload_n 1 rfl rfl dX9_hold_1 ?_
  refine rr_callV (As := [.int a]) (rest := []) (kc2 := 1) (ks2 := 6) dX9_hold_2 okX9_requirePerson lX9_198 lo_0 sh_0 rfl rfl (Nat.le_of_ble_eq_true rfl) (Nat.le_of_ble_eq_true rfl) rfl (by omega) (by simp [jj_rk]) (by simp [jj_rk]) ?_
  refine sp_X9_requirePerson  (fun c1 => ?_) (fun c1 => ?_)
  · skip
    show jj_R _ _ (kc + 2) (ks + 12) (jj_S, 782, h, g) 5 [(0, .ref 0), (1, .int a), (2, .int b), (3, .int w)] [] Q
    refine rr_aload_n 0 rfl rfl dX9_hold_5 ?_
    refine rr_iload_n 2 rfl rfl dX9_hold_6 ?_
    refine rr_callV (As := [.int b]) (rest := []) (kc2 := 1) (ks2 := 6) dX9_hold_7 okX9_requirePerson lX9_198 lo_0 sh_0 rfl rfl (Nat.le_of_ble_eq_true rfl) (Nat.le_of_ble_eq_true rfl) rfl (by omega) (by simp [jj_rk]) (by simp [jj_rk]) ?_
    refine sp_X9_requirePerson  (fun c2 => ?_) (fun c2 => ?_)
    · skip
      show jj_R _ _ (kc + 1) (ks + 6) (jj_S, 782, h, g) 10 [(0, .ref 0), (1, .int a), (2, .int b), (3, .int w)] [] Q
      refine rr_aload_n 0 rfl rfl dX9_hold_10 ?_
      refine rr_iload_n 3 rfl rfl dX9_hold_11 ?_
      refine rr_callS (As := [.int w]) (rest := [.ref 0]) (kc2 := 0) (ks2 := 0) dX9_hold_12 okX9_isBit lX9_235 rfl (Nat.le_of_ble_eq_true rfl) (Nat.le_of_ble_eq_true rfl) rfl (by omega) (by simp [jj_rk]) (by simp [jj_rk]) ?_
      refine sp_X9_isBit  ?_
      show jj_R _ _ (kc + 1) (ks + 6) (jj_S, 782, h, g) 15 [(0, .ref 0), (1, .int a), (2, .int b), (3, .int w)] [.int (vX9_isBit w), .ref 0] Q
      refine rr_callV (As := [.int (vX9_isBit w)]) (rest := []) (kc2 := 1) (ks2 := 6) dX9_hold_15 okX9_require lX9_103 lo_0 sh_0 rfl rfl (Nat.le_of_ble_eq_true rfl) (Nat.le_of_ble_eq_true rfl) rfl (by omega) (by simp [jj_rk]) (by simp [jj_rk]) ?_
      refine sp_X9_require  (fun c3 => ?_) (fun c3 => ?_)
      · skip
        show jj_R _ _ kc ks (jj_S, 782, h, g) 18 [(0, .ref 0), (1, .int a), (2, .int b), (3, .int w)] [] Q
        refine rr_aload_n 0 rfl rfl dX9_hold_18 ?_
        refine rr_getR dX9_hold_19 fX9_38 lo_0 sh_0 rfl ?_
        refine rr_aload_n 0 rfl rfl dX9_hold_22 ?_
        refine rr_getR dX9_hold_23 fX9_80 lo_0 sh_0 rfl ?_
        refine rr_iload_n 1 rfl rfl dX9_hold_26 ?_
        refine rr_iload_n 2 rfl rfl dX9_hold_27 ?_
        refine rr_iload_n 3 rfl rfl dX9_hold_28 ?_
        refine rr_callV (As := [.ref 38, .int a, .int b, .int w]) (rest := []) (kc2 := 0) (ks2 := 0) dX9_hold_29 okX3_holdOf lX9_238 lo_12 sh_12 rfl rfl (Nat.le_of_ble_eq_true rfl) (Nat.le_of_ble_eq_true rfl) rfl (by omega) (by simp [jj_rk]) (by simp [jj_rk]) ?_
        refine sp_X3_holdOf_n (by first | assumption | exact jj_pers hP hn (by assumption) | exact vp_in_nI (by omega) (by decide) | decide | omega) (by first | assumption | exact jj_pers hP hn (by assumption) | exact vp_in_nI (by omega) (by decide) | decide | omega) (by first | assumption | exact jj_pers hP hn (by assumption) | exact vp_in_nI (by omega) (by decide) | decide | omega) (by first | assumption | exact jj_pers hP hn (by assumption) | exact vp_in_nI (by omega) (by decide) | decide | omega) (fun h4 e5 => ?_)
        have e6 := jj_lo0 (X := [10, 11]) (jj_eq.rf (X := [10, 11])) e5 (by decide)
        show jj_R _ _ kc ks (jj_S, 782, h4, g) 32 [(0, .ref 0), (1, .int a), (2, .int b), (3, .int w)] [.int (vX3_holdOf_n (h 2) (h 3) (h 6) (h 8) (h 38) (h 39) (h 41) m a b w)] Q
        refine rr_ireturn dX9_hold_32 rfl ?_
        refine jj_Qh (jj_addr (B := h4) (o := 0) (r := (h 0)) (e6 0 (by decide))) ?_
        simpa only [vX9_hold, rX9_hold_0, if_neg c1, if_neg c2, if_neg c3] using kq h4 e6
      · skip
        show Q (.inr "java/lang/IllegalArgumentException") (jj_S, 782, (jj_rs h [(0, (upd (h 0) 14 ((h 0) 14 + 1)))]), g)
        simpa only [vX9_hold, rX9_hold_0, if_neg c1, if_neg c2, if_pos c3] using kq h jj_eq.rf
    · skip
      show Q (.inr "java/util/NoSuchElementException") (jj_S, 782, (jj_rs h [(0, (upd (h 0) 13 ((h 0) 13 + 1)))]), g)
      simpa only [vX9_hold, rX9_hold_0, if_neg c1, if_pos c2] using kq h jj_eq.rf
  · skip
    show Q (.inr "java/util/NoSuchElementException") (jj_S, 782, (jj_rs h [(0, (upd (h 0) 13 ((h 0) 13 + 1)))]), g)
    simpa only [vX9_hold, rX9_hold_0, if_pos c1] using kq h jj_eq.rf
def vX9_helpers (r0 : Nat → Int32) (r1 : Nat → Int32) (r2 : Nat → Int32) (r3 : Nat → Int32) (r6 : Nat → Int32) (r8 : Nat → Int32) (r38 : Nat → Int32) (r39 : Nat → Int32) (r40 : Nat → Int32) (r41 : Nat → Int32) (n : Nat) (m : Nat) (p : Int32) : jj_Rs := (if (vX9_isPerson r1 p) = 0 then (.inr "java/util/NoSuchElementException") else (.inl (some (.int (vX3_helperBits r2 r3 r6 r8 r38 r39 r40 r41 n m p)))))
def rX9_helpers_0 (r0 : Nat → Int32) (r1 : Nat → Int32) (r2 : Nat → Int32) (r3 : Nat → Int32) (r6 : Nat → Int32) (r8 : Nat → Int32) (r38 : Nat → Int32) (r39 : Nat → Int32) (r40 : Nat → Int32) (r41 : Nat → Int32) (n : Nat) (m : Nat) (p : Int32) : Nat → Int32 := (if (vX9_isPerson r1 p) = 0 then (upd r0 13 (r0 13 + 1)) else r0)
set_option maxHeartbeats 1000000 in
theorem sp_X9_helpers {d kc ks : Nat} {h : Nat → Nat → Int32} {g : Nat → Nat → Int64} {Q : jj_Rs → jj_St → Prop} {n : Nat} {m : Nat} {p : Int32} (hP : h 1 0 = nI n) (hn : n ≤ 8) (hm : h 7 1 = nI m) (hm2 : m ≤ 150) (kq : ∀ h9, jj_eq [10, 11] h h9 → Q (vX9_helpers (h 0) (h 1) (h 2) (h 3) (h 6) (h 8) (h 38) (h 39) (h 40) (h 41) n m p) (jj_S, 782, (jj_rs h9 [(0, (rX9_helpers_0 (h 0) (h 1) (h 2) (h 3) (h 6) (h 8) (h 38) (h 39) (h 40) (h 41) n m p))]), g)) : jj_R mX9_helpers (d + 7) (kc + 1) (ks + 6) (jj_S, 782, h, g) 0 [(0, .ref 0), (1, .int p)] [] Q := by
  refine rr_aload_n 0 rfl rfl dX9_helpers_0 ?_
  refine rr_iload_n 1 rfl rfl dX9_helpers_1 ?_
  refine rr_callV (As := [.int p]) (rest := []) (kc2 := 1) (ks2 := 6) dX9_helpers_2 okX9_requirePerson lX9_198 lo_0 sh_0 rfl rfl (Nat.le_of_ble_eq_true rfl) (Nat.le_of_ble_eq_true rfl) rfl (by omega) (by simp [jj_rk]) (by simp [jj_rk]) ?_
  refine sp_X9_requirePerson  (fun c1 => ?_) (fun c1 => ?_)
  · skip
    show jj_R _ _ kc ks (jj_S, 782, h, g) 5 [(0, .ref 0), (1, .int p)] [] Q
    refine rr_aload_n 0 rfl rfl dX9_helpers_5 ?_
    refine rr_getR dX9_helpers_6 fX9_38 lo_0 sh_0 rfl ?_
    refine rr_aload_n 0 rfl rfl dX9_helpers_9 ?_
    refine rr_getR dX9_helpers_10 fX9_80 lo_0 sh_0 rfl ?_
    refine rr_iload_n 1 rfl rfl dX9_helpers_13 ?_
    refine rr_callV (As := [.ref 38, .int p]) (rest := []) (kc2 := 0) (ks2 := 0) dX9_helpers_14 okX3_helperBits lX9_291 lo_12 sh_12 rfl rfl (Nat.le_of_ble_eq_true rfl) (Nat.le_of_ble_eq_true rfl) rfl (by omega) (by simp [jj_rk]) (by simp [jj_rk]) ?_
    refine sp_X3_helperBits (by first | assumption | exact jj_pers hP hn (by assumption) | exact vp_in_nI (by omega) (by decide) | decide | omega) (by first | assumption | exact jj_pers hP hn (by assumption) | exact vp_in_nI (by omega) (by decide) | decide | omega) (by first | assumption | exact jj_pers hP hn (by assumption) | exact vp_in_nI (by omega) (by decide) | decide | omega) (by first | assumption | exact jj_pers hP hn (by assumption) | exact vp_in_nI (by omega) (by decide) | decide | omega) (by first | assumption | exact jj_pers hP hn (by assumption) | exact vp_in_nI (by omega) (by decide) | decide | omega) (fun h2 e3 => ?_)
    have e4 := jj_lo0 (X := [10, 11]) (jj_eq.rf (X := [10, 11])) e3 (by decide)
    show jj_R _ _ kc ks (jj_S, 782, h2, g) 17 [(0, .ref 0), (1, .int p)] [.int (vX3_helperBits (h 2) (h 3) (h 6) (h 8) (h 38) (h 39) (h 40) (h 41) n m p)] Q
    refine rr_ireturn dX9_helpers_17 rfl ?_
    refine jj_Qh (jj_addr (B := h2) (o := 0) (r := (h 0)) (e4 0 (by decide))) ?_
    simpa only [vX9_helpers, rX9_helpers_0, if_neg c1] using kq h2 e4
  · skip
    show Q (.inr "java/util/NoSuchElementException") (jj_S, 782, (jj_rs h [(0, (upd (h 0) 13 ((h 0) 13 + 1)))]), g)
    simpa only [vX9_helpers, rX9_helpers_0, if_pos c1] using kq h jj_eq.rf
def vX9_nearest (r0 : Nat → Int32) (r1 : Nat → Int32) (r4 : Nat → Int32) (r5 : Nat → Int32) (n : Nat) (p : Int32) : jj_Rs := (if (vX9_isPerson r1 p) = 0 then (.inr "java/util/NoSuchElementException") else (.inl (some (.int (jj_fo (fun k1 (a1 : Int32) => (if (nI k1) = p then a1 else (if a1 = (-1) then (nI k1) else (if (vX7_wayBetween r4 r5 p a1) ≤ (vX7_wayBetween r4 r5 p (nI k1)) then a1 else (nI k1))))) n (-1))))))
def rX9_nearest_0 (r0 : Nat → Int32) (r1 : Nat → Int32) (r4 : Nat → Int32) (r5 : Nat → Int32) (n : Nat) (p : Int32) : Nat → Int32 := (if (vX9_isPerson r1 p) = 0 then (upd r0 13 (r0 13 + 1)) else r0)
set_option maxHeartbeats 1000000 in
theorem sp_X9_nearest {d kc ks : Nat} {h : Nat → Nat → Int32} {g : Nat → Nat → Int64} {Q : jj_Rs → jj_St → Prop} {n : Nat} {p : Int32} (hP : h 1 0 = nI n) (hn : n ≤ 8) (kq : Q (vX9_nearest (h 0) (h 1) (h 4) (h 5) n p) (jj_S, 782, (jj_rs h [(0, (rX9_nearest_0 (h 0) (h 1) (h 4) (h 5) n p))]), g)) : jj_R mX9_nearest (d + 7) (kc + 1) (ks + 6) (jj_S, 782, h, g) 0 [(0, .ref 0), (1, .int p)] [] Q := by
  refine rr_aload_n 0 rfl rfl dX9_nearest_0 ?_
  refine rr_iload_n 1 rfl rfl dX9_nearest_1 ?_
  refine rr_callV (As := [.int p]) (rest := []) (kc2 := 1) (ks2 := 6) dX9_nearest_2 okX9_requirePerson lX9_198 lo_0 sh_0 rfl rfl (Nat.le_of_ble_eq_true rfl) (Nat.le_of_ble_eq_true rfl) rfl (by omega) (by simp [jj_rk]) (by simp [jj_rk]) ?_
  refine sp_X9_requirePerson  (fun c1 => ?_) (fun c1 => ?_)
  · skip
    show jj_R _ _ kc ks (jj_S, 782, h, g) 5 [(0, .ref 0), (1, .int p)] [] Q
    refine rr_iconst (-1) rfl dX9_nearest_5 ?_
    refine rr_istore_n [(0, .ref 0), (1, .int p), (2, .int (-1))] dX9_nearest_6 rfl (by decide) rfl ?_
    refine rr_iconst 0 rfl dX9_nearest_7 ?_
    refine rr_istore_n [(0, .ref 0), (1, .int p), (2, .int (-1)), (3, .int 0)] dX9_nearest_8 rfl (by decide) rfl ?_
    refine jj_for (fun k1 (a1 : Int32) => (¬ a1 = -1 → vp_in a1 8) → jj_R _ _ kc ks (jj_S, 782, h, g) 9 [(0, .ref 0), (1, .int p), (2, .int a1), (3, .int (nI k1))] [] Q) (fun k1 (a1 : Int32) => (if (nI k1) = p then a1 else (if a1 = (-1) then (nI k1) else (if (vX7_wayBetween (h 4) (h 5) p a1) ≤ (vX7_wayBetween (h 4) (h 5) p (nI k1)) then a1 else (nI k1))))) n (-1) ?_ ?_ (fun c => absurd rfl c)
    · intro k1 hk1 ih1
      generalize jj_fo _ k1 _ = a1 at ih1 ⊢
      try dsimp only at ih1 ⊢
      intro hi1
      refine rr_iload_n 3 rfl rfl dX9_nearest_9 ?_
      refine rr_aload_n 0 rfl rfl dX9_nearest_10 ?_
      refine rr_getR dX9_nearest_11 fX9_27 lo_0 sh_0 rfl ?_
      refine rr_getI dX9_nearest_14 fX9_132 lo_1 sh_1 rfl ?_
      rw [hP]
      refine rr_icmp_ge dX9_nearest_17 (fun c => absurd c (nI_ge (a := k1) (b := n) (by omega) (by omega))) (fun _ => ?_)
      refine rr_iload_n 3 rfl rfl dX9_nearest_20 ?_
      refine rr_iload_n 1 rfl rfl dX9_nearest_21 ?_
      refine rr_icmp_eq dX9_nearest_22 (fun c2 => ?_) (fun c2 => ?_)
      · skip
        refine rr_iinc 3 1 [(0, .ref 0), (1, .int p), (2, .int a1), (3, .int ((nI k1) + 1))] dX9_nearest_53 rfl rfl (by decide) rfl ?_
        refine rr_goto dX9_nearest_56 ?_
        try simp only [(nI_clamp (show k1 < 2 ^ 31 by omega))] at c2
        simp only [(nI_clamp (show k1 < 2 ^ 31 by omega)), if_pos c2] at ih1
        simpa only [nI_1, (nI_clamp (show k1 < 2 ^ 31 by omega)), if_pos c2] using ih1 (by first | exact hi1 | exact fun _ => vp_in_nI (by omega) (by decide))
      · skip
        refine rr_iload_n 2 rfl rfl dX9_nearest_25 ?_
        refine rr_iconst (-1) rfl dX9_nearest_26 ?_
        refine rr_icmp_eq dX9_nearest_27 (fun c3 => ?_) (fun c3 => ?_)
        · skip
          refine rr_iload_n 3 rfl rfl dX9_nearest_51 ?_
          refine rr_istore_n [(0, .ref 0), (1, .int p), (2, .int (nI k1)), (3, .int (nI k1))] dX9_nearest_52 rfl (by decide) rfl ?_
          refine rr_iinc 3 1 [(0, .ref 0), (1, .int p), (2, .int (nI k1)), (3, .int ((nI k1) + 1))] dX9_nearest_53 rfl rfl (by decide) rfl ?_
          refine rr_goto dX9_nearest_56 ?_
          try simp only [(nI_clamp (show k1 < 2 ^ 31 by omega))] at c2
          try simp only [(nI_clamp (show k1 < 2 ^ 31 by omega))] at c3
          simp only [(nI_clamp (show k1 < 2 ^ 31 by omega)), if_neg c2, if_pos c3] at ih1
          simpa only [nI_1, (nI_clamp (show k1 < 2 ^ 31 by omega)), if_neg c2, if_pos c3] using ih1 (by first | exact hi1 | exact fun _ => vp_in_nI (by omega) (by decide))
        · skip
          refine rr_aload_n 0 rfl rfl dX9_nearest_30 ?_
          refine rr_getR dX9_nearest_31 fX9_27 lo_0 sh_0 rfl ?_
          refine rr_iload_n 1 rfl rfl dX9_nearest_34 ?_
          refine rr_iload_n 3 rfl rfl dX9_nearest_35 ?_
          refine rr_callV (As := [.int p, .int (nI k1)]) (rest := []) (kc2 := 0) (ks2 := 0) dX9_nearest_36 okX7_wayBetween lX9_266 lo_1 sh_1 rfl rfl (Nat.le_of_ble_eq_true rfl) (Nat.le_of_ble_eq_true rfl) rfl (by omega) (by simp [jj_rk]) (by simp [jj_rk]) ?_
          refine sp_X7_wayBetween (by first | exact hi1 (by assumption) | assumption | exact jj_pers hP hn (by assumption) | exact vp_in_nI (by omega) (by decide) | decide | omega) (by first | exact hi1 (by assumption) | assumption | exact jj_pers hP hn (by assumption) | exact vp_in_nI (by omega) (by decide) | decide | omega) ?_
          show jj_R _ _ kc ks (jj_S, 782, h, g) 39 [(0, .ref 0), (1, .int p), (2, .int a1), (3, .int (nI k1))] [.int (vX7_wayBetween (h 4) (h 5) p (nI k1))] Q
          refine rr_aload_n 0 rfl rfl dX9_nearest_39 ?_
          refine rr_getR dX9_nearest_40 fX9_27 lo_0 sh_0 rfl ?_
          refine rr_iload_n 1 rfl rfl dX9_nearest_43 ?_
          refine rr_iload_n 2 rfl rfl dX9_nearest_44 ?_
          refine rr_callV (As := [.int p, .int a1]) (rest := [.int (vX7_wayBetween (h 4) (h 5) p (nI k1))]) (kc2 := 0) (ks2 := 0) dX9_nearest_45 okX7_wayBetween lX9_266 lo_1 sh_1 rfl rfl (Nat.le_of_ble_eq_true rfl) (Nat.le_of_ble_eq_true rfl) rfl (by omega) (by simp [jj_rk]) (by simp [jj_rk]) ?_
          refine sp_X7_wayBetween (by first | exact hi1 (by assumption) | assumption | exact jj_pers hP hn (by assumption) | exact vp_in_nI (by omega) (by decide) | decide | omega) (by first | exact hi1 (by assumption) | assumption | exact jj_pers hP hn (by assumption) | exact vp_in_nI (by omega) (by decide) | decide | omega) ?_
          show jj_R _ _ kc ks (jj_S, 782, h, g) 48 [(0, .ref 0), (1, .int p), (2, .int a1), (3, .int (nI k1))] [.int (vX7_wayBetween (h 4) (h 5) p a1), .int (vX7_wayBetween (h 4) (h 5) p (nI k1))] Q
          refine rr_icmp_ge dX9_nearest_48 (fun c4 => ?_) (fun c4 => ?_)
          · skip
            refine rr_iinc 3 1 [(0, .ref 0), (1, .int p), (2, .int a1), (3, .int ((nI k1) + 1))] dX9_nearest_53 rfl rfl (by decide) rfl ?_
            refine rr_goto dX9_nearest_56 ?_
            try simp only [(nI_clamp (show k1 < 2 ^ 31 by omega))] at c2
            try simp only [(nI_clamp (show k1 < 2 ^ 31 by omega))] at c3
            try simp only [(nI_clamp (show k1 < 2 ^ 31 by omega))] at c4
            simp only [(nI_clamp (show k1 < 2 ^ 31 by omega)), if_neg c2, if_neg c3, if_pos c4] at ih1
            simpa only [nI_1, (nI_clamp (show k1 < 2 ^ 31 by omega)), if_neg c2, if_neg c3, if_pos c4] using ih1 (by first | exact hi1 | exact fun _ => vp_in_nI (by omega) (by decide))
          · skip
            refine rr_iload_n 3 rfl rfl dX9_nearest_51 ?_
            refine rr_istore_n [(0, .ref 0), (1, .int p), (2, .int (nI k1)), (3, .int (nI k1))] dX9_nearest_52 rfl (by decide) rfl ?_
            refine rr_iinc 3 1 [(0, .ref 0), (1, .int p), (2, .int (nI k1)), (3, .int ((nI k1) + 1))] dX9_nearest_53 rfl rfl (by decide) rfl ?_
            refine rr_goto dX9_nearest_56 ?_
            try simp only [(nI_clamp (show k1 < 2 ^ 31 by omega))] at c2
            try simp only [(nI_clamp (show k1 < 2 ^ 31 by omega))] at c3
            try simp only [(nI_clamp (show k1 < 2 ^ 31 by omega))] at c4
            simp only [(nI_clamp (show k1 < 2 ^ 31 by omega)), if_neg c2, if_neg c3, if_neg c4] at ih1
            simpa only [nI_1, (nI_clamp (show k1 < 2 ^ 31 by omega)), if_neg c2, if_neg c3, if_neg c4] using ih1 (by first | exact hi1 | exact fun _ => vp_in_nI (by omega) (by decide))
    · try dsimp only
      intro hi1
      refine rr_iload_n 3 rfl rfl dX9_nearest_9 ?_
      refine rr_aload_n 0 rfl rfl dX9_nearest_10 ?_
      refine rr_getR dX9_nearest_11 fX9_27 lo_0 sh_0 rfl ?_
      refine rr_getI dX9_nearest_14 fX9_132 lo_1 sh_1 rfl ?_
      rw [hP]
      refine rr_icmp_ge dX9_nearest_17 (fun _ => ?_) (fun c => absurd (jj_le_rf _) c)
      refine rr_iload_n 2 rfl rfl dX9_nearest_59 ?_
      refine rr_ireturn dX9_nearest_60 rfl ?_
      refine jj_Qh (jj_addr (B := h) (o := 0) (r := (h 0)) rfl) ?_
      simpa only [vX9_nearest, rX9_nearest_0, if_neg c1] using kq
  · skip
    show Q (.inr "java/util/NoSuchElementException") (jj_S, 782, (jj_rs h [(0, (upd (h 0) 13 ((h 0) 13 + 1)))]), g)
    simpa only [vX9_nearest, rX9_nearest_0, if_pos c1] using kq
def vX9_farthest (r0 : Nat → Int32) (r4 : Nat → Int32) (r5 : Nat → Int32) (n : Nat) (w : Int32) : jj_Rs := (if (vX9_isBit w) = 0 then (.inr "java/lang/IllegalArgumentException") else (if w = 0 then (.inl (some (.int (jj_fo (fun k1 (a1 : Int32 × Int32) => ((jj_fo (fun k2 (a2 : Int32 × Int32) => (if (vX7_wayBetween r4 r5 (nI k1) (nI (k1 + 1 + k2))) ≤ a2.2 then (a2.1, a2.2) else ((((10 : Int32) * (nI k1)) + (nI (k1 + 1 + k2))), (vX7_wayBetween r4 r5 (nI k1) (nI (k1 + 1 + k2)))))) (n - (k1 + 1)) (a1.1, a1.2)).1, (jj_fo (fun k2 (a2 : Int32 × Int32) => (if (vX7_wayBetween r4 r5 (nI k1) (nI (k1 + 1 + k2))) ≤ a2.2 then (a2.1, a2.2) else ((((10 : Int32) * (nI k1)) + (nI (k1 + 1 + k2))), (vX7_wayBetween r4 r5 (nI k1) (nI (k1 + 1 + k2)))))) (n - (k1 + 1)) (a1.1, a1.2)).2)) n ((-1), (-1))).1))) else (.inl (some (.int (jj_fo (fun k1 (a1 : Int32 × Int32) => ((jj_fo (fun k2 (a2 : Int32 × Int32) => (if (vX7_wayBetween r4 r5 (nI k1) (nI (k1 + 1 + k2))) ≤ a2.2 then (a2.1, a2.2) else ((((10 : Int32) * (nI k1)) + (nI (k1 + 1 + k2))), (vX7_wayBetween r4 r5 (nI k1) (nI (k1 + 1 + k2)))))) (n - (k1 + 1)) (a1.1, a1.2)).1, (jj_fo (fun k2 (a2 : Int32 × Int32) => (if (vX7_wayBetween r4 r5 (nI k1) (nI (k1 + 1 + k2))) ≤ a2.2 then (a2.1, a2.2) else ((((10 : Int32) * (nI k1)) + (nI (k1 + 1 + k2))), (vX7_wayBetween r4 r5 (nI k1) (nI (k1 + 1 + k2)))))) (n - (k1 + 1)) (a1.1, a1.2)).2)) n ((-1), (-1))).2)))))
def rX9_farthest_0 (r0 : Nat → Int32) (r4 : Nat → Int32) (r5 : Nat → Int32) (n : Nat) (w : Int32) : Nat → Int32 := (if (vX9_isBit w) = 0 then (upd r0 14 (r0 14 + 1)) else r0)
set_option maxHeartbeats 1000000 in
theorem sp_X9_farthest {d kc ks : Nat} {h : Nat → Nat → Int32} {g : Nat → Nat → Int64} {Q : jj_Rs → jj_St → Prop} {n : Nat} {w : Int32} (hP : h 1 0 = nI n) (hn : n ≤ 8) (kq : Q (vX9_farthest (h 0) (h 4) (h 5) n w) (jj_S, 782, (jj_rs h [(0, (rX9_farthest_0 (h 0) (h 4) (h 5) n w))]), g)) : jj_R mX9_farthest (d + 7) (kc + 1) (ks + 6) (jj_S, 782, h, g) 0 [(0, .ref 0), (1, .int w)] [] Q := by
  refine rr_aload_n 0 rfl rfl dX9_farthest_0 ?_
  refine rr_iload_n 1 rfl rfl dX9_farthest_1 ?_
  refine rr_callS (As := [.int w]) (rest := [.ref 0]) (kc2 := 0) (ks2 := 0) dX9_farthest_2 okX9_isBit lX9_235 rfl (Nat.le_of_ble_eq_true rfl) (Nat.le_of_ble_eq_true rfl) rfl (by omega) (by simp [jj_rk]) (by simp [jj_rk]) ?_
  refine sp_X9_isBit  ?_
  show jj_R _ _ (kc + 1) (ks + 6) (jj_S, 782, h, g) 5 [(0, .ref 0), (1, .int w)] [.int (vX9_isBit w), .ref 0] Q
  refine rr_callV (As := [.int (vX9_isBit w)]) (rest := []) (kc2 := 1) (ks2 := 6) dX9_farthest_5 okX9_require lX9_103 lo_0 sh_0 rfl rfl (Nat.le_of_ble_eq_true rfl) (Nat.le_of_ble_eq_true rfl) rfl (by omega) (by simp [jj_rk]) (by simp [jj_rk]) ?_
  refine sp_X9_require  (fun c1 => ?_) (fun c1 => ?_)
  · skip
    show jj_R _ _ kc ks (jj_S, 782, h, g) 8 [(0, .ref 0), (1, .int w)] [] Q
    refine rr_iconst (-1) rfl dX9_farthest_8 ?_
    refine rr_istore_n [(0, .ref 0), (1, .int w), (2, .int (-1))] dX9_farthest_9 rfl (by decide) rfl ?_
    refine rr_iconst (-1) rfl dX9_farthest_10 ?_
    refine rr_istore_n [(0, .ref 0), (1, .int w), (2, .int (-1)), (3, .int (-1))] dX9_farthest_11 rfl (by decide) rfl ?_
    refine rr_iconst 0 rfl dX9_farthest_12 ?_
    refine rr_istore [(0, .ref 0), (1, .int w), (2, .int (-1)), (3, .int (-1)), (4, .int 0)] dX9_farthest_13 (by decide) rfl ?_
    refine jj_for (fun k1 (a1 : Int32 × Int32) => jj_R _ _ kc ks (jj_S, 782, h, g) 15 [(0, .ref 0), (1, .int w), (2, .int a1.1), (3, .int a1.2), (4, .int (nI k1))] [] Q) (fun k1 (a1 : Int32 × Int32) => ((jj_fo (fun k2 (a2 : Int32 × Int32) => (if (vX7_wayBetween (h 4) (h 5) (nI k1) (nI (k1 + 1 + k2))) ≤ a2.2 then (a2.1, a2.2) else ((((10 : Int32) * (nI k1)) + (nI (k1 + 1 + k2))), (vX7_wayBetween (h 4) (h 5) (nI k1) (nI (k1 + 1 + k2)))))) (n - (k1 + 1)) (a1.1, a1.2)).1, (jj_fo (fun k2 (a2 : Int32 × Int32) => (if (vX7_wayBetween (h 4) (h 5) (nI k1) (nI (k1 + 1 + k2))) ≤ a2.2 then (a2.1, a2.2) else ((((10 : Int32) * (nI k1)) + (nI (k1 + 1 + k2))), (vX7_wayBetween (h 4) (h 5) (nI k1) (nI (k1 + 1 + k2)))))) (n - (k1 + 1)) (a1.1, a1.2)).2)) n ((-1), (-1)) ?_ ?_
    · intro k1 hk1 ih1
      generalize jj_fo _ k1 _ = a1 at ih1 ⊢
      try dsimp only at ih1 ⊢
      refine rr_iload 4 rfl dX9_farthest_15 ?_
      refine rr_aload_n 0 rfl rfl dX9_farthest_17 ?_
      refine rr_getR dX9_farthest_18 fX9_27 lo_0 sh_0 rfl ?_
      refine rr_getI dX9_farthest_21 fX9_132 lo_1 sh_1 rfl ?_
      rw [hP]
      refine rr_icmp_ge dX9_farthest_24 (fun c => absurd c (nI_ge (a := k1) (b := n) (by omega) (by omega))) (fun _ => ?_)
      refine rr_iload 4 rfl dX9_farthest_27 ?_
      refine rr_iconst 1 rfl dX9_farthest_29 ?_
      refine rr_iadd dX9_farthest_30 ?_
      refine rr_istore [(0, .ref 0), (1, .int w), (2, .int a1.1), (3, .int a1.2), (4, .int (nI k1)), (5, .int ((nI k1) + 1))] dX9_farthest_31 (by decide) rfl ?_
      simp only [nI_1]
      refine jj_for (fun k2 (a2 : Int32 × Int32) => jj_R _ _ kc ks (jj_S, 782, h, g) 33 [(0, .ref 0), (1, .int w), (2, .int a2.1), (3, .int a2.2), (4, .int (nI k1)), (5, .int (nI (k1 + 1 + k2)))] [] Q) (fun k2 (a2 : Int32 × Int32) => (if (vX7_wayBetween (h 4) (h 5) (nI k1) (nI (k1 + 1 + k2))) ≤ a2.2 then (a2.1, a2.2) else ((((10 : Int32) * (nI k1)) + (nI (k1 + 1 + k2))), (vX7_wayBetween (h 4) (h 5) (nI k1) (nI (k1 + 1 + k2)))))) (n - (k1 + 1)) (a1.1, a1.2) ?_ ?_
      · intro k2 hk2 ih2
        generalize jj_fo _ k2 _ = a2 at ih2 ⊢
        try dsimp only at ih2 ⊢
        refine rr_iload 5 rfl dX9_farthest_33 ?_
        refine rr_aload_n 0 rfl rfl dX9_farthest_35 ?_
        refine rr_getR dX9_farthest_36 fX9_27 lo_0 sh_0 rfl ?_
        refine rr_getI dX9_farthest_39 fX9_132 lo_1 sh_1 rfl ?_
        rw [hP]
        refine rr_icmp_ge dX9_farthest_42 (fun c => absurd c (nI_ge (a := (k1 + 1 + k2)) (b := n) (by omega) (by omega))) (fun _ => ?_)
        refine rr_aload_n 0 rfl rfl dX9_farthest_45 ?_
        refine rr_getR dX9_farthest_46 fX9_27 lo_0 sh_0 rfl ?_
        refine rr_iload 4 rfl dX9_farthest_49 ?_
        refine rr_iload 5 rfl dX9_farthest_51 ?_
        refine rr_callV (As := [.int (nI k1), .int (nI (k1 + 1 + k2))]) (rest := []) (kc2 := 0) (ks2 := 0) dX9_farthest_53 okX7_wayBetween lX9_266 lo_1 sh_1 rfl rfl (Nat.le_of_ble_eq_true rfl) (Nat.le_of_ble_eq_true rfl) rfl (by omega) (by simp [jj_rk]) (by simp [jj_rk]) ?_
        refine sp_X7_wayBetween (by first | assumption | exact jj_pers hP hn (by assumption) | exact vp_in_nI (by omega) (by decide) | decide | omega) (by first | assumption | exact jj_pers hP hn (by assumption) | exact vp_in_nI (by omega) (by decide) | decide | omega) ?_
        show jj_R _ _ kc ks (jj_S, 782, h, g) 56 [(0, .ref 0), (1, .int w), (2, .int a2.1), (3, .int a2.2), (4, .int (nI k1)), (5, .int (nI (k1 + 1 + k2)))] [.int (vX7_wayBetween (h 4) (h 5) (nI k1) (nI (k1 + 1 + k2)))] Q
        refine rr_iload_n 3 rfl rfl dX9_farthest_56 ?_
        refine rr_icmp_le dX9_farthest_57 (fun c2 => ?_) (fun c2 => ?_)
        · skip
          refine rr_iinc 5 1 [(0, .ref 0), (1, .int w), (2, .int a2.1), (3, .int a2.2), (4, .int (nI k1)), (5, .int ((nI (k1 + 1 + k2)) + 1))] dX9_farthest_81 rfl rfl (by decide) rfl ?_
          refine rr_goto dX9_farthest_84 ?_
          try simp only [(nI_clamp (show k1 + 1 + k2 < 2 ^ 31 by omega))] at c2
          simpa only [nI_1, (nI_clamp (show k1 + 1 + k2 < 2 ^ 31 by omega)), if_pos c2, ← Nat.add_assoc] using ih2
        · skip
          refine rr_aload_n 0 rfl rfl dX9_farthest_60 ?_
          refine rr_getR dX9_farthest_61 fX9_27 lo_0 sh_0 rfl ?_
          refine rr_iload 4 rfl dX9_farthest_64 ?_
          refine rr_iload 5 rfl dX9_farthest_66 ?_
          refine rr_callV (As := [.int (nI k1), .int (nI (k1 + 1 + k2))]) (rest := []) (kc2 := 0) (ks2 := 0) dX9_farthest_68 okX7_wayBetween lX9_266 lo_1 sh_1 rfl rfl (Nat.le_of_ble_eq_true rfl) (Nat.le_of_ble_eq_true rfl) rfl (by omega) (by simp [jj_rk]) (by simp [jj_rk]) ?_
          refine sp_X7_wayBetween (by first | assumption | exact jj_pers hP hn (by assumption) | exact vp_in_nI (by omega) (by decide) | decide | omega) (by first | assumption | exact jj_pers hP hn (by assumption) | exact vp_in_nI (by omega) (by decide) | decide | omega) ?_
          show jj_R _ _ kc ks (jj_S, 782, h, g) 71 [(0, .ref 0), (1, .int w), (2, .int a2.1), (3, .int a2.2), (4, .int (nI k1)), (5, .int (nI (k1 + 1 + k2)))] [.int (vX7_wayBetween (h 4) (h 5) (nI k1) (nI (k1 + 1 + k2)))] Q
          refine rr_istore_n [(0, .ref 0), (1, .int w), (2, .int a2.1), (3, .int (vX7_wayBetween (h 4) (h 5) (nI k1) (nI (k1 + 1 + k2)))), (4, .int (nI k1)), (5, .int (nI (k1 + 1 + k2)))] dX9_farthest_71 rfl (by decide) rfl ?_
          refine rr_bipush 10 rfl dX9_farthest_72 ?_
          refine rr_iload 4 rfl dX9_farthest_74 ?_
          refine rr_imul dX9_farthest_76 ?_
          refine rr_iload 5 rfl dX9_farthest_77 ?_
          refine rr_iadd dX9_farthest_79 ?_
          refine rr_istore_n [(0, .ref 0), (1, .int w), (2, .int (((10 : Int32) * (nI k1)) + (nI (k1 + 1 + k2)))), (3, .int (vX7_wayBetween (h 4) (h 5) (nI k1) (nI (k1 + 1 + k2)))), (4, .int (nI k1)), (5, .int (nI (k1 + 1 + k2)))] dX9_farthest_80 rfl (by decide) rfl ?_
          refine rr_iinc 5 1 [(0, .ref 0), (1, .int w), (2, .int (((10 : Int32) * (nI k1)) + (nI (k1 + 1 + k2)))), (3, .int (vX7_wayBetween (h 4) (h 5) (nI k1) (nI (k1 + 1 + k2)))), (4, .int (nI k1)), (5, .int ((nI (k1 + 1 + k2)) + 1))] dX9_farthest_81 rfl rfl (by decide) rfl ?_
          refine rr_goto dX9_farthest_84 ?_
          try simp only [(nI_clamp (show k1 + 1 + k2 < 2 ^ 31 by omega))] at c2
          simpa only [nI_1, (nI_clamp (show k1 + 1 + k2 < 2 ^ 31 by omega)), if_neg c2, ← Nat.add_assoc] using ih2
      · try dsimp only
        rw [show k1 + 1 + (n - (k1 + 1)) = n by omega]
        refine rr_iload 5 rfl dX9_farthest_33 ?_
        refine rr_aload_n 0 rfl rfl dX9_farthest_35 ?_
        refine rr_getR dX9_farthest_36 fX9_27 lo_0 sh_0 rfl ?_
        refine rr_getI dX9_farthest_39 fX9_132 lo_1 sh_1 rfl ?_
        rw [hP]
        refine rr_icmp_ge dX9_farthest_42 (fun _ => ?_) (fun c => absurd (jj_le_rf _) c)
        refine rr_iinc 4 1 [(0, .ref 0), (1, .int w), (2, .int (jj_fo (fun k2 (a2 : Int32 × Int32) => (if (vX7_wayBetween (h 4) (h 5) (nI k1) (nI (k1 + 1 + k2))) ≤ a2.2 then (a2.1, a2.2) else ((((10 : Int32) * (nI k1)) + (nI (k1 + 1 + k2))), (vX7_wayBetween (h 4) (h 5) (nI k1) (nI (k1 + 1 + k2)))))) (n - (k1 + 1)) (a1.1, a1.2)).1), (3, .int (jj_fo (fun k2 (a2 : Int32 × Int32) => (if (vX7_wayBetween (h 4) (h 5) (nI k1) (nI (k1 + 1 + k2))) ≤ a2.2 then (a2.1, a2.2) else ((((10 : Int32) * (nI k1)) + (nI (k1 + 1 + k2))), (vX7_wayBetween (h 4) (h 5) (nI k1) (nI (k1 + 1 + k2)))))) (n - (k1 + 1)) (a1.1, a1.2)).2), (4, .int ((nI k1) + 1)), (5, .int (nI n))] dX9_farthest_87 rfl rfl (by decide) rfl ?_
        refine rr_goto dX9_farthest_90 ?_
        refine rr_drop (ls := [(0, .ref 0), (1, .int w), (2, .int (jj_fo (fun k2 (a2 : Int32 × Int32) => (if (vX7_wayBetween (h 4) (h 5) (nI k1) (nI (k1 + 1 + k2))) ≤ a2.2 then (a2.1, a2.2) else ((((10 : Int32) * (nI k1)) + (nI (k1 + 1 + k2))), (vX7_wayBetween (h 4) (h 5) (nI k1) (nI (k1 + 1 + k2)))))) (n - (k1 + 1)) (a1.1, a1.2)).1), (3, .int (jj_fo (fun k2 (a2 : Int32 × Int32) => (if (vX7_wayBetween (h 4) (h 5) (nI k1) (nI (k1 + 1 + k2))) ≤ a2.2 then (a2.1, a2.2) else ((((10 : Int32) * (nI k1)) + (nI (k1 + 1 + k2))), (vX7_wayBetween (h 4) (h 5) (nI k1) (nI (k1 + 1 + k2)))))) (n - (k1 + 1)) (a1.1, a1.2)).2), (4, .int ((nI k1) + 1))]) [0, 1, 2, 3, 4] rfl ?_
        simpa only [nI_1, (nI_clamp (show k1 < 2 ^ 31 by omega))] using ih1
    · try dsimp only
      refine rr_iload 4 rfl dX9_farthest_15 ?_
      refine rr_aload_n 0 rfl rfl dX9_farthest_17 ?_
      refine rr_getR dX9_farthest_18 fX9_27 lo_0 sh_0 rfl ?_
      refine rr_getI dX9_farthest_21 fX9_132 lo_1 sh_1 rfl ?_
      rw [hP]
      refine rr_icmp_ge dX9_farthest_24 (fun _ => ?_) (fun c => absurd (jj_le_rf _) c)
      refine rr_iload_n 1 rfl rfl dX9_farthest_93 ?_
      refine rr_if_ne dX9_farthest_94 (fun c3 => ?_) (fun c3 => ?_)
      · skip
        refine rr_iload_n 3 rfl rfl dX9_farthest_101 ?_
        refine rr_ireturn dX9_farthest_102 rfl ?_
        refine jj_Qh (jj_addr (B := h) (o := 0) (r := (h 0)) rfl) ?_
        simpa only [vX9_farthest, rX9_farthest_0, if_neg c1, if_neg c3] using kq
      · skip
        refine rr_iload_n 2 rfl rfl dX9_farthest_97 ?_
        refine rr_goto dX9_farthest_98 ?_
        refine rr_ireturn dX9_farthest_102 rfl ?_
        refine jj_Qh (jj_addr (B := h) (o := 0) (r := (h 0)) rfl) ?_
        simpa only [vX9_farthest, rX9_farthest_0, if_neg c1, if_pos c3] using kq
  · skip
    show Q (.inr "java/lang/IllegalArgumentException") (jj_S, 782, (jj_rs h [(0, (upd (h 0) 14 ((h 0) 14 + 1)))]), g)
    simpa only [vX9_farthest, rX9_farthest_0, if_pos c1] using kq
def vX9_middle (r0 : Nat → Int32) (r4 : Nat → Int32) (r5 : Nat → Int32) (n : Nat) (w : Int32) : jj_Rs := (if (vX9_isBit w) = 0 then (.inr "java/lang/IllegalArgumentException") else (if w = 0 then (.inl (some (.int (jj_fo (fun k1 (a1 : Int32 × Int32) => (if a1.1 = (-1) then ((nI k1), (vX7_waysTogether r4 r5 n (nI k1))) else (if a1.2 ≤ (vX7_waysTogether r4 r5 n (nI k1)) then (a1.1, a1.2) else ((nI k1), (vX7_waysTogether r4 r5 n (nI k1)))))) n ((-1), (-1))).1))) else (.inl (some (.int (jj_fo (fun k1 (a1 : Int32 × Int32) => (if a1.1 = (-1) then ((nI k1), (vX7_waysTogether r4 r5 n (nI k1))) else (if a1.2 ≤ (vX7_waysTogether r4 r5 n (nI k1)) then (a1.1, a1.2) else ((nI k1), (vX7_waysTogether r4 r5 n (nI k1)))))) n ((-1), (-1))).2)))))
def rX9_middle_0 (r0 : Nat → Int32) (r4 : Nat → Int32) (r5 : Nat → Int32) (n : Nat) (w : Int32) : Nat → Int32 := (if (vX9_isBit w) = 0 then (upd r0 14 (r0 14 + 1)) else r0)
set_option maxHeartbeats 1000000 in
theorem sp_X9_middle {d kc ks : Nat} {h : Nat → Nat → Int32} {g : Nat → Nat → Int64} {Q : jj_Rs → jj_St → Prop} {n : Nat} {w : Int32} (hP : h 1 0 = nI n) (hn : n ≤ 8) (kq : Q (vX9_middle (h 0) (h 4) (h 5) n w) (jj_S, 782, (jj_rs h [(0, (rX9_middle_0 (h 0) (h 4) (h 5) n w))]), g)) : jj_R mX9_middle (d + 7) (kc + 1) (ks + 6) (jj_S, 782, h, g) 0 [(0, .ref 0), (1, .int w)] [] Q := by
  refine rr_aload_n 0 rfl rfl dX9_middle_0 ?_
  refine rr_iload_n 1 rfl rfl dX9_middle_1 ?_
  refine rr_callS (As := [.int w]) (rest := [.ref 0]) (kc2 := 0) (ks2 := 0) dX9_middle_2 okX9_isBit lX9_235 rfl (Nat.le_of_ble_eq_true rfl) (Nat.le_of_ble_eq_true rfl) rfl (by omega) (by simp [jj_rk]) (by simp [jj_rk]) ?_
  refine sp_X9_isBit  ?_
  show jj_R _ _ (kc + 1) (ks + 6) (jj_S, 782, h, g) 5 [(0, .ref 0), (1, .int w)] [.int (vX9_isBit w), .ref 0] Q
  refine rr_callV (As := [.int (vX9_isBit w)]) (rest := []) (kc2 := 1) (ks2 := 6) dX9_middle_5 okX9_require lX9_103 lo_0 sh_0 rfl rfl (Nat.le_of_ble_eq_true rfl) (Nat.le_of_ble_eq_true rfl) rfl (by omega) (by simp [jj_rk]) (by simp [jj_rk]) ?_
  refine sp_X9_require  (fun c1 => ?_) (fun c1 => ?_)
  · skip
    show jj_R _ _ kc ks (jj_S, 782, h, g) 8 [(0, .ref 0), (1, .int w)] [] Q
    refine rr_iconst (-1) rfl dX9_middle_8 ?_
    refine rr_istore_n [(0, .ref 0), (1, .int w), (2, .int (-1))] dX9_middle_9 rfl (by decide) rfl ?_
    refine rr_iconst (-1) rfl dX9_middle_10 ?_
    refine rr_istore_n [(0, .ref 0), (1, .int w), (2, .int (-1)), (3, .int (-1))] dX9_middle_11 rfl (by decide) rfl ?_
    refine rr_iconst 0 rfl dX9_middle_12 ?_
    refine rr_istore [(0, .ref 0), (1, .int w), (2, .int (-1)), (3, .int (-1)), (4, .int 0)] dX9_middle_13 (by decide) rfl ?_
    refine jj_for (fun k1 (a1 : Int32 × Int32) => jj_R _ _ kc ks (jj_S, 782, h, g) 15 [(0, .ref 0), (1, .int w), (2, .int a1.1), (3, .int a1.2), (4, .int (nI k1))] [] Q) (fun k1 (a1 : Int32 × Int32) => (if a1.1 = (-1) then ((nI k1), (vX7_waysTogether (h 4) (h 5) n (nI k1))) else (if a1.2 ≤ (vX7_waysTogether (h 4) (h 5) n (nI k1)) then (a1.1, a1.2) else ((nI k1), (vX7_waysTogether (h 4) (h 5) n (nI k1)))))) n ((-1), (-1)) ?_ ?_
    · intro k1 hk1 ih1
      generalize jj_fo _ k1 _ = a1 at ih1 ⊢
      try dsimp only at ih1 ⊢
      refine rr_iload 4 rfl dX9_middle_15 ?_
      refine rr_aload_n 0 rfl rfl dX9_middle_17 ?_
      refine rr_getR dX9_middle_18 fX9_27 lo_0 sh_0 rfl ?_
      refine rr_getI dX9_middle_21 fX9_132 lo_1 sh_1 rfl ?_
      rw [hP]
      refine rr_icmp_ge dX9_middle_24 (fun c => absurd c (nI_ge (a := k1) (b := n) (by omega) (by omega))) (fun _ => ?_)
      refine rr_aload_n 0 rfl rfl dX9_middle_27 ?_
      refine rr_getR dX9_middle_28 fX9_27 lo_0 sh_0 rfl ?_
      refine rr_iload 4 rfl dX9_middle_31 ?_
      refine rr_callV (As := [.int (nI k1)]) (rest := []) (kc2 := 0) (ks2 := 0) dX9_middle_33 okX7_waysTogether lX9_276 lo_1 sh_1 rfl rfl (Nat.le_of_ble_eq_true rfl) (Nat.le_of_ble_eq_true rfl) rfl (by omega) (by simp [jj_rk]) (by simp [jj_rk]) ?_
      refine sp_X7_waysTogether (by first | assumption | exact jj_pers hP hn (by assumption) | exact vp_in_nI (by omega) (by decide) | decide | omega) (by first | assumption | exact jj_pers hP hn (by assumption) | exact vp_in_nI (by omega) (by decide) | decide | omega) (by first | assumption | exact jj_pers hP hn (by assumption) | exact vp_in_nI (by omega) (by decide) | decide | omega) ?_
      show jj_R _ _ kc ks (jj_S, 782, h, g) 36 [(0, .ref 0), (1, .int w), (2, .int a1.1), (3, .int a1.2), (4, .int (nI k1))] [.int (vX7_waysTogether (h 4) (h 5) n (nI k1))] Q
      refine rr_istore [(0, .ref 0), (1, .int w), (2, .int a1.1), (3, .int a1.2), (4, .int (nI k1)), (5, .int (vX7_waysTogether (h 4) (h 5) n (nI k1)))] dX9_middle_36 (by decide) rfl ?_
      refine rr_iload_n 2 rfl rfl dX9_middle_38 ?_
      refine rr_iconst (-1) rfl dX9_middle_39 ?_
      refine rr_icmp_eq dX9_middle_40 (fun c2 => ?_) (fun c2 => ?_)
      · skip
        refine rr_iload 4 rfl dX9_middle_49 ?_
        refine rr_istore_n [(0, .ref 0), (1, .int w), (2, .int (nI k1)), (3, .int a1.2), (4, .int (nI k1)), (5, .int (vX7_waysTogether (h 4) (h 5) n (nI k1)))] dX9_middle_51 rfl (by decide) rfl ?_
        refine rr_iload 5 rfl dX9_middle_52 ?_
        refine rr_istore_n [(0, .ref 0), (1, .int w), (2, .int (nI k1)), (3, .int (vX7_waysTogether (h 4) (h 5) n (nI k1))), (4, .int (nI k1)), (5, .int (vX7_waysTogether (h 4) (h 5) n (nI k1)))] dX9_middle_54 rfl (by decide) rfl ?_
        refine rr_iinc 4 1 [(0, .ref 0), (1, .int w), (2, .int (nI k1)), (3, .int (vX7_waysTogether (h 4) (h 5) n (nI k1))), (4, .int ((nI k1) + 1)), (5, .int (vX7_waysTogether (h 4) (h 5) n (nI k1)))] dX9_middle_55 rfl rfl (by decide) rfl ?_
        refine rr_goto dX9_middle_58 ?_
        try simp only [(nI_clamp (show k1 < 2 ^ 31 by omega))] at c2
        refine rr_drop (ls := [(0, .ref 0), (1, .int w), (2, .int (nI k1)), (3, .int (vX7_waysTogether (h 4) (h 5) n (nI k1))), (4, .int ((nI k1) + 1))]) [0, 1, 2, 3, 4] rfl ?_
        simpa only [nI_1, (nI_clamp (show k1 < 2 ^ 31 by omega)), if_pos c2] using ih1
      · skip
        refine rr_iload 5 rfl dX9_middle_43 ?_
        refine rr_iload_n 3 rfl rfl dX9_middle_45 ?_
        refine rr_icmp_ge dX9_middle_46 (fun c3 => ?_) (fun c3 => ?_)
        · skip
          refine rr_iinc 4 1 [(0, .ref 0), (1, .int w), (2, .int a1.1), (3, .int a1.2), (4, .int ((nI k1) + 1)), (5, .int (vX7_waysTogether (h 4) (h 5) n (nI k1)))] dX9_middle_55 rfl rfl (by decide) rfl ?_
          refine rr_goto dX9_middle_58 ?_
          try simp only [(nI_clamp (show k1 < 2 ^ 31 by omega))] at c2
          try simp only [(nI_clamp (show k1 < 2 ^ 31 by omega))] at c3
          refine rr_drop (ls := [(0, .ref 0), (1, .int w), (2, .int a1.1), (3, .int a1.2), (4, .int ((nI k1) + 1))]) [0, 1, 2, 3, 4] rfl ?_
          simpa only [nI_1, (nI_clamp (show k1 < 2 ^ 31 by omega)), if_neg c2, if_pos c3] using ih1
        · skip
          refine rr_iload 4 rfl dX9_middle_49 ?_
          refine rr_istore_n [(0, .ref 0), (1, .int w), (2, .int (nI k1)), (3, .int a1.2), (4, .int (nI k1)), (5, .int (vX7_waysTogether (h 4) (h 5) n (nI k1)))] dX9_middle_51 rfl (by decide) rfl ?_
          refine rr_iload 5 rfl dX9_middle_52 ?_
          refine rr_istore_n [(0, .ref 0), (1, .int w), (2, .int (nI k1)), (3, .int (vX7_waysTogether (h 4) (h 5) n (nI k1))), (4, .int (nI k1)), (5, .int (vX7_waysTogether (h 4) (h 5) n (nI k1)))] dX9_middle_54 rfl (by decide) rfl ?_
          refine rr_iinc 4 1 [(0, .ref 0), (1, .int w), (2, .int (nI k1)), (3, .int (vX7_waysTogether (h 4) (h 5) n (nI k1))), (4, .int ((nI k1) + 1)), (5, .int (vX7_waysTogether (h 4) (h 5) n (nI k1)))] dX9_middle_55 rfl rfl (by decide) rfl ?_
          refine rr_goto dX9_middle_58 ?_
          try simp only [(nI_clamp (show k1 < 2 ^ 31 by omega))] at c2
          try simp only [(nI_clamp (show k1 < 2 ^ 31 by omega))] at c3
          refine rr_drop (ls := [(0, .ref 0), (1, .int w), (2, .int (nI k1)), (3, .int (vX7_waysTogether (h 4) (h 5) n (nI k1))), (4, .int ((nI k1) + 1))]) [0, 1, 2, 3, 4] rfl ?_
          simpa only [nI_1, (nI_clamp (show k1 < 2 ^ 31 by omega)), if_neg c2, if_neg c3] using ih1
    · try dsimp only
      refine rr_iload 4 rfl dX9_middle_15 ?_
      refine rr_aload_n 0 rfl rfl dX9_middle_17 ?_
      refine rr_getR dX9_middle_18 fX9_27 lo_0 sh_0 rfl ?_
      refine rr_getI dX9_middle_21 fX9_132 lo_1 sh_1 rfl ?_
      rw [hP]
      refine rr_icmp_ge dX9_middle_24 (fun _ => ?_) (fun c => absurd (jj_le_rf _) c)
      refine rr_iload_n 1 rfl rfl dX9_middle_61 ?_
      refine rr_if_ne dX9_middle_62 (fun c4 => ?_) (fun c4 => ?_)
      · skip
        refine rr_iload_n 3 rfl rfl dX9_middle_69 ?_
        refine rr_ireturn dX9_middle_70 rfl ?_
        refine jj_Qh (jj_addr (B := h) (o := 0) (r := (h 0)) rfl) ?_
        simpa only [vX9_middle, rX9_middle_0, if_neg c1, if_neg c4] using kq
      · skip
        refine rr_iload_n 2 rfl rfl dX9_middle_65 ?_
        refine rr_goto dX9_middle_66 ?_
        refine rr_ireturn dX9_middle_70 rfl ?_
        refine jj_Qh (jj_addr (B := h) (o := 0) (r := (h 0)) rfl) ?_
        simpa only [vX9_middle, rX9_middle_0, if_neg c1, if_pos c4] using kq
  · skip
    show Q (.inr "java/lang/IllegalArgumentException") (jj_S, 782, (jj_rs h [(0, (upd (h 0) 14 ((h 0) 14 + 1)))]), g)
    simpa only [vX9_middle, rX9_middle_0, if_pos c1] using kq
def vX9_tied (r0 : Nat → Int32) (r1 : Nat → Int32) (r42 : Nat → Int32) (n : Nat) (p : Int32) : jj_Rs := (if (vX9_isPerson r1 p) = 0 then (.inr "java/util/NoSuchElementException") else (.inl (some (.int (jj_fo (fun k1 (a1 : Int32) => (if (r42 k1) = p then (a1 ||| (1 <<< ((nI k1) &&& 31))) else (a1 ||| 0))) n 0)))))
def rX9_tied_0 (r0 : Nat → Int32) (r1 : Nat → Int32) (r42 : Nat → Int32) (n : Nat) (p : Int32) : Nat → Int32 := (if (vX9_isPerson r1 p) = 0 then (upd r0 13 (r0 13 + 1)) else r0)
set_option maxHeartbeats 1000000 in
theorem sp_X9_tied {d kc ks : Nat} {h : Nat → Nat → Int32} {g : Nat → Nat → Int64} {Q : jj_Rs → jj_St → Prop} {n : Nat} {p : Int32} (hP : h 1 0 = nI n) (hn : n ≤ 8) (kq : Q (vX9_tied (h 0) (h 1) (h 42) n p) (jj_S, 782, (jj_rs h [(0, (rX9_tied_0 (h 0) (h 1) (h 42) n p))]), g)) : jj_R mX9_tied (d + 7) (kc + 1) (ks + 6) (jj_S, 782, h, g) 0 [(0, .ref 0), (1, .int p)] [] Q := by
  refine rr_aload_n 0 rfl rfl dX9_tied_0 ?_
  refine rr_iload_n 1 rfl rfl dX9_tied_1 ?_
  refine rr_callV (As := [.int p]) (rest := []) (kc2 := 1) (ks2 := 6) dX9_tied_2 okX9_requirePerson lX9_198 lo_0 sh_0 rfl rfl (Nat.le_of_ble_eq_true rfl) (Nat.le_of_ble_eq_true rfl) rfl (by omega) (by simp [jj_rk]) (by simp [jj_rk]) ?_
  refine sp_X9_requirePerson  (fun c1 => ?_) (fun c1 => ?_)
  · skip
    show jj_R _ _ kc ks (jj_S, 782, h, g) 5 [(0, .ref 0), (1, .int p)] [] Q
    refine rr_iconst 0 rfl dX9_tied_5 ?_
    refine rr_istore_n [(0, .ref 0), (1, .int p), (2, .int 0)] dX9_tied_6 rfl (by decide) rfl ?_
    refine rr_iconst 0 rfl dX9_tied_7 ?_
    refine rr_istore_n [(0, .ref 0), (1, .int p), (2, .int 0), (3, .int 0)] dX9_tied_8 rfl (by decide) rfl ?_
    refine jj_for (fun k1 (a1 : Int32) => jj_R _ _ kc ks (jj_S, 782, h, g) 9 [(0, .ref 0), (1, .int p), (2, .int a1), (3, .int (nI k1))] [] Q) (fun k1 (a1 : Int32) => (if ((h 42) k1) = p then (a1 ||| (1 <<< ((nI k1) &&& 31))) else (a1 ||| 0))) n 0 ?_ ?_
    · intro k1 hk1 ih1
      generalize jj_fo _ k1 _ = a1 at ih1 ⊢
      try dsimp only at ih1 ⊢
      refine rr_iload_n 3 rfl rfl dX9_tied_9 ?_
      refine rr_aload_n 0 rfl rfl dX9_tied_10 ?_
      refine rr_getR dX9_tied_11 fX9_27 lo_0 sh_0 rfl ?_
      refine rr_getI dX9_tied_14 fX9_132 lo_1 sh_1 rfl ?_
      rw [hP]
      refine rr_icmp_ge dX9_tied_17 (fun c => absurd c (nI_ge (a := k1) (b := n) (by omega) (by omega))) (fun _ => ?_)
      refine rr_iload_n 2 rfl rfl dX9_tied_20 ?_
      refine rr_aload_n 0 rfl rfl dX9_tied_21 ?_
      refine rr_getR dX9_tied_22 fX9_80 lo_0 sh_0 rfl ?_
      refine rr_getR dX9_tied_25 fX9_229 lo_38 sh_38 rfl ?_
      refine rr_iload_n 3 rfl rfl dX9_tied_28 ?_
      refine rr_iaload dX9_tied_29 lo_42 sh_42 (by first | assumption | exact jj_pers hP hn (by assumption) | exact vp_in_nI (by omega) (by decide) | decide | omega) ?_
      refine rr_iload_n 1 rfl rfl dX9_tied_30 ?_
      refine rr_icmp_ne dX9_tied_31 (fun c2 => ?_) (fun c2 => ?_)
      · skip
        refine rr_iconst 0 rfl dX9_tied_40 ?_
        refine rr_ior dX9_tied_41 ?_
        refine rr_istore_n [(0, .ref 0), (1, .int p), (2, .int (a1 ||| 0)), (3, .int (nI k1))] dX9_tied_42 rfl (by decide) rfl ?_
        refine rr_iinc 3 1 [(0, .ref 0), (1, .int p), (2, .int (a1 ||| 0)), (3, .int ((nI k1) + 1))] dX9_tied_43 rfl rfl (by decide) rfl ?_
        refine rr_goto dX9_tied_46 ?_
        try simp only [(nI_clamp (show k1 < 2 ^ 31 by omega))] at c2
        simpa only [nI_1, (nI_clamp (show k1 < 2 ^ 31 by omega)), if_neg c2] using ih1
      · skip
        refine rr_iconst 1 rfl dX9_tied_34 ?_
        refine rr_iload_n 3 rfl rfl dX9_tied_35 ?_
        refine rr_ishl dX9_tied_36 ?_
        refine rr_goto dX9_tied_37 ?_
        refine rr_ior dX9_tied_41 ?_
        refine rr_istore_n [(0, .ref 0), (1, .int p), (2, .int (a1 ||| (1 <<< ((nI k1) &&& 31)))), (3, .int (nI k1))] dX9_tied_42 rfl (by decide) rfl ?_
        refine rr_iinc 3 1 [(0, .ref 0), (1, .int p), (2, .int (a1 ||| (1 <<< ((nI k1) &&& 31)))), (3, .int ((nI k1) + 1))] dX9_tied_43 rfl rfl (by decide) rfl ?_
        refine rr_goto dX9_tied_46 ?_
        try simp only [(nI_clamp (show k1 < 2 ^ 31 by omega))] at c2
        simpa only [nI_1, (nI_clamp (show k1 < 2 ^ 31 by omega)), if_pos c2] using ih1
    · try dsimp only
      refine rr_iload_n 3 rfl rfl dX9_tied_9 ?_
      refine rr_aload_n 0 rfl rfl dX9_tied_10 ?_
      refine rr_getR dX9_tied_11 fX9_27 lo_0 sh_0 rfl ?_
      refine rr_getI dX9_tied_14 fX9_132 lo_1 sh_1 rfl ?_
      rw [hP]
      refine rr_icmp_ge dX9_tied_17 (fun _ => ?_) (fun c => absurd (jj_le_rf _) c)
      refine rr_iload_n 2 rfl rfl dX9_tied_49 ?_
      refine rr_ireturn dX9_tied_50 rfl ?_
      refine jj_Qh (jj_addr (B := h) (o := 0) (r := (h 0)) rfl) ?_
      simpa only [vX9_tied, rX9_tied_0, if_neg c1] using kq
  · skip
    show Q (.inr "java/util/NoSuchElementException") (jj_S, 782, (jj_rs h [(0, (upd (h 0) 13 ((h 0) 13 + 1)))]), g)
    simpa only [vX9_tied, rX9_tied_0, if_pos c1] using kq
def vX9_steady (r2 : Nat → Int32) (r3 : Nat → Int32) (r6 : Nat → Int32) (r8 : Nat → Int32) (r38 : Nat → Int32) (r39 : Nat → Int32) (r40 : Nat → Int32) (r41 : Nat → Int32) (n : Nat) (m : Nat) : Int32 := (jj_fo (fun k1 (a1 : Int32) => (if (vX3_wouldTie_n r2 r3 r6 r8 r38 r39 r40 r41 m (nI k1) (nI k1)) = 0 then (a1 ||| 0) else (a1 ||| (1 <<< ((nI k1) &&& 31))))) n 0)
set_option maxHeartbeats 1000000 in
theorem sp_X9_steady {d kc ks : Nat} {h : Nat → Nat → Int32} {g : Nat → Nat → Int64} {Q : jj_Rs → jj_St → Prop} {n : Nat} {m : Nat} (hP : h 1 0 = nI n) (hn : n ≤ 8) (hm : h 7 1 = nI m) (hm2 : m ≤ 150) (kq : ∀ h9, jj_eq [10, 11] h h9 → Q (.inl (some (.int (vX9_steady (h 2) (h 3) (h 6) (h 8) (h 38) (h 39) (h 40) (h 41) n m)))) (jj_S, 782, h9, g)) : jj_R mX9_steady (d + 5) kc ks (jj_S, 782, h, g) 0 [(0, .ref 0)] [] Q := by
  refine rr_iconst 0 rfl dX9_steady_0 ?_
  refine rr_istore_n [(0, .ref 0), (1, .int 0)] dX9_steady_1 rfl (by decide) rfl ?_
  refine rr_iconst 0 rfl dX9_steady_2 ?_
  refine rr_istore_n [(0, .ref 0), (1, .int 0), (2, .int 0)] dX9_steady_3 rfl (by decide) rfl ?_
  refine jj_for (fun k1 (a1 : Int32) => ∀ hc1, jj_eq [10, 11] h hc1 → jj_R _ _ kc ks (jj_S, 782, hc1, g) 4 [(0, .ref 0), (1, .int a1), (2, .int (nI k1))] [] Q) (fun k1 (a1 : Int32) => (if (vX3_wouldTie_n (h 2) (h 3) (h 6) (h 8) (h 38) (h 39) (h 40) (h 41) m (nI k1) (nI k1)) = 0 then (a1 ||| 0) else (a1 ||| (1 <<< ((nI k1) &&& 31))))) n 0 ?_ ?_ h jj_eq.rf
  · intro k1 hk1 ih1 hc1 ec1
    generalize jj_fo _ k1 _ = a1 at ih1 ⊢
    try dsimp only at ih1 ⊢
    refine rr_iload_n 2 rfl rfl dX9_steady_4 ?_
    refine rr_aload_n 0 rfl rfl dX9_steady_5 ?_
    refine rr_getR dX9_steady_6 fX9_27 lo_0 sh_0 rfl ?_
    refine rr_getI dX9_steady_9 fX9_132 lo_1 sh_1 rfl ?_
    rw [ec1 1 (by decide)]
    rw [hP]
    refine rr_icmp_ge dX9_steady_12 (fun c => absurd c (nI_ge (a := k1) (b := n) (by omega) (by omega))) (fun _ => ?_)
    refine rr_iload_n 1 rfl rfl dX9_steady_15 ?_
    refine rr_aload_n 0 rfl rfl dX9_steady_16 ?_
    refine rr_getR dX9_steady_17 fX9_38 lo_0 sh_0 rfl ?_
    refine rr_aload_n 0 rfl rfl dX9_steady_20 ?_
    refine rr_getR dX9_steady_21 fX9_80 lo_0 sh_0 rfl ?_
    refine rr_iload_n 2 rfl rfl dX9_steady_24 ?_
    refine rr_iload_n 2 rfl rfl dX9_steady_25 ?_
    refine rr_callV (As := [.ref 38, .int (nI k1), .int (nI k1)]) (rest := [.int a1]) (kc2 := 0) (ks2 := 0) dX9_steady_26 okX3_wouldTie lX9_295 lo_12 sh_12 rfl rfl (Nat.le_of_ble_eq_true rfl) (Nat.le_of_ble_eq_true rfl) rfl (by omega) (by simp [jj_rk]) (by simp [jj_rk]) ?_
    refine sp_X3_wouldTie_n (by first | assumption | (rw [ec1 7 (by decide)]; assumption) | (rw [ec1 1 (by decide)]; assumption) | exact jj_pers hP hn (by assumption) | exact vp_in_nI (by omega) (by decide) | decide | omega) (by first | assumption | (rw [ec1 7 (by decide)]; assumption) | (rw [ec1 1 (by decide)]; assumption) | exact jj_pers hP hn (by assumption) | exact vp_in_nI (by omega) (by decide) | decide | omega) (by first | assumption | (rw [ec1 7 (by decide)]; assumption) | (rw [ec1 1 (by decide)]; assumption) | exact jj_pers hP hn (by assumption) | exact vp_in_nI (by omega) (by decide) | decide | omega) (by first | assumption | (rw [ec1 7 (by decide)]; assumption) | (rw [ec1 1 (by decide)]; assumption) | exact jj_pers hP hn (by assumption) | exact vp_in_nI (by omega) (by decide) | decide | omega) (fun h1 e2 => ?_)
    have e3 := jj_lo0 (X := [10, 11]) ec1 e2 (by decide)
    show jj_R _ _ kc ks (jj_S, 782, h1, g) 29 [(0, .ref 0), (1, .int a1), (2, .int (nI k1))] [.int (vX3_wouldTie_n (hc1 2) (hc1 3) (hc1 6) (hc1 8) (hc1 38) (hc1 39) (hc1 40) (hc1 41) m (nI k1) (nI k1)), .int a1] Q
    try rw [ec1 2 (by decide)]
    try rw [ec1 3 (by decide)]
    try rw [ec1 6 (by decide)]
    try rw [ec1 8 (by decide)]
    try rw [ec1 38 (by decide)]
    try rw [ec1 39 (by decide)]
    try rw [ec1 40 (by decide)]
    try rw [ec1 41 (by decide)]
    refine rr_if_eq dX9_steady_29 (fun c4 => ?_) (fun c4 => ?_)
    · skip
      refine rr_iconst 0 rfl dX9_steady_38 ?_
      refine rr_ior dX9_steady_39 ?_
      refine rr_istore_n [(0, .ref 0), (1, .int (a1 ||| 0)), (2, .int (nI k1))] dX9_steady_40 rfl (by decide) rfl ?_
      refine rr_iinc 2 1 [(0, .ref 0), (1, .int (a1 ||| 0)), (2, .int ((nI k1) + 1))] dX9_steady_41 rfl rfl (by decide) rfl ?_
      refine rr_goto dX9_steady_44 ?_
      try simp only [(nI_clamp (show k1 < 2 ^ 31 by omega))] at c4
      simpa only [nI_1, (nI_clamp (show k1 < 2 ^ 31 by omega)), if_pos c4] using ih1 h1 e3
    · skip
      refine rr_iconst 1 rfl dX9_steady_32 ?_
      refine rr_iload_n 2 rfl rfl dX9_steady_33 ?_
      refine rr_ishl dX9_steady_34 ?_
      refine rr_goto dX9_steady_35 ?_
      refine rr_ior dX9_steady_39 ?_
      refine rr_istore_n [(0, .ref 0), (1, .int (a1 ||| (1 <<< ((nI k1) &&& 31)))), (2, .int (nI k1))] dX9_steady_40 rfl (by decide) rfl ?_
      refine rr_iinc 2 1 [(0, .ref 0), (1, .int (a1 ||| (1 <<< ((nI k1) &&& 31)))), (2, .int ((nI k1) + 1))] dX9_steady_41 rfl rfl (by decide) rfl ?_
      refine rr_goto dX9_steady_44 ?_
      try simp only [(nI_clamp (show k1 < 2 ^ 31 by omega))] at c4
      simpa only [nI_1, (nI_clamp (show k1 < 2 ^ 31 by omega)), if_neg c4] using ih1 h1 e3
  · try dsimp only
    intro hc1 ec1
    refine rr_iload_n 2 rfl rfl dX9_steady_4 ?_
    refine rr_aload_n 0 rfl rfl dX9_steady_5 ?_
    refine rr_getR dX9_steady_6 fX9_27 lo_0 sh_0 rfl ?_
    refine rr_getI dX9_steady_9 fX9_132 lo_1 sh_1 rfl ?_
    rw [ec1 1 (by decide)]
    rw [hP]
    refine rr_icmp_ge dX9_steady_12 (fun _ => ?_) (fun c => absurd (jj_le_rf _) c)
    refine rr_iload_n 1 rfl rfl dX9_steady_47 ?_
    refine rr_ireturn dX9_steady_48 rfl ?_
    simpa only [vX9_steady] using kq hc1 ec1
def vX9_best (r0 : Nat → Int32) (r1 : Nat → Int32) (r2 : Nat → Int32) (r3 : Nat → Int32) (r6 : Nat → Int32) (r8 : Nat → Int32) (r38 : Nat → Int32) (r39 : Nat → Int32) (r40 : Nat → Int32) (r41 : Nat → Int32) (n : Nat) (m : Nat) (p : Int32) : jj_Rs := (if (vX9_isPerson r1 p) = 0 then (.inr "java/util/NoSuchElementException") else (.inl (some (.int (jj_fo (fun k1 (a1 : Int32 × Int32) => (if (vX6_mayTie_n r38 r40 (nI k1) p) = 0 then (if (-1) ≤ a1.2 then (a1.1, a1.2) else ((nI k1), (-1))) else (if (vX3_holdOf_n r2 r3 r6 r8 r38 r39 r41 m (nI k1) p 0) ≤ a1.2 then (a1.1, a1.2) else ((nI k1), (vX3_holdOf_n r2 r3 r6 r8 r38 r39 r41 m (nI k1) p 0))))) n ((-1), (-1))).1))))
def rX9_best_0 (r0 : Nat → Int32) (r1 : Nat → Int32) (r2 : Nat → Int32) (r3 : Nat → Int32) (r6 : Nat → Int32) (r8 : Nat → Int32) (r38 : Nat → Int32) (r39 : Nat → Int32) (r40 : Nat → Int32) (r41 : Nat → Int32) (n : Nat) (m : Nat) (p : Int32) : Nat → Int32 := (if (vX9_isPerson r1 p) = 0 then (upd r0 13 (r0 13 + 1)) else r0)
set_option maxHeartbeats 1000000 in
theorem sp_X9_best {d kc ks : Nat} {h : Nat → Nat → Int32} {g : Nat → Nat → Int64} {Q : jj_Rs → jj_St → Prop} {n : Nat} {m : Nat} {p : Int32} (hP : h 1 0 = nI n) (hn : n ≤ 8) (hm : h 7 1 = nI m) (hm2 : m ≤ 150) (kq : ∀ h9, jj_eq [10, 11] h h9 → Q (vX9_best (h 0) (h 1) (h 2) (h 3) (h 6) (h 8) (h 38) (h 39) (h 40) (h 41) n m p) (jj_S, 782, (jj_rs h9 [(0, (rX9_best_0 (h 0) (h 1) (h 2) (h 3) (h 6) (h 8) (h 38) (h 39) (h 40) (h 41) n m p))]), g)) : jj_R mX9_best (d + 7) (kc + 1) (ks + 6) (jj_S, 782, h, g) 0 [(0, .ref 0), (1, .int p)] [] Q := by
  refine rr_aload_n 0 rfl rfl dX9_best_0 ?_
  refine rr_iload_n 1 rfl rfl dX9_best_1 ?_
  refine rr_callV (As := [.int p]) (rest := []) (kc2 := 1) (ks2 := 6) dX9_best_2 okX9_requirePerson lX9_198 lo_0 sh_0 rfl rfl (Nat.le_of_ble_eq_true rfl) (Nat.le_of_ble_eq_true rfl) rfl (by omega) (by simp [jj_rk]) (by simp [jj_rk]) ?_
  refine sp_X9_requirePerson  (fun c1 => ?_) (fun c1 => ?_)
  · skip
    show jj_R _ _ kc ks (jj_S, 782, h, g) 5 [(0, .ref 0), (1, .int p)] [] Q
    refine rr_iconst (-1) rfl dX9_best_5 ?_
    refine rr_istore_n [(0, .ref 0), (1, .int p), (2, .int (-1))] dX9_best_6 rfl (by decide) rfl ?_
    refine rr_iconst (-1) rfl dX9_best_7 ?_
    refine rr_istore_n [(0, .ref 0), (1, .int p), (2, .int (-1)), (3, .int (-1))] dX9_best_8 rfl (by decide) rfl ?_
    refine rr_iconst 0 rfl dX9_best_9 ?_
    refine rr_istore [(0, .ref 0), (1, .int p), (2, .int (-1)), (3, .int (-1)), (4, .int 0)] dX9_best_10 (by decide) rfl ?_
    refine jj_for (fun k1 (a1 : Int32 × Int32) => ∀ hc1, jj_eq [10, 11] h hc1 → jj_R _ _ kc ks (jj_S, 782, hc1, g) 12 [(0, .ref 0), (1, .int p), (2, .int a1.1), (3, .int a1.2), (4, .int (nI k1))] [] Q) (fun k1 (a1 : Int32 × Int32) => (if (vX6_mayTie_n (h 38) (h 40) (nI k1) p) = 0 then (if (-1) ≤ a1.2 then (a1.1, a1.2) else ((nI k1), (-1))) else (if (vX3_holdOf_n (h 2) (h 3) (h 6) (h 8) (h 38) (h 39) (h 41) m (nI k1) p 0) ≤ a1.2 then (a1.1, a1.2) else ((nI k1), (vX3_holdOf_n (h 2) (h 3) (h 6) (h 8) (h 38) (h 39) (h 41) m (nI k1) p 0))))) n ((-1), (-1)) ?_ ?_ h jj_eq.rf
    · intro k1 hk1 ih1 hc1 ec1
      generalize jj_fo _ k1 _ = a1 at ih1 ⊢
      try dsimp only at ih1 ⊢
      refine rr_iload 4 rfl dX9_best_12 ?_
      refine rr_aload_n 0 rfl rfl dX9_best_14 ?_
      refine rr_getR dX9_best_15 fX9_27 lo_0 sh_0 rfl ?_
      refine rr_getI dX9_best_18 fX9_132 lo_1 sh_1 rfl ?_
      rw [ec1 1 (by decide)]
      rw [hP]
      refine rr_icmp_ge dX9_best_21 (fun c => absurd c (nI_ge (a := k1) (b := n) (by omega) (by omega))) (fun _ => ?_)
      refine rr_aload_n 0 rfl rfl dX9_best_24 ?_
      refine rr_getR dX9_best_25 fX9_80 lo_0 sh_0 rfl ?_
      refine rr_iload 4 rfl dX9_best_28 ?_
      refine rr_iload_n 1 rfl rfl dX9_best_30 ?_
      refine rr_callV (As := [.int (nI k1), .int p]) (rest := []) (kc2 := 0) (ks2 := 0) dX9_best_31 okX6_mayTie lX9_250 lo_38 sh_38 rfl rfl (Nat.le_of_ble_eq_true rfl) (Nat.le_of_ble_eq_true rfl) rfl (by omega) (by simp [jj_rk]) (by simp [jj_rk]) ?_
      refine sp_X6_mayTie_n (by first | assumption | (rw [ec1 7 (by decide)]; assumption) | (rw [ec1 1 (by decide)]; assumption) | exact jj_pers hP hn (by assumption) | exact vp_in_nI (by omega) (by decide) | decide | omega) (by first | assumption | (rw [ec1 7 (by decide)]; assumption) | (rw [ec1 1 (by decide)]; assumption) | exact jj_pers hP hn (by assumption) | exact vp_in_nI (by omega) (by decide) | decide | omega) ?_
      show jj_R _ _ kc ks (jj_S, 782, hc1, g) 34 [(0, .ref 0), (1, .int p), (2, .int a1.1), (3, .int a1.2), (4, .int (nI k1))] [.int (vX6_mayTie_n (hc1 38) (hc1 40) (nI k1) p)] Q
      try rw [ec1 38 (by decide)]
      try rw [ec1 40 (by decide)]
      refine rr_if_eq dX9_best_34 (fun c2 => ?_) (fun c2 => ?_)
      · skip
        refine rr_iconst (-1) rfl dX9_best_55 ?_
        refine rr_istore [(0, .ref 0), (1, .int p), (2, .int a1.1), (3, .int a1.2), (4, .int (nI k1)), (5, .int (-1))] dX9_best_56 (by decide) rfl ?_
        refine rr_iload 5 rfl dX9_best_58 ?_
        refine rr_iload_n 3 rfl rfl dX9_best_60 ?_
        refine rr_icmp_le dX9_best_61 (fun c3 => ?_) (fun c3 => ?_)
        · skip
          refine rr_iinc 4 1 [(0, .ref 0), (1, .int p), (2, .int a1.1), (3, .int a1.2), (4, .int ((nI k1) + 1)), (5, .int (-1))] dX9_best_70 rfl rfl (by decide) rfl ?_
          refine rr_goto dX9_best_73 ?_
          try simp only [(nI_clamp (show k1 < 2 ^ 31 by omega))] at c2
          try simp only [(nI_clamp (show k1 < 2 ^ 31 by omega))] at c3
          refine rr_drop (ls := [(0, .ref 0), (1, .int p), (2, .int a1.1), (3, .int a1.2), (4, .int ((nI k1) + 1))]) [0, 1, 2, 3, 4] rfl ?_
          simpa only [nI_1, (nI_clamp (show k1 < 2 ^ 31 by omega)), if_pos c2, if_pos c3] using ih1 hc1 ec1
        · skip
          refine rr_iload 5 rfl dX9_best_64 ?_
          refine rr_istore_n [(0, .ref 0), (1, .int p), (2, .int a1.1), (3, .int (-1)), (4, .int (nI k1)), (5, .int (-1))] dX9_best_66 rfl (by decide) rfl ?_
          refine rr_iload 4 rfl dX9_best_67 ?_
          refine rr_istore_n [(0, .ref 0), (1, .int p), (2, .int (nI k1)), (3, .int (-1)), (4, .int (nI k1)), (5, .int (-1))] dX9_best_69 rfl (by decide) rfl ?_
          refine rr_iinc 4 1 [(0, .ref 0), (1, .int p), (2, .int (nI k1)), (3, .int (-1)), (4, .int ((nI k1) + 1)), (5, .int (-1))] dX9_best_70 rfl rfl (by decide) rfl ?_
          refine rr_goto dX9_best_73 ?_
          try simp only [(nI_clamp (show k1 < 2 ^ 31 by omega))] at c2
          try simp only [(nI_clamp (show k1 < 2 ^ 31 by omega))] at c3
          refine rr_drop (ls := [(0, .ref 0), (1, .int p), (2, .int (nI k1)), (3, .int (-1)), (4, .int ((nI k1) + 1))]) [0, 1, 2, 3, 4] rfl ?_
          simpa only [nI_1, (nI_clamp (show k1 < 2 ^ 31 by omega)), if_pos c2, if_neg c3] using ih1 hc1 ec1
      · skip
        refine rr_aload_n 0 rfl rfl dX9_best_37 ?_
        refine rr_getR dX9_best_38 fX9_38 lo_0 sh_0 rfl ?_
        refine rr_aload_n 0 rfl rfl dX9_best_41 ?_
        refine rr_getR dX9_best_42 fX9_80 lo_0 sh_0 rfl ?_
        refine rr_iload 4 rfl dX9_best_45 ?_
        refine rr_iload_n 1 rfl rfl dX9_best_47 ?_
        refine rr_iconst 0 rfl dX9_best_48 ?_
        refine rr_callV (As := [.ref 38, .int (nI k1), .int p, .int 0]) (rest := []) (kc2 := 0) (ks2 := 0) dX9_best_49 okX3_holdOf lX9_238 lo_12 sh_12 rfl rfl (Nat.le_of_ble_eq_true rfl) (Nat.le_of_ble_eq_true rfl) rfl (by omega) (by simp [jj_rk]) (by simp [jj_rk]) ?_
        refine sp_X3_holdOf_n (by first | assumption | (rw [ec1 7 (by decide)]; assumption) | (rw [ec1 1 (by decide)]; assumption) | exact jj_pers hP hn (by assumption) | exact vp_in_nI (by omega) (by decide) | decide | omega) (by first | assumption | (rw [ec1 7 (by decide)]; assumption) | (rw [ec1 1 (by decide)]; assumption) | exact jj_pers hP hn (by assumption) | exact vp_in_nI (by omega) (by decide) | decide | omega) (by first | assumption | (rw [ec1 7 (by decide)]; assumption) | (rw [ec1 1 (by decide)]; assumption) | exact jj_pers hP hn (by assumption) | exact vp_in_nI (by omega) (by decide) | decide | omega) (by first | assumption | (rw [ec1 7 (by decide)]; assumption) | (rw [ec1 1 (by decide)]; assumption) | exact jj_pers hP hn (by assumption) | exact vp_in_nI (by omega) (by decide) | decide | omega) (fun h4 e5 => ?_)
        have e6 := jj_lo0 (X := [10, 11]) ec1 e5 (by decide)
        show jj_R _ _ kc ks (jj_S, 782, h4, g) 52 [(0, .ref 0), (1, .int p), (2, .int a1.1), (3, .int a1.2), (4, .int (nI k1))] [.int (vX3_holdOf_n (hc1 2) (hc1 3) (hc1 6) (hc1 8) (hc1 38) (hc1 39) (hc1 41) m (nI k1) p 0)] Q
        try rw [ec1 2 (by decide)]
        try rw [ec1 3 (by decide)]
        try rw [ec1 6 (by decide)]
        try rw [ec1 8 (by decide)]
        try rw [ec1 38 (by decide)]
        try rw [ec1 39 (by decide)]
        try rw [ec1 41 (by decide)]
        refine rr_goto dX9_best_52 ?_
        refine rr_istore [(0, .ref 0), (1, .int p), (2, .int a1.1), (3, .int a1.2), (4, .int (nI k1)), (5, .int (vX3_holdOf_n (h 2) (h 3) (h 6) (h 8) (h 38) (h 39) (h 41) m (nI k1) p 0))] dX9_best_56 (by decide) rfl ?_
        refine rr_iload 5 rfl dX9_best_58 ?_
        refine rr_iload_n 3 rfl rfl dX9_best_60 ?_
        refine rr_icmp_le dX9_best_61 (fun c7 => ?_) (fun c7 => ?_)
        · skip
          refine rr_iinc 4 1 [(0, .ref 0), (1, .int p), (2, .int a1.1), (3, .int a1.2), (4, .int ((nI k1) + 1)), (5, .int (vX3_holdOf_n (h 2) (h 3) (h 6) (h 8) (h 38) (h 39) (h 41) m (nI k1) p 0))] dX9_best_70 rfl rfl (by decide) rfl ?_
          refine rr_goto dX9_best_73 ?_
          try simp only [(nI_clamp (show k1 < 2 ^ 31 by omega))] at c2
          try simp only [(nI_clamp (show k1 < 2 ^ 31 by omega))] at c7
          refine rr_drop (ls := [(0, .ref 0), (1, .int p), (2, .int a1.1), (3, .int a1.2), (4, .int ((nI k1) + 1))]) [0, 1, 2, 3, 4] rfl ?_
          simpa only [nI_1, (nI_clamp (show k1 < 2 ^ 31 by omega)), if_neg c2, if_pos c7] using ih1 h4 e6
        · skip
          refine rr_iload 5 rfl dX9_best_64 ?_
          refine rr_istore_n [(0, .ref 0), (1, .int p), (2, .int a1.1), (3, .int (vX3_holdOf_n (h 2) (h 3) (h 6) (h 8) (h 38) (h 39) (h 41) m (nI k1) p 0)), (4, .int (nI k1)), (5, .int (vX3_holdOf_n (h 2) (h 3) (h 6) (h 8) (h 38) (h 39) (h 41) m (nI k1) p 0))] dX9_best_66 rfl (by decide) rfl ?_
          refine rr_iload 4 rfl dX9_best_67 ?_
          refine rr_istore_n [(0, .ref 0), (1, .int p), (2, .int (nI k1)), (3, .int (vX3_holdOf_n (h 2) (h 3) (h 6) (h 8) (h 38) (h 39) (h 41) m (nI k1) p 0)), (4, .int (nI k1)), (5, .int (vX3_holdOf_n (h 2) (h 3) (h 6) (h 8) (h 38) (h 39) (h 41) m (nI k1) p 0))] dX9_best_69 rfl (by decide) rfl ?_
          refine rr_iinc 4 1 [(0, .ref 0), (1, .int p), (2, .int (nI k1)), (3, .int (vX3_holdOf_n (h 2) (h 3) (h 6) (h 8) (h 38) (h 39) (h 41) m (nI k1) p 0)), (4, .int ((nI k1) + 1)), (5, .int (vX3_holdOf_n (h 2) (h 3) (h 6) (h 8) (h 38) (h 39) (h 41) m (nI k1) p 0))] dX9_best_70 rfl rfl (by decide) rfl ?_
          refine rr_goto dX9_best_73 ?_
          try simp only [(nI_clamp (show k1 < 2 ^ 31 by omega))] at c2
          try simp only [(nI_clamp (show k1 < 2 ^ 31 by omega))] at c7
          refine rr_drop (ls := [(0, .ref 0), (1, .int p), (2, .int (nI k1)), (3, .int (vX3_holdOf_n (h 2) (h 3) (h 6) (h 8) (h 38) (h 39) (h 41) m (nI k1) p 0)), (4, .int ((nI k1) + 1))]) [0, 1, 2, 3, 4] rfl ?_
          simpa only [nI_1, (nI_clamp (show k1 < 2 ^ 31 by omega)), if_neg c2, if_neg c7] using ih1 h4 e6
    · try dsimp only
      intro hc1 ec1
      refine rr_iload 4 rfl dX9_best_12 ?_
      refine rr_aload_n 0 rfl rfl dX9_best_14 ?_
      refine rr_getR dX9_best_15 fX9_27 lo_0 sh_0 rfl ?_
      refine rr_getI dX9_best_18 fX9_132 lo_1 sh_1 rfl ?_
      rw [ec1 1 (by decide)]
      rw [hP]
      refine rr_icmp_ge dX9_best_21 (fun _ => ?_) (fun c => absurd (jj_le_rf _) c)
      refine rr_iload_n 2 rfl rfl dX9_best_76 ?_
      refine rr_ireturn dX9_best_77 rfl ?_
      refine jj_Qh (jj_addr (B := hc1) (o := 0) (r := (h 0)) (ec1 0 (by decide))) ?_
      simpa only [vX9_best, rX9_best_0, if_neg c1] using kq hc1 ec1
  · skip
    show Q (.inr "java/util/NoSuchElementException") (jj_S, 782, (jj_rs h [(0, (upd (h 0) 13 ((h 0) 13 + 1)))]), g)
    simpa only [vX9_best, rX9_best_0, if_pos c1] using kq h jj_eq.rf
def vX9_loose (r38 : Nat → Int32) (r40 : Nat → Int32) (n : Nat) : Int32 := (jj_fo (fun k1 (a1 : Int32) => (if (vX6_isLoose_n r38 r40 (nI k1)) = 0 then (a1 ||| 0) else (a1 ||| (1 <<< ((nI k1) &&& 31))))) n 0)
set_option maxHeartbeats 1000000 in
theorem sp_X9_loose {d kc ks : Nat} {h : Nat → Nat → Int32} {g : Nat → Nat → Int64} {Q : jj_Rs → jj_St → Prop} {n : Nat} (hP : h 1 0 = nI n) (hn : n ≤ 8) (kq : Q (.inl (some (.int (vX9_loose (h 38) (h 40) n)))) (jj_S, 782, h, g)) : jj_R mX9_loose (d + 2) kc ks (jj_S, 782, h, g) 0 [(0, .ref 0)] [] Q := by
  refine rr_iconst 0 rfl dX9_loose_0 ?_
  refine rr_istore_n [(0, .ref 0), (1, .int 0)] dX9_loose_1 rfl (by decide) rfl ?_
  refine rr_iconst 0 rfl dX9_loose_2 ?_
  refine rr_istore_n [(0, .ref 0), (1, .int 0), (2, .int 0)] dX9_loose_3 rfl (by decide) rfl ?_
  refine jj_for (fun k1 (a1 : Int32) => jj_R _ _ kc ks (jj_S, 782, h, g) 4 [(0, .ref 0), (1, .int a1), (2, .int (nI k1))] [] Q) (fun k1 (a1 : Int32) => (if (vX6_isLoose_n (h 38) (h 40) (nI k1)) = 0 then (a1 ||| 0) else (a1 ||| (1 <<< ((nI k1) &&& 31))))) n 0 ?_ ?_
  · intro k1 hk1 ih1
    generalize jj_fo _ k1 _ = a1 at ih1 ⊢
    try dsimp only at ih1 ⊢
    refine rr_iload_n 2 rfl rfl dX9_loose_4 ?_
    refine rr_aload_n 0 rfl rfl dX9_loose_5 ?_
    refine rr_getR dX9_loose_6 fX9_27 lo_0 sh_0 rfl ?_
    refine rr_getI dX9_loose_9 fX9_132 lo_1 sh_1 rfl ?_
    rw [hP]
    refine rr_icmp_ge dX9_loose_12 (fun c => absurd c (nI_ge (a := k1) (b := n) (by omega) (by omega))) (fun _ => ?_)
    refine rr_iload_n 1 rfl rfl dX9_loose_15 ?_
    refine rr_aload_n 0 rfl rfl dX9_loose_16 ?_
    refine rr_getR dX9_loose_17 fX9_80 lo_0 sh_0 rfl ?_
    refine rr_iload_n 2 rfl rfl dX9_loose_20 ?_
    refine rr_callV (As := [.int (nI k1)]) (rest := [.int a1]) (kc2 := 0) (ks2 := 0) dX9_loose_21 okX6_isLoose lX9_299 lo_38 sh_38 rfl rfl (Nat.le_of_ble_eq_true rfl) (Nat.le_of_ble_eq_true rfl) rfl (by omega) (by simp [jj_rk]) (by simp [jj_rk]) ?_
    refine sp_X6_isLoose_n (by first | assumption | exact jj_pers hP hn (by assumption) | exact vp_in_nI (by omega) (by decide) | decide | omega) ?_
    show jj_R _ _ kc ks (jj_S, 782, h, g) 24 [(0, .ref 0), (1, .int a1), (2, .int (nI k1))] [.int (vX6_isLoose_n (h 38) (h 40) (nI k1)), .int a1] Q
    refine rr_if_eq dX9_loose_24 (fun c1 => ?_) (fun c1 => ?_)
    · skip
      refine rr_iconst 0 rfl dX9_loose_33 ?_
      refine rr_ior dX9_loose_34 ?_
      refine rr_istore_n [(0, .ref 0), (1, .int (a1 ||| 0)), (2, .int (nI k1))] dX9_loose_35 rfl (by decide) rfl ?_
      refine rr_iinc 2 1 [(0, .ref 0), (1, .int (a1 ||| 0)), (2, .int ((nI k1) + 1))] dX9_loose_36 rfl rfl (by decide) rfl ?_
      refine rr_goto dX9_loose_39 ?_
      try simp only [(nI_clamp (show k1 < 2 ^ 31 by omega))] at c1
      simpa only [nI_1, (nI_clamp (show k1 < 2 ^ 31 by omega)), if_pos c1] using ih1
    · skip
      refine rr_iconst 1 rfl dX9_loose_27 ?_
      refine rr_iload_n 2 rfl rfl dX9_loose_28 ?_
      refine rr_ishl dX9_loose_29 ?_
      refine rr_goto dX9_loose_30 ?_
      refine rr_ior dX9_loose_34 ?_
      refine rr_istore_n [(0, .ref 0), (1, .int (a1 ||| (1 <<< ((nI k1) &&& 31)))), (2, .int (nI k1))] dX9_loose_35 rfl (by decide) rfl ?_
      refine rr_iinc 2 1 [(0, .ref 0), (1, .int (a1 ||| (1 <<< ((nI k1) &&& 31)))), (2, .int ((nI k1) + 1))] dX9_loose_36 rfl rfl (by decide) rfl ?_
      refine rr_goto dX9_loose_39 ?_
      try simp only [(nI_clamp (show k1 < 2 ^ 31 by omega))] at c1
      simpa only [nI_1, (nI_clamp (show k1 < 2 ^ 31 by omega)), if_neg c1] using ih1
  · try dsimp only
    refine rr_iload_n 2 rfl rfl dX9_loose_4 ?_
    refine rr_aload_n 0 rfl rfl dX9_loose_5 ?_
    refine rr_getR dX9_loose_6 fX9_27 lo_0 sh_0 rfl ?_
    refine rr_getI dX9_loose_9 fX9_132 lo_1 sh_1 rfl ?_
    rw [hP]
    refine rr_icmp_ge dX9_loose_12 (fun _ => ?_) (fun c => absurd (jj_le_rf _) c)
    refine rr_iload_n 1 rfl rfl dX9_loose_42 ?_
    refine rr_ireturn dX9_loose_43 rfl ?_
    simpa only [vX9_loose] using kq
def vX9_kin (r0 : Nat → Int32) (r1 : Nat → Int32) (r6 : Nat → Int32) (n : Nat) (p : Int32) : jj_Rs := (if (vX9_isPerson r1 p) = 0 then (.inr "java/util/NoSuchElementException") else (.inl (some (.int (jj_fo (fun k1 (a1 : Int32) => (a1 ||| (vX7_friendsOf r6 n a1))) n (1 <<< (p &&& 31)))))))
def rX9_kin_0 (r0 : Nat → Int32) (r1 : Nat → Int32) (r6 : Nat → Int32) (n : Nat) (p : Int32) : Nat → Int32 := (if (vX9_isPerson r1 p) = 0 then (upd r0 13 (r0 13 + 1)) else r0)
set_option maxHeartbeats 1000000 in
theorem sp_X9_kin {d kc ks : Nat} {h : Nat → Nat → Int32} {g : Nat → Nat → Int64} {Q : jj_Rs → jj_St → Prop} {n : Nat} {p : Int32} (hP : h 1 0 = nI n) (hn : n ≤ 8) (kq : Q (vX9_kin (h 0) (h 1) (h 6) n p) (jj_S, 782, (jj_rs h [(0, (rX9_kin_0 (h 0) (h 1) (h 6) n p))]), g)) : jj_R mX9_kin (d + 7) (kc + 1) (ks + 6) (jj_S, 782, h, g) 0 [(0, .ref 0), (1, .int p)] [] Q := by
  refine rr_aload_n 0 rfl rfl dX9_kin_0 ?_
  refine rr_iload_n 1 rfl rfl dX9_kin_1 ?_
  refine rr_callV (As := [.int p]) (rest := []) (kc2 := 1) (ks2 := 6) dX9_kin_2 okX9_requirePerson lX9_198 lo_0 sh_0 rfl rfl (Nat.le_of_ble_eq_true rfl) (Nat.le_of_ble_eq_true rfl) rfl (by omega) (by simp [jj_rk]) (by simp [jj_rk]) ?_
  refine sp_X9_requirePerson  (fun c1 => ?_) (fun c1 => ?_)
  · skip
    show jj_R _ _ kc ks (jj_S, 782, h, g) 5 [(0, .ref 0), (1, .int p)] [] Q
    refine rr_iconst 1 rfl dX9_kin_5 ?_
    refine rr_iload_n 1 rfl rfl dX9_kin_6 ?_
    refine rr_ishl dX9_kin_7 ?_
    refine rr_istore_n [(0, .ref 0), (1, .int p), (2, .int (1 <<< (p &&& 31)))] dX9_kin_8 rfl (by decide) rfl ?_
    refine rr_iconst 0 rfl dX9_kin_9 ?_
    refine rr_istore_n [(0, .ref 0), (1, .int p), (2, .int (1 <<< (p &&& 31))), (3, .int 0)] dX9_kin_10 rfl (by decide) rfl ?_
    refine jj_for (fun k1 (a1 : Int32) => jj_R _ _ kc ks (jj_S, 782, h, g) 11 [(0, .ref 0), (1, .int p), (2, .int a1), (3, .int (nI k1))] [] Q) (fun k1 (a1 : Int32) => (a1 ||| (vX7_friendsOf (h 6) n a1))) n (1 <<< (p &&& 31)) ?_ ?_
    · intro k1 hk1 ih1
      generalize jj_fo _ k1 _ = a1 at ih1 ⊢
      try dsimp only at ih1 ⊢
      refine rr_iload_n 3 rfl rfl dX9_kin_11 ?_
      refine rr_aload_n 0 rfl rfl dX9_kin_12 ?_
      refine rr_getR dX9_kin_13 fX9_27 lo_0 sh_0 rfl ?_
      refine rr_getI dX9_kin_16 fX9_132 lo_1 sh_1 rfl ?_
      rw [hP]
      refine rr_icmp_ge dX9_kin_19 (fun c => absurd c (nI_ge (a := k1) (b := n) (by omega) (by omega))) (fun _ => ?_)
      refine rr_iload_n 2 rfl rfl dX9_kin_22 ?_
      refine rr_aload_n 0 rfl rfl dX9_kin_23 ?_
      refine rr_getR dX9_kin_24 fX9_27 lo_0 sh_0 rfl ?_
      refine rr_iload_n 2 rfl rfl dX9_kin_27 ?_
      refine rr_callV (As := [.int a1]) (rest := [.int a1]) (kc2 := 0) (ks2 := 0) dX9_kin_28 okX7_friendsOf lX9_302 lo_1 sh_1 rfl rfl (Nat.le_of_ble_eq_true rfl) (Nat.le_of_ble_eq_true rfl) rfl (by omega) (by simp [jj_rk]) (by simp [jj_rk]) ?_
      refine sp_X7_friendsOf (by first | assumption | exact jj_pers hP hn (by assumption) | exact vp_in_nI (by omega) (by decide) | decide | omega) (by first | assumption | exact jj_pers hP hn (by assumption) | exact vp_in_nI (by omega) (by decide) | decide | omega) ?_
      show jj_R _ _ kc ks (jj_S, 782, h, g) 31 [(0, .ref 0), (1, .int p), (2, .int a1), (3, .int (nI k1))] [.int (vX7_friendsOf (h 6) n a1), .int a1] Q
      refine rr_ior dX9_kin_31 ?_
      refine rr_istore_n [(0, .ref 0), (1, .int p), (2, .int (a1 ||| (vX7_friendsOf (h 6) n a1))), (3, .int (nI k1))] dX9_kin_32 rfl (by decide) rfl ?_
      refine rr_iinc 3 1 [(0, .ref 0), (1, .int p), (2, .int (a1 ||| (vX7_friendsOf (h 6) n a1))), (3, .int ((nI k1) + 1))] dX9_kin_33 rfl rfl (by decide) rfl ?_
      refine rr_goto dX9_kin_36 ?_
      simpa only [nI_1, (nI_clamp (show k1 < 2 ^ 31 by omega))] using ih1
    · try dsimp only
      refine rr_iload_n 3 rfl rfl dX9_kin_11 ?_
      refine rr_aload_n 0 rfl rfl dX9_kin_12 ?_
      refine rr_getR dX9_kin_13 fX9_27 lo_0 sh_0 rfl ?_
      refine rr_getI dX9_kin_16 fX9_132 lo_1 sh_1 rfl ?_
      rw [hP]
      refine rr_icmp_ge dX9_kin_19 (fun _ => ?_) (fun c => absurd (jj_le_rf _) c)
      refine rr_iload_n 2 rfl rfl dX9_kin_39 ?_
      refine rr_ireturn dX9_kin_40 rfl ?_
      refine jj_Qh (jj_addr (B := h) (o := 0) (r := (h 0)) rfl) ?_
      simpa only [vX9_kin, rX9_kin_0, if_neg c1] using kq
  · skip
    show Q (.inr "java/util/NoSuchElementException") (jj_S, 782, (jj_rs h [(0, (upd (h 0) 13 ((h 0) 13 + 1)))]), g)
    simpa only [vX9_kin, rX9_kin_0, if_pos c1] using kq
def vX9_slowest (r0 : Nat → Int32) (r38 : Nat → Int32) (r39 : Nat → Int32) (n : Nat) (w : Int32) : jj_Rs := (if (vX9_isBit w) = 0 then (.inr "java/lang/IllegalArgumentException") else (if w = 0 then (.inl (some (.int (jj_fo (fun k1 (a1 : Int32 × Int32) => (if (vX6_behindOf_n r38 r39 (nI k1)) ≤ a1.2 then (a1.1, a1.2) else ((nI k1), (vX6_behindOf_n r38 r39 (nI k1))))) n ((-1), 0)).1))) else (if (jj_fo (fun k1 (a1 : Int32 × Int32) => (if (vX6_behindOf_n r38 r39 (nI k1)) ≤ a1.2 then (a1.1, a1.2) else ((nI k1), (vX6_behindOf_n r38 r39 (nI k1))))) n ((-1), 0)).1 = (-1) then (.inl (some (.int (jj_fo (fun k1 (a1 : Int32 × Int32) => (if (vX6_behindOf_n r38 r39 (nI k1)) ≤ a1.2 then (a1.1, a1.2) else ((nI k1), (vX6_behindOf_n r38 r39 (nI k1))))) n ((-1), 0)).1))) else (.inl (some (.int (jj_fo (fun k1 (a1 : Int32 × Int32) => (if (vX6_behindOf_n r38 r39 (nI k1)) ≤ a1.2 then (a1.1, a1.2) else ((nI k1), (vX6_behindOf_n r38 r39 (nI k1))))) n ((-1), 0)).2))))))
def rX9_slowest_0 (r0 : Nat → Int32) (r38 : Nat → Int32) (r39 : Nat → Int32) (n : Nat) (w : Int32) : Nat → Int32 := (if (vX9_isBit w) = 0 then (upd r0 14 (r0 14 + 1)) else r0)
set_option maxHeartbeats 1000000 in
theorem sp_X9_slowest {d kc ks : Nat} {h : Nat → Nat → Int32} {g : Nat → Nat → Int64} {Q : jj_Rs → jj_St → Prop} {n : Nat} {w : Int32} (hP : h 1 0 = nI n) (hn : n ≤ 8) (kq : Q (vX9_slowest (h 0) (h 38) (h 39) n w) (jj_S, 782, (jj_rs h [(0, (rX9_slowest_0 (h 0) (h 38) (h 39) n w))]), g)) : jj_R mX9_slowest (d + 7) (kc + 1) (ks + 6) (jj_S, 782, h, g) 0 [(0, .ref 0), (1, .int w)] [] Q := by
  refine rr_aload_n 0 rfl rfl dX9_slowest_0 ?_
  refine rr_iload_n 1 rfl rfl dX9_slowest_1 ?_
  refine rr_callS (As := [.int w]) (rest := [.ref 0]) (kc2 := 0) (ks2 := 0) dX9_slowest_2 okX9_isBit lX9_235 rfl (Nat.le_of_ble_eq_true rfl) (Nat.le_of_ble_eq_true rfl) rfl (by omega) (by simp [jj_rk]) (by simp [jj_rk]) ?_
  refine sp_X9_isBit  ?_
  show jj_R _ _ (kc + 1) (ks + 6) (jj_S, 782, h, g) 5 [(0, .ref 0), (1, .int w)] [.int (vX9_isBit w), .ref 0] Q
  refine rr_callV (As := [.int (vX9_isBit w)]) (rest := []) (kc2 := 1) (ks2 := 6) dX9_slowest_5 okX9_require lX9_103 lo_0 sh_0 rfl rfl (Nat.le_of_ble_eq_true rfl) (Nat.le_of_ble_eq_true rfl) rfl (by omega) (by simp [jj_rk]) (by simp [jj_rk]) ?_
  refine sp_X9_require  (fun c1 => ?_) (fun c1 => ?_)
  · skip
    show jj_R _ _ kc ks (jj_S, 782, h, g) 8 [(0, .ref 0), (1, .int w)] [] Q
    refine rr_iconst (-1) rfl dX9_slowest_8 ?_
    refine rr_istore_n [(0, .ref 0), (1, .int w), (2, .int (-1))] dX9_slowest_9 rfl (by decide) rfl ?_
    refine rr_iconst 0 rfl dX9_slowest_10 ?_
    refine rr_istore_n [(0, .ref 0), (1, .int w), (2, .int (-1)), (3, .int 0)] dX9_slowest_11 rfl (by decide) rfl ?_
    refine rr_iconst 0 rfl dX9_slowest_12 ?_
    refine rr_istore [(0, .ref 0), (1, .int w), (2, .int (-1)), (3, .int 0), (4, .int 0)] dX9_slowest_13 (by decide) rfl ?_
    refine jj_for (fun k1 (a1 : Int32 × Int32) => jj_R _ _ kc ks (jj_S, 782, h, g) 15 [(0, .ref 0), (1, .int w), (2, .int a1.1), (3, .int a1.2), (4, .int (nI k1))] [] Q) (fun k1 (a1 : Int32 × Int32) => (if (vX6_behindOf_n (h 38) (h 39) (nI k1)) ≤ a1.2 then (a1.1, a1.2) else ((nI k1), (vX6_behindOf_n (h 38) (h 39) (nI k1))))) n ((-1), 0) ?_ ?_
    · intro k1 hk1 ih1
      generalize jj_fo _ k1 _ = a1 at ih1 ⊢
      try dsimp only at ih1 ⊢
      refine rr_iload 4 rfl dX9_slowest_15 ?_
      refine rr_aload_n 0 rfl rfl dX9_slowest_17 ?_
      refine rr_getR dX9_slowest_18 fX9_27 lo_0 sh_0 rfl ?_
      refine rr_getI dX9_slowest_21 fX9_132 lo_1 sh_1 rfl ?_
      rw [hP]
      refine rr_icmp_ge dX9_slowest_24 (fun c => absurd c (nI_ge (a := k1) (b := n) (by omega) (by omega))) (fun _ => ?_)
      refine rr_aload_n 0 rfl rfl dX9_slowest_27 ?_
      refine rr_getR dX9_slowest_28 fX9_80 lo_0 sh_0 rfl ?_
      refine rr_iload 4 rfl dX9_slowest_31 ?_
      refine rr_callV (As := [.int (nI k1)]) (rest := []) (kc2 := 0) (ks2 := 0) dX9_slowest_33 okX6_behindOf lX9_216 lo_38 sh_38 rfl rfl (Nat.le_of_ble_eq_true rfl) (Nat.le_of_ble_eq_true rfl) rfl (by omega) (by simp [jj_rk]) (by simp [jj_rk]) ?_
      refine sp_X6_behindOf_n (by first | assumption | exact jj_pers hP hn (by assumption) | exact vp_in_nI (by omega) (by decide) | decide | omega) ?_
      show jj_R _ _ kc ks (jj_S, 782, h, g) 36 [(0, .ref 0), (1, .int w), (2, .int a1.1), (3, .int a1.2), (4, .int (nI k1))] [.int (vX6_behindOf_n (h 38) (h 39) (nI k1))] Q
      refine rr_iload_n 3 rfl rfl dX9_slowest_36 ?_
      refine rr_icmp_le dX9_slowest_37 (fun c2 => ?_) (fun c2 => ?_)
      · skip
        refine rr_iinc 4 1 [(0, .ref 0), (1, .int w), (2, .int a1.1), (3, .int a1.2), (4, .int ((nI k1) + 1))] dX9_slowest_53 rfl rfl (by decide) rfl ?_
        refine rr_goto dX9_slowest_56 ?_
        try simp only [(nI_clamp (show k1 < 2 ^ 31 by omega))] at c2
        simpa only [nI_1, (nI_clamp (show k1 < 2 ^ 31 by omega)), if_pos c2] using ih1
      · skip
        refine rr_iload 4 rfl dX9_slowest_40 ?_
        refine rr_istore_n [(0, .ref 0), (1, .int w), (2, .int (nI k1)), (3, .int a1.2), (4, .int (nI k1))] dX9_slowest_42 rfl (by decide) rfl ?_
        refine rr_aload_n 0 rfl rfl dX9_slowest_43 ?_
        refine rr_getR dX9_slowest_44 fX9_80 lo_0 sh_0 rfl ?_
        refine rr_iload 4 rfl dX9_slowest_47 ?_
        refine rr_callV (As := [.int (nI k1)]) (rest := []) (kc2 := 0) (ks2 := 0) dX9_slowest_49 okX6_behindOf lX9_216 lo_38 sh_38 rfl rfl (Nat.le_of_ble_eq_true rfl) (Nat.le_of_ble_eq_true rfl) rfl (by omega) (by simp [jj_rk]) (by simp [jj_rk]) ?_
        refine sp_X6_behindOf_n (by first | assumption | exact jj_pers hP hn (by assumption) | exact vp_in_nI (by omega) (by decide) | decide | omega) ?_
        show jj_R _ _ kc ks (jj_S, 782, h, g) 52 [(0, .ref 0), (1, .int w), (2, .int (nI k1)), (3, .int a1.2), (4, .int (nI k1))] [.int (vX6_behindOf_n (h 38) (h 39) (nI k1))] Q
        refine rr_istore_n [(0, .ref 0), (1, .int w), (2, .int (nI k1)), (3, .int (vX6_behindOf_n (h 38) (h 39) (nI k1))), (4, .int (nI k1))] dX9_slowest_52 rfl (by decide) rfl ?_
        refine rr_iinc 4 1 [(0, .ref 0), (1, .int w), (2, .int (nI k1)), (3, .int (vX6_behindOf_n (h 38) (h 39) (nI k1))), (4, .int ((nI k1) + 1))] dX9_slowest_53 rfl rfl (by decide) rfl ?_
        refine rr_goto dX9_slowest_56 ?_
        try simp only [(nI_clamp (show k1 < 2 ^ 31 by omega))] at c2
        simpa only [nI_1, (nI_clamp (show k1 < 2 ^ 31 by omega)), if_neg c2] using ih1
    · try dsimp only
      refine rr_iload 4 rfl dX9_slowest_15 ?_
      refine rr_aload_n 0 rfl rfl dX9_slowest_17 ?_
      refine rr_getR dX9_slowest_18 fX9_27 lo_0 sh_0 rfl ?_
      refine rr_getI dX9_slowest_21 fX9_132 lo_1 sh_1 rfl ?_
      rw [hP]
      refine rr_icmp_ge dX9_slowest_24 (fun _ => ?_) (fun c => absurd (jj_le_rf _) c)
      refine rr_iload_n 1 rfl rfl dX9_slowest_59 ?_
      refine rr_if_eq dX9_slowest_60 (fun c3 => ?_) (fun c3 => ?_)
      · skip
        refine rr_iload_n 2 rfl rfl dX9_slowest_68 ?_
        refine rr_goto dX9_slowest_69 ?_
        refine rr_ireturn dX9_slowest_73 rfl ?_
        refine jj_Qh (jj_addr (B := h) (o := 0) (r := (h 0)) rfl) ?_
        simpa only [vX9_slowest, rX9_slowest_0, if_neg c1, if_pos c3] using kq
      · skip
        refine rr_iload_n 2 rfl rfl dX9_slowest_63 ?_
        refine rr_iconst (-1) rfl dX9_slowest_64 ?_
        refine rr_icmp_ne dX9_slowest_65 (fun c4 => ?_) (fun c4 => ?_)
        · skip
          refine rr_iload_n 3 rfl rfl dX9_slowest_72 ?_
          refine rr_ireturn dX9_slowest_73 rfl ?_
          refine jj_Qh (jj_addr (B := h) (o := 0) (r := (h 0)) rfl) ?_
          simpa only [vX9_slowest, rX9_slowest_0, if_neg c1, if_neg c3, if_neg c4] using kq
        · skip
          refine rr_iload_n 2 rfl rfl dX9_slowest_68 ?_
          refine rr_goto dX9_slowest_69 ?_
          refine rr_ireturn dX9_slowest_73 rfl ?_
          refine jj_Qh (jj_addr (B := h) (o := 0) (r := (h 0)) rfl) ?_
          simpa only [vX9_slowest, rX9_slowest_0, if_neg c1, if_neg c3, if_pos c4] using kq
  · skip
    show Q (.inr "java/lang/IllegalArgumentException") (jj_S, 782, (jj_rs h [(0, (upd (h 0) 14 ((h 0) 14 + 1)))]), g)
    simpa only [vX9_slowest, rX9_slowest_0, if_pos c1] using kq
def vX9_days (r39 : Nat → Int32) (n : Nat) : Int32 := (jj_fo (fun k1 (a1 : Int32) => (if (vX6_bitsInDay_n r39 k1 (r39 k1)) = 0 then (a1 + 1) else (a1 + 0))) n 0)
set_option maxHeartbeats 1000000 in
theorem sp_X9_days {d kc ks : Nat} {h : Nat → Nat → Int32} {g : Nat → Nat → Int64} {Q : jj_Rs → jj_St → Prop} {n : Nat} (hP : h 1 0 = nI n) (hn : n ≤ 8) (kq : Q (.inl (some (.int (vX9_days (h 39) n)))) (jj_S, 782, h, g)) : jj_R mX9_days (d + 1) kc ks (jj_S, 782, h, g) 0 [(0, .ref 0)] [] Q := by
  refine rr_iconst 0 rfl dX9_days_0 ?_
  refine rr_istore_n [(0, .ref 0), (1, .int 0)] dX9_days_1 rfl (by decide) rfl ?_
  refine rr_iconst 0 rfl dX9_days_2 ?_
  refine rr_istore_n [(0, .ref 0), (1, .int 0), (2, .int 0)] dX9_days_3 rfl (by decide) rfl ?_
  refine jj_for (fun k1 (a1 : Int32) => jj_R _ _ kc ks (jj_S, 782, h, g) 4 [(0, .ref 0), (1, .int a1), (2, .int (nI k1))] [] Q) (fun k1 (a1 : Int32) => (if (vX6_bitsInDay_n (h 39) k1 ((h 39) k1)) = 0 then (a1 + 1) else (a1 + 0))) n 0 ?_ ?_
  · intro k1 hk1 ih1
    generalize jj_fo _ k1 _ = a1 at ih1 ⊢
    try dsimp only at ih1 ⊢
    refine rr_iload_n 2 rfl rfl dX9_days_4 ?_
    refine rr_aload_n 0 rfl rfl dX9_days_5 ?_
    refine rr_getR dX9_days_6 fX9_27 lo_0 sh_0 rfl ?_
    refine rr_getI dX9_days_9 fX9_132 lo_1 sh_1 rfl ?_
    rw [hP]
    refine rr_icmp_ge dX9_days_12 (fun c => absurd c (nI_ge (a := k1) (b := n) (by omega) (by omega))) (fun _ => ?_)
    refine rr_iload_n 1 rfl rfl dX9_days_15 ?_
    refine rr_aload_n 0 rfl rfl dX9_days_16 ?_
    refine rr_getR dX9_days_17 fX9_80 lo_0 sh_0 rfl ?_
    refine rr_iload_n 2 rfl rfl dX9_days_20 ?_
    refine rr_aload_n 0 rfl rfl dX9_days_21 ?_
    refine rr_getR dX9_days_22 fX9_80 lo_0 sh_0 rfl ?_
    refine rr_getR dX9_days_25 fX9_213 lo_38 sh_38 rfl ?_
    refine rr_iload_n 2 rfl rfl dX9_days_28 ?_
    refine rr_iaload dX9_days_29 lo_39 sh_39 (by first | assumption | exact jj_pers hP hn (by assumption) | exact vp_in_nI (by omega) (by decide) | decide | omega) ?_
    refine rr_callV (As := [.int (nI k1), .int ((h 39) ((nI k1) : Int32).toNatClampNeg)]) (rest := [.int a1]) (kc2 := 0) (ks2 := 0) dX9_days_30 okX6_bitsInDay lX9_305 lo_38 sh_38 rfl rfl (Nat.le_of_ble_eq_true rfl) (Nat.le_of_ble_eq_true rfl) rfl (by omega) (by simp [jj_rk]) (by simp [jj_rk]) ?_
    refine sp_X6_bitsInDay_n (by first | assumption | exact jj_pers hP hn (by assumption) | exact vp_in_nI (by omega) (by decide) | decide | omega) ?_
    show jj_R _ _ kc ks (jj_S, 782, h, g) 33 [(0, .ref 0), (1, .int a1), (2, .int (nI k1))] [.int (vX6_bitsInDay_n (h 39) k1 ((h 39) ((nI k1) : Int32).toNatClampNeg)), .int a1] Q
    refine rr_if_ne dX9_days_33 (fun c1 => ?_) (fun c1 => ?_)
    · skip
      refine rr_iconst 0 rfl dX9_days_40 ?_
      refine rr_iadd dX9_days_41 ?_
      refine rr_istore_n [(0, .ref 0), (1, .int (a1 + 0)), (2, .int (nI k1))] dX9_days_42 rfl (by decide) rfl ?_
      refine rr_iinc 2 1 [(0, .ref 0), (1, .int (a1 + 0)), (2, .int ((nI k1) + 1))] dX9_days_43 rfl rfl (by decide) rfl ?_
      refine rr_goto dX9_days_46 ?_
      try simp only [(nI_clamp (show k1 < 2 ^ 31 by omega))] at c1
      simpa only [nI_1, (nI_clamp (show k1 < 2 ^ 31 by omega)), if_neg c1] using ih1
    · skip
      refine rr_iconst 1 rfl dX9_days_36 ?_
      refine rr_goto dX9_days_37 ?_
      refine rr_iadd dX9_days_41 ?_
      refine rr_istore_n [(0, .ref 0), (1, .int (a1 + 1)), (2, .int (nI k1))] dX9_days_42 rfl (by decide) rfl ?_
      refine rr_iinc 2 1 [(0, .ref 0), (1, .int (a1 + 1)), (2, .int ((nI k1) + 1))] dX9_days_43 rfl rfl (by decide) rfl ?_
      refine rr_goto dX9_days_46 ?_
      try simp only [(nI_clamp (show k1 < 2 ^ 31 by omega))] at c1
      simpa only [nI_1, (nI_clamp (show k1 < 2 ^ 31 by omega)), if_pos c1] using ih1
  · try dsimp only
    refine rr_iload_n 2 rfl rfl dX9_days_4 ?_
    refine rr_aload_n 0 rfl rfl dX9_days_5 ?_
    refine rr_getR dX9_days_6 fX9_27 lo_0 sh_0 rfl ?_
    refine rr_getI dX9_days_9 fX9_132 lo_1 sh_1 rfl ?_
    rw [hP]
    refine rr_icmp_ge dX9_days_12 (fun _ => ?_) (fun c => absurd (jj_le_rf _) c)
    refine rr_iload_n 1 rfl rfl dX9_days_49 ?_
    refine rr_ireturn dX9_days_50 rfl ?_
    simpa only [vX9_days] using kq
def vX9_soldier (r0 : Nat → Int32) (v : Int32) (w : Int32) (q : Int32) : jj_Rs := (if v < 0 then (.inr "java/lang/IllegalArgumentException") else (if 99 < v then (.inr "java/lang/IllegalArgumentException") else (if w < 0 then (.inr "java/lang/IllegalArgumentException") else (if 99 < w then (.inr "java/lang/IllegalArgumentException") else (if q < 0 then (.inr "java/lang/IllegalArgumentException") else (if 2 < q then (.inr "java/lang/IllegalArgumentException") else (if q = 0 then (.inl (some (.int (jj_fo (fun k1 (a1 : Int32 × Int32 × Int32) => (if (vX9_isRest ((nI k1) >>> (1 &&& 31)) ((nI k1) &&& 1) v w) = 0 then (a1.1, a1.2.1, a1.2.2) else (if a1.1 = 0 then ((a1.1 + 1), (((10 : Int32) * ((nI k1) >>> (1 &&& 31))) + ((nI k1) &&& 1)), ((vX9_soldierHas ((nI k1) >>> (1 &&& 31)) ((nI k1) &&& 1) v w) + (vX9_soldierHas ((nI k1) &&& 1) ((nI k1) >>> (1 &&& 31)) v w))) else ((a1.1 + 1), a1.2.1, a1.2.2)))) 4 (0, (-1), 0)).1))) else (if q = 1 then (.inl (some (.int (jj_fo (fun k1 (a1 : Int32 × Int32 × Int32) => (if (vX9_isRest ((nI k1) >>> (1 &&& 31)) ((nI k1) &&& 1) v w) = 0 then (a1.1, a1.2.1, a1.2.2) else (if a1.1 = 0 then ((a1.1 + 1), (((10 : Int32) * ((nI k1) >>> (1 &&& 31))) + ((nI k1) &&& 1)), ((vX9_soldierHas ((nI k1) >>> (1 &&& 31)) ((nI k1) &&& 1) v w) + (vX9_soldierHas ((nI k1) &&& 1) ((nI k1) >>> (1 &&& 31)) v w))) else ((a1.1 + 1), a1.2.1, a1.2.2)))) 4 (0, (-1), 0)).2.1))) else (.inl (some (.int (jj_fo (fun k1 (a1 : Int32 × Int32 × Int32) => (if (vX9_isRest ((nI k1) >>> (1 &&& 31)) ((nI k1) &&& 1) v w) = 0 then (a1.1, a1.2.1, a1.2.2) else (if a1.1 = 0 then ((a1.1 + 1), (((10 : Int32) * ((nI k1) >>> (1 &&& 31))) + ((nI k1) &&& 1)), ((vX9_soldierHas ((nI k1) >>> (1 &&& 31)) ((nI k1) &&& 1) v w) + (vX9_soldierHas ((nI k1) &&& 1) ((nI k1) >>> (1 &&& 31)) v w))) else ((a1.1 + 1), a1.2.1, a1.2.2)))) 4 (0, (-1), 0)).2.2)))))))))))
def rX9_soldier_0 (r0 : Nat → Int32) (v : Int32) (w : Int32) (q : Int32) : Nat → Int32 := (if v < 0 then (upd r0 14 (r0 14 + 1)) else (if 99 < v then (upd r0 14 (r0 14 + 1)) else (if w < 0 then (upd r0 14 (r0 14 + 1)) else (if 99 < w then (upd r0 14 (r0 14 + 1)) else (if q < 0 then (upd r0 14 (r0 14 + 1)) else (if 2 < q then (upd r0 14 (r0 14 + 1)) else r0))))))
set_option maxHeartbeats 1000000 in
theorem sp_X9_soldier {d kc ks : Nat} {h : Nat → Nat → Int32} {g : Nat → Nat → Int64} {Q : jj_Rs → jj_St → Prop} {v : Int32} {w : Int32} {q : Int32} (kq : Q (vX9_soldier (h 0) v w q) (jj_S, 782, (jj_rs h [(0, (rX9_soldier_0 (h 0) v w q))]), g)) : jj_R mX9_soldier (d + 7) (kc + 1) (ks + 6) (jj_S, 782, h, g) 0 [(0, .ref 0), (1, .int v), (2, .int w), (3, .int q)] [] Q := by
  refine rr_aload_n 0 rfl rfl dX9_soldier_0 ?_
  refine rr_iload_n 1 rfl rfl dX9_soldier_1 ?_
  refine rr_if_lt dX9_soldier_2 (fun c1 => ?_) (fun c1 => ?_)
  · skip
    refine rr_iconst 0 rfl dX9_soldier_34 ?_
    refine rr_callV (As := [.int 0]) (rest := []) (kc2 := 1) (ks2 := 6) dX9_soldier_35 okX9_require lX9_103 lo_0 sh_0 rfl rfl (Nat.le_of_ble_eq_true rfl) (Nat.le_of_ble_eq_true rfl) rfl (by omega) (by simp [jj_rk]) (by simp [jj_rk]) ?_
    refine sp_X9_require  (fun c => absurd rfl c) (fun _ => ?_)
    show Q (.inr "java/lang/IllegalArgumentException") (jj_S, 782, (jj_rs h [(0, (upd (h 0) 14 ((h 0) 14 + 1)))]), g)
    simpa only [vX9_soldier, rX9_soldier_0, if_pos c1] using kq
  · skip
    refine rr_iload_n 1 rfl rfl dX9_soldier_5 ?_
    refine rr_bipush 99 rfl dX9_soldier_6 ?_
    refine rr_icmp_gt dX9_soldier_8 (fun c3 => ?_) (fun c3 => ?_)
    · skip
      refine rr_iconst 0 rfl dX9_soldier_34 ?_
      refine rr_callV (As := [.int 0]) (rest := []) (kc2 := 1) (ks2 := 6) dX9_soldier_35 okX9_require lX9_103 lo_0 sh_0 rfl rfl (Nat.le_of_ble_eq_true rfl) (Nat.le_of_ble_eq_true rfl) rfl (by omega) (by simp [jj_rk]) (by simp [jj_rk]) ?_
      refine sp_X9_require  (fun c => absurd rfl c) (fun _ => ?_)
      show Q (.inr "java/lang/IllegalArgumentException") (jj_S, 782, (jj_rs h [(0, (upd (h 0) 14 ((h 0) 14 + 1)))]), g)
      simpa only [vX9_soldier, rX9_soldier_0, if_neg c1, if_pos c3] using kq
    · skip
      refine rr_iload_n 2 rfl rfl dX9_soldier_11 ?_
      refine rr_if_lt dX9_soldier_12 (fun c5 => ?_) (fun c5 => ?_)
      · skip
        refine rr_iconst 0 rfl dX9_soldier_34 ?_
        refine rr_callV (As := [.int 0]) (rest := []) (kc2 := 1) (ks2 := 6) dX9_soldier_35 okX9_require lX9_103 lo_0 sh_0 rfl rfl (Nat.le_of_ble_eq_true rfl) (Nat.le_of_ble_eq_true rfl) rfl (by omega) (by simp [jj_rk]) (by simp [jj_rk]) ?_
        refine sp_X9_require  (fun c => absurd rfl c) (fun _ => ?_)
        show Q (.inr "java/lang/IllegalArgumentException") (jj_S, 782, (jj_rs h [(0, (upd (h 0) 14 ((h 0) 14 + 1)))]), g)
        simpa only [vX9_soldier, rX9_soldier_0, if_neg c1, if_neg c3, if_pos c5] using kq
      · skip
        refine rr_iload_n 2 rfl rfl dX9_soldier_15 ?_
        refine rr_bipush 99 rfl dX9_soldier_16 ?_
        refine rr_icmp_gt dX9_soldier_18 (fun c7 => ?_) (fun c7 => ?_)
        · skip
          refine rr_iconst 0 rfl dX9_soldier_34 ?_
          refine rr_callV (As := [.int 0]) (rest := []) (kc2 := 1) (ks2 := 6) dX9_soldier_35 okX9_require lX9_103 lo_0 sh_0 rfl rfl (Nat.le_of_ble_eq_true rfl) (Nat.le_of_ble_eq_true rfl) rfl (by omega) (by simp [jj_rk]) (by simp [jj_rk]) ?_
          refine sp_X9_require  (fun c => absurd rfl c) (fun _ => ?_)
          show Q (.inr "java/lang/IllegalArgumentException") (jj_S, 782, (jj_rs h [(0, (upd (h 0) 14 ((h 0) 14 + 1)))]), g)
          simpa only [vX9_soldier, rX9_soldier_0, if_neg c1, if_neg c3, if_neg c5, if_pos c7] using kq
        · skip
          refine rr_iload_n 3 rfl rfl dX9_soldier_21 ?_
          refine rr_if_lt dX9_soldier_22 (fun c9 => ?_) (fun c9 => ?_)
          · skip
            refine rr_iconst 0 rfl dX9_soldier_34 ?_
            refine rr_callV (As := [.int 0]) (rest := []) (kc2 := 1) (ks2 := 6) dX9_soldier_35 okX9_require lX9_103 lo_0 sh_0 rfl rfl (Nat.le_of_ble_eq_true rfl) (Nat.le_of_ble_eq_true rfl) rfl (by omega) (by simp [jj_rk]) (by simp [jj_rk]) ?_
            refine sp_X9_require  (fun c => absurd rfl c) (fun _ => ?_)
            show Q (.inr "java/lang/IllegalArgumentException") (jj_S, 782, (jj_rs h [(0, (upd (h 0) 14 ((h 0) 14 + 1)))]), g)
            simpa only [vX9_soldier, rX9_soldier_0, if_neg c1, if_neg c3, if_neg c5, if_neg c7, if_pos c9] using kq
          · skip
            refine rr_iload_n 3 rfl rfl dX9_soldier_25 ?_
            refine rr_iconst 2 rfl dX9_soldier_26 ?_
            refine rr_icmp_gt dX9_soldier_27 (fun c11 => ?_) (fun c11 => ?_)
            · skip
              refine rr_iconst 0 rfl dX9_soldier_34 ?_
              refine rr_callV (As := [.int 0]) (rest := []) (kc2 := 1) (ks2 := 6) dX9_soldier_35 okX9_require lX9_103 lo_0 sh_0 rfl rfl (Nat.le_of_ble_eq_true rfl) (Nat.le_of_ble_eq_true rfl) rfl (by omega) (by simp [jj_rk]) (by simp [jj_rk]) ?_
              refine sp_X9_require  (fun c => absurd rfl c) (fun _ => ?_)
              show Q (.inr "java/lang/IllegalArgumentException") (jj_S, 782, (jj_rs h [(0, (upd (h 0) 14 ((h 0) 14 + 1)))]), g)
              simpa only [vX9_soldier, rX9_soldier_0, if_neg c1, if_neg c3, if_neg c5, if_neg c7, if_neg c9, if_pos c11] using kq
            · skip
              refine rr_iconst 1 rfl dX9_soldier_30 ?_
              refine rr_goto dX9_soldier_31 ?_
              refine rr_callV (As := [.int 1]) (rest := []) (kc2 := 1) (ks2 := 6) dX9_soldier_35 okX9_require lX9_103 lo_0 sh_0 rfl rfl (Nat.le_of_ble_eq_true rfl) (Nat.le_of_ble_eq_true rfl) rfl (by omega) (by simp [jj_rk]) (by simp [jj_rk]) ?_
              refine sp_X9_require  (fun _ => ?_) (fun c => absurd c (by decide))
              show jj_R _ _ kc ks (jj_S, 782, h, g) 38 [(0, .ref 0), (1, .int v), (2, .int w), (3, .int q)] [] Q
              refine rr_iconst 0 rfl dX9_soldier_38 ?_
              refine rr_istore [(0, .ref 0), (1, .int v), (2, .int w), (3, .int q), (4, .int 0)] dX9_soldier_39 (by decide) rfl ?_
              refine rr_iconst (-1) rfl dX9_soldier_41 ?_
              refine rr_istore [(0, .ref 0), (1, .int v), (2, .int w), (3, .int q), (4, .int 0), (5, .int (-1))] dX9_soldier_42 (by decide) rfl ?_
              refine rr_iconst 0 rfl dX9_soldier_44 ?_
              refine rr_istore [(0, .ref 0), (1, .int v), (2, .int w), (3, .int q), (4, .int 0), (5, .int (-1)), (6, .int 0)] dX9_soldier_45 (by decide) rfl ?_
              refine rr_iconst 0 rfl dX9_soldier_47 ?_
              refine rr_istore [(0, .ref 0), (1, .int v), (2, .int w), (3, .int q), (4, .int 0), (5, .int (-1)), (6, .int 0), (7, .int 0)] dX9_soldier_48 (by decide) rfl ?_
              refine jj_for (fun k1 (a1 : Int32 × Int32 × Int32) => jj_R _ _ kc ks (jj_S, 782, h, g) 50 [(0, .ref 0), (1, .int v), (2, .int w), (3, .int q), (4, .int a1.1), (5, .int a1.2.1), (6, .int a1.2.2), (7, .int (nI k1))] [] Q) (fun k1 (a1 : Int32 × Int32 × Int32) => (if (vX9_isRest ((nI k1) >>> (1 &&& 31)) ((nI k1) &&& 1) v w) = 0 then (a1.1, a1.2.1, a1.2.2) else (if a1.1 = 0 then ((a1.1 + 1), (((10 : Int32) * ((nI k1) >>> (1 &&& 31))) + ((nI k1) &&& 1)), ((vX9_soldierHas ((nI k1) >>> (1 &&& 31)) ((nI k1) &&& 1) v w) + (vX9_soldierHas ((nI k1) &&& 1) ((nI k1) >>> (1 &&& 31)) v w))) else ((a1.1 + 1), a1.2.1, a1.2.2)))) 4 (0, (-1), 0) ?_ ?_
              · intro k1 hk1 ih1
                generalize jj_fo _ k1 _ = a1 at ih1 ⊢
                try dsimp only at ih1 ⊢
                refine rr_iload 7 rfl dX9_soldier_50 ?_
                refine rr_iconst 4 rfl dX9_soldier_52 ?_
                refine rr_icmp_ge dX9_soldier_53 (fun c => absurd c (nI_ge (a := k1) (b := 4) (by omega) (by omega))) (fun _ => ?_)
                refine rr_iload 7 rfl dX9_soldier_56 ?_
                refine rr_iconst 1 rfl dX9_soldier_58 ?_
                refine rr_ishr dX9_soldier_59 ?_
                refine rr_istore [(0, .ref 0), (1, .int v), (2, .int w), (3, .int q), (4, .int a1.1), (5, .int a1.2.1), (6, .int a1.2.2), (7, .int (nI k1)), (8, .int ((nI k1) >>> (1 &&& 31)))] dX9_soldier_60 (by decide) rfl ?_
                refine rr_iload 7 rfl dX9_soldier_62 ?_
                refine rr_iconst 1 rfl dX9_soldier_64 ?_
                refine rr_iand dX9_soldier_65 ?_
                refine rr_istore [(0, .ref 0), (1, .int v), (2, .int w), (3, .int q), (4, .int a1.1), (5, .int a1.2.1), (6, .int a1.2.2), (7, .int (nI k1)), (8, .int ((nI k1) >>> (1 &&& 31))), (9, .int ((nI k1) &&& 1))] dX9_soldier_66 (by decide) rfl ?_
                refine rr_iload 8 rfl dX9_soldier_68 ?_
                refine rr_iload 9 rfl dX9_soldier_70 ?_
                refine rr_iload_n 1 rfl rfl dX9_soldier_72 ?_
                refine rr_iload_n 2 rfl rfl dX9_soldier_73 ?_
                refine rr_callS (As := [.int ((nI k1) >>> (1 &&& 31)), .int ((nI k1) &&& 1), .int v, .int w]) (rest := []) (kc2 := 0) (ks2 := 0) dX9_soldier_74 okX9_isRest lX9_323 rfl (Nat.le_of_ble_eq_true rfl) (Nat.le_of_ble_eq_true rfl) rfl (by omega) (by simp [jj_rk]) (by simp [jj_rk]) ?_
                refine sp_X9_isRest  ?_
                show jj_R _ _ kc ks (jj_S, 782, h, g) 77 [(0, .ref 0), (1, .int v), (2, .int w), (3, .int q), (4, .int a1.1), (5, .int a1.2.1), (6, .int a1.2.2), (7, .int (nI k1)), (8, .int ((nI k1) >>> (1 &&& 31))), (9, .int ((nI k1) &&& 1))] [.int (vX9_isRest ((nI k1) >>> (1 &&& 31)) ((nI k1) &&& 1) v w)] Q
                refine rr_if_eq dX9_soldier_77 (fun c14 => ?_) (fun c14 => ?_)
                · skip
                  refine rr_iinc 7 1 [(0, .ref 0), (1, .int v), (2, .int w), (3, .int q), (4, .int a1.1), (5, .int a1.2.1), (6, .int a1.2.2), (7, .int ((nI k1) + 1)), (8, .int ((nI k1) >>> (1 &&& 31))), (9, .int ((nI k1) &&& 1))] dX9_soldier_119 rfl rfl (by decide) rfl ?_
                  refine rr_goto dX9_soldier_122 ?_
                  try simp only [(nI_clamp (show k1 < 2 ^ 31 by omega))] at c14
                  refine rr_drop (ls := [(0, .ref 0), (1, .int v), (2, .int w), (3, .int q), (4, .int a1.1), (5, .int a1.2.1), (6, .int a1.2.2), (7, .int ((nI k1) + 1))]) [0, 1, 2, 3, 4, 5, 6, 7] rfl ?_
                  simpa only [nI_1, (nI_clamp (show k1 < 2 ^ 31 by omega)), if_pos c14] using ih1
                · skip
                  refine rr_iload 4 rfl dX9_soldier_80 ?_
                  refine rr_if_ne dX9_soldier_82 (fun c15 => ?_) (fun c15 => ?_)
                  · skip
                    refine rr_iinc 4 1 [(0, .ref 0), (1, .int v), (2, .int w), (3, .int q), (4, .int (a1.1 + 1)), (5, .int a1.2.1), (6, .int a1.2.2), (7, .int (nI k1)), (8, .int ((nI k1) >>> (1 &&& 31))), (9, .int ((nI k1) &&& 1))] dX9_soldier_116 rfl rfl (by decide) rfl ?_
                    refine rr_iinc 7 1 [(0, .ref 0), (1, .int v), (2, .int w), (3, .int q), (4, .int (a1.1 + 1)), (5, .int a1.2.1), (6, .int a1.2.2), (7, .int ((nI k1) + 1)), (8, .int ((nI k1) >>> (1 &&& 31))), (9, .int ((nI k1) &&& 1))] dX9_soldier_119 rfl rfl (by decide) rfl ?_
                    refine rr_goto dX9_soldier_122 ?_
                    try simp only [(nI_clamp (show k1 < 2 ^ 31 by omega))] at c14
                    try simp only [(nI_clamp (show k1 < 2 ^ 31 by omega))] at c15
                    refine rr_drop (ls := [(0, .ref 0), (1, .int v), (2, .int w), (3, .int q), (4, .int (a1.1 + 1)), (5, .int a1.2.1), (6, .int a1.2.2), (7, .int ((nI k1) + 1))]) [0, 1, 2, 3, 4, 5, 6, 7] rfl ?_
                    simpa only [nI_1, (nI_clamp (show k1 < 2 ^ 31 by omega)), if_neg c14, if_neg c15] using ih1
                  · skip
                    refine rr_bipush 10 rfl dX9_soldier_85 ?_
                    refine rr_iload 8 rfl dX9_soldier_87 ?_
                    refine rr_imul dX9_soldier_89 ?_
                    refine rr_iload 9 rfl dX9_soldier_90 ?_
                    refine rr_iadd dX9_soldier_92 ?_
                    refine rr_istore [(0, .ref 0), (1, .int v), (2, .int w), (3, .int q), (4, .int a1.1), (5, .int (((10 : Int32) * ((nI k1) >>> (1 &&& 31))) + ((nI k1) &&& 1))), (6, .int a1.2.2), (7, .int (nI k1)), (8, .int ((nI k1) >>> (1 &&& 31))), (9, .int ((nI k1) &&& 1))] dX9_soldier_93 (by decide) rfl ?_
                    refine rr_iload 8 rfl dX9_soldier_95 ?_
                    refine rr_iload 9 rfl dX9_soldier_97 ?_
                    refine rr_iload_n 1 rfl rfl dX9_soldier_99 ?_
                    refine rr_iload_n 2 rfl rfl dX9_soldier_100 ?_
                    refine rr_callS (As := [.int ((nI k1) >>> (1 &&& 31)), .int ((nI k1) &&& 1), .int v, .int w]) (rest := []) (kc2 := 0) (ks2 := 0) dX9_soldier_101 okX9_soldierHas lX9_327 rfl (Nat.le_of_ble_eq_true rfl) (Nat.le_of_ble_eq_true rfl) rfl (by omega) (by simp [jj_rk]) (by simp [jj_rk]) ?_
                    refine sp_X9_soldierHas  ?_
                    show jj_R _ _ kc ks (jj_S, 782, h, g) 104 [(0, .ref 0), (1, .int v), (2, .int w), (3, .int q), (4, .int a1.1), (5, .int (((10 : Int32) * ((nI k1) >>> (1 &&& 31))) + ((nI k1) &&& 1))), (6, .int a1.2.2), (7, .int (nI k1)), (8, .int ((nI k1) >>> (1 &&& 31))), (9, .int ((nI k1) &&& 1))] [.int (vX9_soldierHas ((nI k1) >>> (1 &&& 31)) ((nI k1) &&& 1) v w)] Q
                    refine rr_iload 9 rfl dX9_soldier_104 ?_
                    refine rr_iload 8 rfl dX9_soldier_106 ?_
                    refine rr_iload_n 1 rfl rfl dX9_soldier_108 ?_
                    refine rr_iload_n 2 rfl rfl dX9_soldier_109 ?_
                    refine rr_callS (As := [.int ((nI k1) &&& 1), .int ((nI k1) >>> (1 &&& 31)), .int v, .int w]) (rest := [.int (vX9_soldierHas ((nI k1) >>> (1 &&& 31)) ((nI k1) &&& 1) v w)]) (kc2 := 0) (ks2 := 0) dX9_soldier_110 okX9_soldierHas lX9_327 rfl (Nat.le_of_ble_eq_true rfl) (Nat.le_of_ble_eq_true rfl) rfl (by omega) (by simp [jj_rk]) (by simp [jj_rk]) ?_
                    refine sp_X9_soldierHas  ?_
                    show jj_R _ _ kc ks (jj_S, 782, h, g) 113 [(0, .ref 0), (1, .int v), (2, .int w), (3, .int q), (4, .int a1.1), (5, .int (((10 : Int32) * ((nI k1) >>> (1 &&& 31))) + ((nI k1) &&& 1))), (6, .int a1.2.2), (7, .int (nI k1)), (8, .int ((nI k1) >>> (1 &&& 31))), (9, .int ((nI k1) &&& 1))] [.int (vX9_soldierHas ((nI k1) &&& 1) ((nI k1) >>> (1 &&& 31)) v w), .int (vX9_soldierHas ((nI k1) >>> (1 &&& 31)) ((nI k1) &&& 1) v w)] Q
                    refine rr_iadd dX9_soldier_113 ?_
                    refine rr_istore [(0, .ref 0), (1, .int v), (2, .int w), (3, .int q), (4, .int a1.1), (5, .int (((10 : Int32) * ((nI k1) >>> (1 &&& 31))) + ((nI k1) &&& 1))), (6, .int ((vX9_soldierHas ((nI k1) >>> (1 &&& 31)) ((nI k1) &&& 1) v w) + (vX9_soldierHas ((nI k1) &&& 1) ((nI k1) >>> (1 &&& 31)) v w))), (7, .int (nI k1)), (8, .int ((nI k1) >>> (1 &&& 31))), (9, .int ((nI k1) &&& 1))] dX9_soldier_114 (by decide) rfl ?_
                    refine rr_iinc 4 1 [(0, .ref 0), (1, .int v), (2, .int w), (3, .int q), (4, .int (a1.1 + 1)), (5, .int (((10 : Int32) * ((nI k1) >>> (1 &&& 31))) + ((nI k1) &&& 1))), (6, .int ((vX9_soldierHas ((nI k1) >>> (1 &&& 31)) ((nI k1) &&& 1) v w) + (vX9_soldierHas ((nI k1) &&& 1) ((nI k1) >>> (1 &&& 31)) v w))), (7, .int (nI k1)), (8, .int ((nI k1) >>> (1 &&& 31))), (9, .int ((nI k1) &&& 1))] dX9_soldier_116 rfl rfl (by decide) rfl ?_
                    refine rr_iinc 7 1 [(0, .ref 0), (1, .int v), (2, .int w), (3, .int q), (4, .int (a1.1 + 1)), (5, .int (((10 : Int32) * ((nI k1) >>> (1 &&& 31))) + ((nI k1) &&& 1))), (6, .int ((vX9_soldierHas ((nI k1) >>> (1 &&& 31)) ((nI k1) &&& 1) v w) + (vX9_soldierHas ((nI k1) &&& 1) ((nI k1) >>> (1 &&& 31)) v w))), (7, .int ((nI k1) + 1)), (8, .int ((nI k1) >>> (1 &&& 31))), (9, .int ((nI k1) &&& 1))] dX9_soldier_119 rfl rfl (by decide) rfl ?_
                    refine rr_goto dX9_soldier_122 ?_
                    try simp only [(nI_clamp (show k1 < 2 ^ 31 by omega))] at c14
                    try simp only [(nI_clamp (show k1 < 2 ^ 31 by omega))] at c15
                    refine rr_drop (ls := [(0, .ref 0), (1, .int v), (2, .int w), (3, .int q), (4, .int (a1.1 + 1)), (5, .int (((10 : Int32) * ((nI k1) >>> (1 &&& 31))) + ((nI k1) &&& 1))), (6, .int ((vX9_soldierHas ((nI k1) >>> (1 &&& 31)) ((nI k1) &&& 1) v w) + (vX9_soldierHas ((nI k1) &&& 1) ((nI k1) >>> (1 &&& 31)) v w))), (7, .int ((nI k1) + 1))]) [0, 1, 2, 3, 4, 5, 6, 7] rfl ?_
                    simpa only [nI_1, (nI_clamp (show k1 < 2 ^ 31 by omega)), if_neg c14, if_pos c15] using ih1
              · try dsimp only
                refine rr_iload 7 rfl dX9_soldier_50 ?_
                refine rr_iconst 4 rfl dX9_soldier_52 ?_
                refine rr_icmp_ge dX9_soldier_53 (fun _ => ?_) (fun c => absurd (jj_le_rf _) c)
                refine rr_iload_n 3 rfl rfl dX9_soldier_125 ?_
                refine rr_if_ne dX9_soldier_126 (fun c16 => ?_) (fun c16 => ?_)
                · skip
                  refine rr_iload_n 3 rfl rfl dX9_soldier_134 ?_
                  refine rr_iconst 1 rfl dX9_soldier_135 ?_
                  refine rr_icmp_ne dX9_soldier_136 (fun c17 => ?_) (fun c17 => ?_)
                  · skip
                    refine rr_iload 6 rfl dX9_soldier_144 ?_
                    refine rr_ireturn dX9_soldier_146 rfl ?_
                    refine jj_Qh (jj_addr (B := h) (o := 0) (r := (h 0)) rfl) ?_
                    simpa only [vX9_soldier, rX9_soldier_0, if_neg c1, if_neg c3, if_neg c5, if_neg c7, if_neg c9, if_neg c11, if_neg c16, if_neg c17] using kq
                  · skip
                    refine rr_iload 5 rfl dX9_soldier_139 ?_
                    refine rr_goto dX9_soldier_141 ?_
                    refine rr_ireturn dX9_soldier_146 rfl ?_
                    refine jj_Qh (jj_addr (B := h) (o := 0) (r := (h 0)) rfl) ?_
                    simpa only [vX9_soldier, rX9_soldier_0, if_neg c1, if_neg c3, if_neg c5, if_neg c7, if_neg c9, if_neg c11, if_neg c16, if_pos c17] using kq
                · skip
                  refine rr_iload 4 rfl dX9_soldier_129 ?_
                  refine rr_goto dX9_soldier_131 ?_
                  refine rr_ireturn dX9_soldier_146 rfl ?_
                  refine jj_Qh (jj_addr (B := h) (o := 0) (r := (h 0)) rfl) ?_
                  simpa only [vX9_soldier, rX9_soldier_0, if_neg c1, if_neg c3, if_neg c5, if_neg c7, if_neg c9, if_neg c11, if_pos c16] using kq
def vX9_power (b : Int32) (q : Nat) : Int64 := (jj_fo (fun k1 (a1 : Int64) => (a1 * (b : Int32).toInt64)) q 1)
set_option maxHeartbeats 1000000 in
theorem sp_X9_power {d kc ks : Nat} {h : Nat → Nat → Int32} {g : Nat → Nat → Int64} {Q : jj_Rs → jj_St → Prop} {b : Int32} {q : Nat} {q_ : Int32} (hq_ : q_ = nI q) (hq : q ≤ 13) (kq : Q (.inl (some (.long (vX9_power b q)))) (jj_S, 782, h, g)) : jj_R mX9_power (d + 0) kc ks (jj_S, 782, h, g) 0 [(0, .int b), (1, .int q_)] [] Q := by
  subst hq_
  refine rr_lconst 1 rfl dX9_power_0 ?_
  refine rr_lstore_n [(0, .int b), (1, .int (nI q)), (2, .long 1)] dX9_power_1 rfl (by decide) rfl ?_
  refine rr_iconst 0 rfl dX9_power_2 ?_
  refine rr_istore [(0, .int b), (1, .int (nI q)), (2, .long 1), (4, .int 0)] dX9_power_3 (by decide) rfl ?_
  refine jj_for (fun k1 (a1 : Int64) => jj_R _ _ kc ks (jj_S, 782, h, g) 5 [(0, .int b), (1, .int (nI q)), (2, .long a1), (4, .int (nI k1))] [] Q) (fun k1 (a1 : Int64) => (a1 * (b : Int32).toInt64)) q 1 ?_ ?_
  · intro k1 hk1 ih1
    generalize jj_fo _ k1 _ = a1 at ih1 ⊢
    try dsimp only at ih1 ⊢
    refine rr_iload 3 rfl dX9_power_5 ?_
    refine rr_iload_n 1 rfl rfl dX9_power_7 ?_
    refine rr_icmp_ge dX9_power_8 (fun c => absurd c (nI_ge (a := k1) (b := q) (by omega) (by omega))) (fun _ => ?_)
    refine rr_lload_n 2 rfl rfl dX9_power_11 ?_
    refine rr_iload_n 0 rfl rfl dX9_power_12 ?_
    refine rr_i2l dX9_power_13 ?_
    refine rr_lmul dX9_power_14 ?_
    refine rr_lstore_n [(0, .int b), (1, .int (nI q)), (2, .long (a1 * (b : Int32).toInt64)), (4, .int (nI k1))] dX9_power_15 rfl (by decide) rfl ?_
    refine rr_iinc 3 1 [(0, .int b), (1, .int (nI q)), (2, .long (a1 * (b : Int32).toInt64)), (4, .int ((nI k1) + 1))] dX9_power_16 rfl rfl (by decide) rfl ?_
    refine rr_goto dX9_power_19 ?_
    simpa only [nI_1, (nI_clamp (show k1 < 2 ^ 31 by omega))] using ih1
  · try dsimp only
    refine rr_iload 3 rfl dX9_power_5 ?_
    refine rr_iload_n 1 rfl rfl dX9_power_7 ?_
    refine rr_icmp_ge dX9_power_8 (fun _ => ?_) (fun c => absurd (jj_le_rf _) c)
    refine rr_lload_n 2 rfl rfl dX9_power_22 ?_
    refine rr_lreturn dX9_power_23 rfl ?_
    simpa only [vX9_power] using kq
def vX9_givenBy (r38 : Nat → Int32) (r39 : Nat → Int32) (n : Nat) (v : Int32) (b : Int32) : Int32 := (jj_fo (fun k1 (a1 : Int32) => (if (v &&& (1 <<< ((nI k1) &&& 31))) = 0 then (a1 + 0) else (a1 + (if b < (vX6_behindOf_n r38 r39 (nI k1)) then b else (vX6_behindOf_n r38 r39 (nI k1)))))) n 0)
set_option maxHeartbeats 1000000 in
theorem sp_X9_givenBy {d kc ks : Nat} {h : Nat → Nat → Int32} {g : Nat → Nat → Int64} {Q : jj_Rs → jj_St → Prop} {n : Nat} {v : Int32} {b : Int32} (hP : h 1 0 = nI n) (hn : n ≤ 8) (kq : Q (.inl (some (.int (vX9_givenBy (h 38) (h 39) n v b)))) (jj_S, 782, h, g)) : jj_R mX9_givenBy (d + 1) kc ks (jj_S, 782, h, g) 0 [(0, .ref 0), (1, .int v), (2, .int b)] [] Q := by
  refine rr_iconst 0 rfl dX9_givenBy_0 ?_
  refine rr_istore_n [(0, .ref 0), (1, .int v), (2, .int b), (3, .int 0)] dX9_givenBy_1 rfl (by decide) rfl ?_
  refine rr_iconst 0 rfl dX9_givenBy_2 ?_
  refine rr_istore [(0, .ref 0), (1, .int v), (2, .int b), (3, .int 0), (4, .int 0)] dX9_givenBy_3 (by decide) rfl ?_
  refine jj_for (fun k1 (a1 : Int32) => jj_R _ _ kc ks (jj_S, 782, h, g) 5 [(0, .ref 0), (1, .int v), (2, .int b), (3, .int a1), (4, .int (nI k1))] [] Q) (fun k1 (a1 : Int32) => (if (v &&& (1 <<< ((nI k1) &&& 31))) = 0 then (a1 + 0) else (a1 + (if b < (vX6_behindOf_n (h 38) (h 39) (nI k1)) then b else (vX6_behindOf_n (h 38) (h 39) (nI k1)))))) n 0 ?_ ?_
  · intro k1 hk1 ih1
    generalize jj_fo _ k1 _ = a1 at ih1 ⊢
    try dsimp only at ih1 ⊢
    refine rr_iload 4 rfl dX9_givenBy_5 ?_
    refine rr_aload_n 0 rfl rfl dX9_givenBy_7 ?_
    refine rr_getR dX9_givenBy_8 fX9_27 lo_0 sh_0 rfl ?_
    refine rr_getI dX9_givenBy_11 fX9_132 lo_1 sh_1 rfl ?_
    rw [hP]
    refine rr_icmp_ge dX9_givenBy_14 (fun c => absurd c (nI_ge (a := k1) (b := n) (by omega) (by omega))) (fun _ => ?_)
    refine rr_iload_n 3 rfl rfl dX9_givenBy_17 ?_
    refine rr_iload_n 1 rfl rfl dX9_givenBy_18 ?_
    refine rr_iconst 1 rfl dX9_givenBy_19 ?_
    refine rr_iload 4 rfl dX9_givenBy_20 ?_
    refine rr_ishl dX9_givenBy_22 ?_
    refine rr_iand dX9_givenBy_23 ?_
    refine rr_if_eq dX9_givenBy_24 (fun c1 => ?_) (fun c1 => ?_)
    · skip
      refine rr_iconst 0 rfl dX9_givenBy_43 ?_
      refine rr_iadd dX9_givenBy_44 ?_
      refine rr_istore_n [(0, .ref 0), (1, .int v), (2, .int b), (3, .int (a1 + 0)), (4, .int (nI k1))] dX9_givenBy_45 rfl (by decide) rfl ?_
      refine rr_iinc 4 1 [(0, .ref 0), (1, .int v), (2, .int b), (3, .int (a1 + 0)), (4, .int ((nI k1) + 1))] dX9_givenBy_46 rfl rfl (by decide) rfl ?_
      refine rr_goto dX9_givenBy_49 ?_
      try simp only [(nI_clamp (show k1 < 2 ^ 31 by omega))] at c1
      simpa only [nI_1, (nI_clamp (show k1 < 2 ^ 31 by omega)), if_pos c1] using ih1
    · skip
      refine rr_aload_n 0 rfl rfl dX9_givenBy_27 ?_
      refine rr_getR dX9_givenBy_28 fX9_80 lo_0 sh_0 rfl ?_
      refine rr_iload 4 rfl dX9_givenBy_31 ?_
      refine rr_callV (As := [.int (nI k1)]) (rest := [.int a1]) (kc2 := 0) (ks2 := 0) dX9_givenBy_33 okX6_behindOf lX9_216 lo_38 sh_38 rfl rfl (Nat.le_of_ble_eq_true rfl) (Nat.le_of_ble_eq_true rfl) rfl (by omega) (by simp [jj_rk]) (by simp [jj_rk]) ?_
      refine sp_X6_behindOf_n (by first | assumption | exact jj_pers hP hn (by assumption) | exact vp_in_nI (by omega) (by decide) | decide | omega) ?_
      show jj_R _ _ kc ks (jj_S, 782, h, g) 36 [(0, .ref 0), (1, .int v), (2, .int b), (3, .int a1), (4, .int (nI k1))] [.int (vX6_behindOf_n (h 38) (h 39) (nI k1)), .int a1] Q
      refine rr_iload_n 2 rfl rfl dX9_givenBy_36 ?_
      refine rr_mmin (st := [.int a1]) dX9_givenBy_37 lX9_338 (Nat.le_of_ble_eq_true rfl) ?_
      refine rr_goto dX9_givenBy_40 ?_
      refine rr_iadd dX9_givenBy_44 ?_
      refine rr_istore_n [(0, .ref 0), (1, .int v), (2, .int b), (3, .int (a1 + (if b < (vX6_behindOf_n (h 38) (h 39) (nI k1)) then b else (vX6_behindOf_n (h 38) (h 39) (nI k1))))), (4, .int (nI k1))] dX9_givenBy_45 rfl (by decide) rfl ?_
      refine rr_iinc 4 1 [(0, .ref 0), (1, .int v), (2, .int b), (3, .int (a1 + (if b < (vX6_behindOf_n (h 38) (h 39) (nI k1)) then b else (vX6_behindOf_n (h 38) (h 39) (nI k1))))), (4, .int ((nI k1) + 1))] dX9_givenBy_46 rfl rfl (by decide) rfl ?_
      refine rr_goto dX9_givenBy_49 ?_
      try simp only [(nI_clamp (show k1 < 2 ^ 31 by omega))] at c1
      simpa only [nI_1, (nI_clamp (show k1 < 2 ^ 31 by omega)), if_neg c1] using ih1
  · try dsimp only
    refine rr_iload 4 rfl dX9_givenBy_5 ?_
    refine rr_aload_n 0 rfl rfl dX9_givenBy_7 ?_
    refine rr_getR dX9_givenBy_8 fX9_27 lo_0 sh_0 rfl ?_
    refine rr_getI dX9_givenBy_11 fX9_132 lo_1 sh_1 rfl ?_
    rw [hP]
    refine rr_icmp_ge dX9_givenBy_14 (fun _ => ?_) (fun c => absurd (jj_le_rf _) c)
    refine rr_iload_n 3 rfl rfl dX9_givenBy_52 ?_
    refine rr_ireturn dX9_givenBy_53 rfl ?_
    simpa only [vX9_givenBy] using kq
