/-! ===== the two constructors and the opening of the law ===== -/
def hz_ : Nat → Nat → Int32 := fun _ _ => 0
def gz_ : Nat → Nat → Int64 := fun _ _ => 0
set_option maxHeartbeats 1000000 in
theorem ct_begin {d kc ks : Nat} {h : Nat → Nat → Int32} {g : Nat → Nat → Int64} {Q : jj_Rs → jj_St → Prop} (hf : jj_fr jj_T 43 h g) (e3 : h 38 3 = 1) (e4 : h 38 4 = 1) (e5 : h 38 5 = 1) (e6 : h 38 6 = 1) (z0 : h 38 0 = 0) (z1 : h 38 1 = 0) (z2 : h 38 2 = 0) (z39 : ∀ k, h 39 k = 0) (z40 : ∀ k, h 40 k = 0) (z41 : ∀ k, h 41 k = 0) (kq : jj_fr jj_T 43 (jj_mi 42 0 8 h) g → Q (.inl none) (jj_T, 43, (jj_mi 42 0 8 h), g)) : jj_R mX6_begin d kc ks (jj_T, 43, h, g) 0 [(0, .ref 38)] [] Q := by
  refine rr_aload_n 0 rfl rfl dX6_begin_0 ?_
  refine rr_iconst 0 rfl dX6_begin_1 ?_
  refine cr_put0 dX6_begin_2 fX6_24 ni6_0 (by decide) th_38 rfl z0 ?_
  refine rr_aload_n 0 rfl rfl dX6_begin_5 ?_
  refine rr_iconst 0 rfl dX6_begin_6 ?_
  refine cr_put0 dX6_begin_7 fX6_28 ni6_1 (by decide) th_38 rfl z1 ?_
  refine rr_aload_n 0 rfl rfl dX6_begin_10 ?_
  refine rr_iconst 0 rfl dX6_begin_11 ?_
  refine cr_put0 dX6_begin_12 fX6_31 ni6_2 (by decide) th_38 rfl z2 ?_
  refine rr_iconst 0 rfl dX6_begin_15 ?_
  refine rr_istore_n [(0, .ref 38), (1, .int 0)] dX6_begin_16 rfl (by decide) rfl ?_
  refine jj_Rh (jj_mi_0 (o := 42) (lo := 0)).symm ?_
  refine jj_for (fun k1 (_ : Unit) => jj_R _ _ kc ks (jj_T, 43, (jj_mi 42 0 k1 h), g) 17 [(0, .ref 38), (1, .int (nI k1))] [] Q) (fun _ _ => ()) 8 () ?_ ?_
  · intro k1 hk1 ih1
    try dsimp only at ih1 ⊢
    have r38 : jj_mi 42 0 k1 h 38 = h 38 := jj_mi_ne (by decide)
    refine rr_iload_n 1 rfl rfl dX6_begin_17 ?_
    refine rr_bipush 8 rfl dX6_begin_18 ?_
    refine rr_icmp_ge dX6_begin_20 (fun c => absurd c (nI_ge (a := k1) (b := 8) (by omega) (by omega))) (fun _ => ?_)
    refine rr_aload_n 0 rfl rfl dX6_begin_23 ?_
    refine rr_getO dX6_begin_24 fX6_9 (by decide) th_38 rfl (by rw [r38, e3]; decide) ?_
    refine rr_iload_n 1 rfl rfl dX6_begin_27 ?_
    refine rr_iconst 0 rfl dX6_begin_28 ?_
    refine cr_st0 dX6_begin_29 (by decide) th_39 (vp_in_nI (by omega) (by decide)) (by rw [jj_mi_ne (by decide)]; exact z39 _) ?_
    refine rr_aload_n 0 rfl rfl dX6_begin_30 ?_
    refine rr_getO dX6_begin_31 fX6_15 (by decide) th_38 rfl (by rw [r38, e4]; decide) ?_
    refine rr_iload_n 1 rfl rfl dX6_begin_34 ?_
    refine rr_iconst 0 rfl dX6_begin_35 ?_
    refine cr_st0 dX6_begin_36 (by decide) th_40 (vp_in_nI (by omega) (by decide)) (by rw [jj_mi_ne (by decide)]; exact z40 _) ?_
    refine rr_aload_n 0 rfl rfl dX6_begin_37 ?_
    refine rr_getO dX6_begin_38 fX6_18 (by decide) th_38 rfl (by rw [r38, e5]; decide) ?_
    refine rr_iload_n 1 rfl rfl dX6_begin_41 ?_
    refine rr_iconst 0 rfl dX6_begin_42 ?_
    refine cr_st0 dX6_begin_43 (by decide) th_41 (vp_in_nI (by omega) (by decide)) (by rw [jj_mi_ne (by decide)]; exact z41 _) ?_
    refine rr_aload_n 0 rfl rfl dX6_begin_44 ?_
    refine rr_getO dX6_begin_45 fX6_21 (by decide) th_38 rfl (by rw [r38, e6]; decide) ?_
    refine rr_iload_n 1 rfl rfl dX6_begin_48 ?_
    refine rr_iconst (-1) rfl dX6_begin_49 ?_
    refine rr_iastore dX6_begin_50 (by decide) th_42 (vp_in_nI (by omega) (by decide)) ?_
    rw [nI_clamp (show k1 < 2 ^ 31 by omega)]
    refine jj_Rh (show jj_u2 (jj_mi 42 0 k1 h) 42 k1 (-1) = jj_mi 42 0 (k1 + 1) h by have e := jj_mi_s (o := 42) (lo := 0) (k := k1) (h := h); rw [Nat.zero_add] at e; exact e) ?_
    refine rr_iinc 1 1 [(0, .ref 38), (1, .int ((nI k1) + 1))] dX6_begin_51 rfl rfl (by decide) rfl ?_
    refine rr_goto dX6_begin_54 ?_
    rw [nI_1]
    exact ih1
  · try dsimp only
    refine rr_iload_n 1 rfl rfl dX6_begin_17 ?_
    refine rr_bipush 8 rfl dX6_begin_18 ?_
    refine rr_icmp_ge dX6_begin_20 (fun _ => ?_) (fun c => absurd (jj_le_rf _) c)
    refine rr_return dX6_begin_57 rfl ?_
    exact kq (jj_fr_row hf (by decide) th_42 (fun a e => jj_mi_ne e))
set_option maxHeartbeats 1000000 in
theorem ct_tells {d kc ks : Nat} {h : Nat → Nat → Int32} {g : Nat → Nat → Int64} {Q : jj_Rs → jj_St → Prop} (hf : jj_fr jj_T 781 h g) (e11 : h 49 11 = 1) (e15 : h 49 15 = 1) (z52 : h 52 0 = 0) (z72 : ∀ k, h 72 k = 0) (kq : jj_fr jj_T 781 (jj_u2 h 52 1 20) g → Q (.inl none) (jj_T, 781, (jj_u2 h 52 1 20), g)) : jj_R mX10_tellsNothing d kc ks (jj_T, 781, h, g) 0 [(0, .ref 49)] [] Q := by
  refine rr_aload_n 0 rfl rfl dX10_tellsNothing_0 ?_
  refine rr_getO dX10_tellsNothing_1 fX10_20 (by decide) th_49 rfl (by rw [e11]; decide) ?_
  refine rr_iconst 0 rfl dX10_tellsNothing_4 ?_
  refine rr_iconst 0 rfl dX10_tellsNothing_5 ?_
  refine cr_st0 dX10_tellsNothing_6 (by decide) th_52 (jj_inL rfl) z52 ?_
  refine rr_aload_n 0 rfl rfl dX10_tellsNothing_7 ?_
  refine rr_getO dX10_tellsNothing_8 fX10_20 (by decide) th_49 rfl (by rw [e11]; decide) ?_
  refine rr_iconst 1 rfl dX10_tellsNothing_11 ?_
  refine rr_bipush 20 rfl dX10_tellsNothing_12 ?_
  refine rr_iastore dX10_tellsNothing_14 (by decide) th_52 (jj_inL rfl) ?_
  rw [show (1 : Int32).toNatClampNeg = 1 from rfl]
  have r49 : jj_u2 h 52 1 20 49 = h 49 := jj_u2_ne (by decide)
  have r72 : jj_u2 h 52 1 20 72 = h 72 := jj_u2_ne (by decide)
  have hf2 : jj_fr jj_T 781 (jj_u2 h 52 1 20) g := jj_fr_row hf (show 52 < 781 by decide) th_52 (fun a e => jj_u2_ne e)
  refine rr_iconst 0 rfl dX10_tellsNothing_15 ?_
  refine rr_istore_n [(0, .ref 49), (1, .int 0)] dX10_tellsNothing_16 rfl (by decide) rfl ?_
  refine jj_for (fun k1 (_ : Unit) => jj_R _ _ kc ks (jj_T, 781, (jj_u2 h 52 1 20), g) 17 [(0, .ref 49), (1, .int (nI k1))] [] Q) (fun _ _ => ()) 8 () ?_ ?_
  · intro k1 hk1 ih1
    try dsimp only at ih1 ⊢
    refine rr_iload_n 1 rfl rfl dX10_tellsNothing_17 ?_
    refine rr_bipush 8 rfl dX10_tellsNothing_18 ?_
    refine rr_icmp_ge dX10_tellsNothing_20 (fun c => absurd c (nI_ge (a := k1) (b := 8) (by omega) (by omega))) (fun _ => ?_)
    refine rr_aload_n 0 rfl rfl dX10_tellsNothing_23 ?_
    refine rr_getO dX10_tellsNothing_24 fX10_34 (by decide) th_49 rfl (by rw [r49, e15]; decide) ?_
    refine rr_iload_n 1 rfl rfl dX10_tellsNothing_27 ?_
    refine rr_iconst 0 rfl dX10_tellsNothing_28 ?_
    refine cr_st0 dX10_tellsNothing_29 (by decide) th_72 (vp_in_nI (by omega) (by decide)) (by rw [r72]; exact z72 _) ?_
    refine rr_iinc 1 1 [(0, .ref 49), (1, .int ((nI k1) + 1))] dX10_tellsNothing_30 rfl rfl (by decide) rfl ?_
    refine rr_goto dX10_tellsNothing_33 ?_
    rw [nI_1]
    exact ih1
  · try dsimp only
    refine rr_iload_n 1 rfl rfl dX10_tellsNothing_17 ?_
    refine rr_bipush 8 rfl dX10_tellsNothing_18 ?_
    refine rr_icmp_ge dX10_tellsNothing_20 (fun _ => ?_) (fun c => absurd (jj_le_rf _) c)
    refine rr_return dX10_tellsNothing_36 rfl ?_
    exact kq hf2
set_option maxHeartbeats 1000000 in
theorem ct_lays {d kc ks : Nat} {τ : jj_St} {Q : jj_Rs → jj_St → Prop} (kq : Q (.inl none) τ) : jj_R mX10_lays d kc ks τ 0 [(0, .ref 54), (1, .ref 63), (2, .int 0)] [] Q := by
  refine rr_iconst 0 rfl dX10_lays_0 ?_
  refine rr_istore_n [(0, .ref 54), (1, .ref 63), (2, .int 0), (3, .int 0)] dX10_lays_1 rfl (by decide) rfl ?_
  refine rr_iload_n 3 rfl rfl dX10_lays_2 ?_
  refine rr_iload_n 2 rfl rfl dX10_lays_3 ?_
  refine rr_icmp_ge dX10_lays_4 (fun _ => ?_) (fun c => absurd (jj_le_rf _) c)
  refine rr_return dX10_lays_43 rfl ?_
  exact kq
set_option maxHeartbeats 2000000 in
theorem ct_begins {d kc ks : Nat} {h : Nat → Nat → Int32} {g : Nat → Nat → Int64} {Q : jj_Rs → jj_St → Prop} (hf : jj_fr jj_T 781 h g) (e11 : h 49 11 = 1) (e12 : h 49 12 = 1) (e13 : h 49 13 = 1) (e14 : h 49 14 = 1) (e15 : h 49 15 = 1) (e16 : h 49 16 = 1) (e27 : h 49 27 = 1) (z52 : h 52 0 = 0) (t52 : h 52 1 = 20) (z53 : h 53 0 = 0) (z72 : ∀ k, h 72 k = 0) (z73 : ∀ k, h 73 k = 0) (z497 : ∀ k, h 497 k = 0) (z17 : h 49 17 = 0) (z31 : h 49 31 = 0) (z32 : h 49 32 = 0) (z33 : h 49 33 = 0) (z34 : h 49 34 = 0) (kq : jj_fr jj_T 781 (jj_mi 497 24 8 (jj_u2 h 53 1 20)) g → Q (.inl none) (jj_T, 781, (jj_mi 497 24 8 (jj_u2 h 53 1 20)), g)) : jj_R mX10_beginsAnew (d + 1) kc ks (jj_T, 781, h, g) 0 [(0, .ref 49)] [] Q := by
  refine rr_iconst 0 rfl dX10_beginsAnew_0 ?_
  refine rr_istore_n [(0, .ref 49), (1, .int 0)] dX10_beginsAnew_1 rfl (by decide) rfl ?_
  refine rr_iload_n 1 rfl rfl dX10_beginsAnew_2 ?_
  refine rr_iconst 2 rfl dX10_beginsAnew_3 ?_
  refine rr_icmp_ge dX10_beginsAnew_4 (fun c => absurd c (by decide)) (fun _ => ?_)
  refine rr_aload_n 0 rfl rfl dX10_beginsAnew_7 ?_
  refine rr_getO dX10_beginsAnew_8 fX10_23 (by decide) th_49 rfl (by rw [e12]; decide) ?_
  refine rr_iload_n 1 rfl rfl dX10_beginsAnew_11 ?_
  refine rr_aload_n 0 rfl rfl dX10_beginsAnew_12 ?_
  refine rr_getO dX10_beginsAnew_13 fX10_20 (by decide) th_49 rfl (by rw [e11]; decide) ?_
  refine rr_iload_n 1 rfl rfl dX10_beginsAnew_16 ?_
  refine rr_iaload dX10_beginsAnew_17 (by decide) th_52 (jj_inL rfl) ?_
  refine cr_st0 dX10_beginsAnew_18 (by decide) th_53 (jj_inL rfl) (show h 53 0 = h 52 0 by rw [z52, z53]) ?_
  refine rr_iinc 1 1 [(0, .ref 49), (1, .int 1)] dX10_beginsAnew_19 rfl rfl (by decide) rfl ?_
  refine rr_goto dX10_beginsAnew_22 ?_
  refine rr_iload_n 1 rfl rfl dX10_beginsAnew_2 ?_
  refine rr_iconst 2 rfl dX10_beginsAnew_3 ?_
  refine rr_icmp_ge dX10_beginsAnew_4 (fun c => absurd c (by decide)) (fun _ => ?_)
  refine rr_aload_n 0 rfl rfl dX10_beginsAnew_7 ?_
  refine rr_getO dX10_beginsAnew_8 fX10_23 (by decide) th_49 rfl (by rw [e12]; decide) ?_
  refine rr_iload_n 1 rfl rfl dX10_beginsAnew_11 ?_
  refine rr_aload_n 0 rfl rfl dX10_beginsAnew_12 ?_
  refine rr_getO dX10_beginsAnew_13 fX10_20 (by decide) th_49 rfl (by rw [e11]; decide) ?_
  refine rr_iload_n 1 rfl rfl dX10_beginsAnew_16 ?_
  refine rr_iaload dX10_beginsAnew_17 (by decide) th_52 (jj_inL rfl) ?_
  rw [show h 52 (1 : Int32).toNatClampNeg = 20 from t52]
  refine rr_iastore dX10_beginsAnew_18 (by decide) th_53 (jj_inL rfl) ?_
  rw [show (1 : Int32).toNatClampNeg = 1 from rfl]
  have hf2 : jj_fr jj_T 781 (jj_u2 h 53 1 20) g := jj_fr_row hf (show 53 < 781 by decide) th_53 (fun a e => jj_u2_ne e)
  have r49 : jj_u2 h 53 1 20 49 = h 49 := jj_u2_ne (by decide)
  have r72 : jj_u2 h 53 1 20 72 = h 72 := jj_u2_ne (by decide)
  have r73 : jj_u2 h 53 1 20 73 = h 73 := jj_u2_ne (by decide)
  have r497 : jj_u2 h 53 1 20 497 = h 497 := jj_u2_ne (by decide)
  have r53 : jj_u2 h 53 1 20 53 0 = 0 := z53
  generalize jj_u2 h 53 1 20 = h2 at hf2 r49 r72 r73 r497 r53 kq ⊢
  rw [← r49] at e11 e12 e13 e14 e15 e16 e27 z17 z31 z32 z33 z34
  rw [← r72] at z72
  rw [← r73] at z73
  rw [← r497] at z497
  clear r49 r72 r73 r497
  refine rr_iinc 1 1 [(0, .ref 49), (1, .int 2)] dX10_beginsAnew_19 rfl rfl (by decide) rfl ?_
  refine rr_goto dX10_beginsAnew_22 ?_
  refine rr_iload_n 1 rfl rfl dX10_beginsAnew_2 ?_
  refine rr_iconst 2 rfl dX10_beginsAnew_3 ?_
  refine rr_icmp_ge dX10_beginsAnew_4 (fun _ => ?_) (fun c => absurd (by decide) c)
  refine rr_aload_n 0 rfl rfl dX10_beginsAnew_25 ?_
  refine rr_getO dX10_beginsAnew_26 fX10_28 (by decide) th_49 rfl (by rw [e13]; decide) ?_
  refine rr_aload_n 0 rfl rfl dX10_beginsAnew_29 ?_
  refine rr_getO dX10_beginsAnew_30 fX10_31 (by decide) th_49 rfl (by rw [e14]; decide) ?_
  refine rr_aload_n 0 rfl rfl dX10_beginsAnew_33 ?_
  refine rr_getO dX10_beginsAnew_34 fX10_23 (by decide) th_49 rfl (by rw [e12]; decide) ?_
  refine rr_iconst 0 rfl dX10_beginsAnew_37 ?_
  refine rr_iaload dX10_beginsAnew_38 (by decide) th_53 (jj_inL rfl) ?_
  rw [show h2 53 (0 : Int32).toNatClampNeg = 0 from r53]
  refine rr_callS (As := [.ref 54, .ref 63, .int 0]) (rest := []) (kc2 := 0) (ks2 := 0) dX10_beginsAnew_39 okX10_lays lX10_184 rfl (Nat.le_of_ble_eq_true rfl) (Nat.le_of_ble_eq_true rfl) rfl (by omega) (by simp [jj_rk]) (by simp [jj_rk]) ?_
  refine ct_lays ?_
  show jj_R _ _ kc ks (jj_T, 781, h2, g) 42 [(0, .ref 49), (1, .int 2)] [] Q
  refine rr_iconst 0 rfl dX10_beginsAnew_42 ?_
  refine rr_istore_n [(0, .ref 49), (1, .int 0)] dX10_beginsAnew_43 rfl (by decide) rfl ?_
  refine jj_for (fun k1 (_ : Unit) => jj_R _ _ kc ks (jj_T, 781, h2, g) 44 [(0, .ref 49), (1, .int (nI k1))] [] Q) (fun _ _ => ()) 35 () ?_ ?_
  · intro k1 hk1 ih1
    try dsimp only at ih1 ⊢
    refine rr_iload_n 1 rfl rfl dX10_beginsAnew_44 ?_
    refine rr_bipush 35 rfl dX10_beginsAnew_45 ?_
    refine rr_icmp_ge dX10_beginsAnew_47 (fun c => absurd c (nI_ge (a := k1) (b := 35) (by omega) (by omega))) (fun _ => ?_)
    refine rr_aload_n 0 rfl rfl dX10_beginsAnew_50 ?_
    refine rr_getO dX10_beginsAnew_51 fX10_61 (by decide) th_49 rfl (by rw [e27]; decide) ?_
    refine rr_iload_n 1 rfl rfl dX10_beginsAnew_54 ?_
    refine rr_iconst 0 rfl dX10_beginsAnew_55 ?_
    refine cr_st0 dX10_beginsAnew_56 (by decide) th_497 (vp_in_nI (by omega) (by decide)) (z497 _) ?_
    refine rr_iinc 1 1 [(0, .ref 49), (1, .int ((nI k1) + 1))] dX10_beginsAnew_57 rfl rfl (by decide) rfl ?_
    refine rr_goto dX10_beginsAnew_60 ?_
    rw [nI_1]
    exact ih1
  try dsimp only
  refine rr_iload_n 1 rfl rfl dX10_beginsAnew_44 ?_
  refine rr_bipush 35 rfl dX10_beginsAnew_45 ?_
  refine rr_icmp_ge dX10_beginsAnew_47 (fun _ => ?_) (fun c => absurd (jj_le_rf _) c)
  refine rr_iconst 0 rfl dX10_beginsAnew_63 ?_
  refine rr_istore_n [(0, .ref 49), (1, .int 0)] dX10_beginsAnew_64 rfl (by decide) rfl ?_
  refine jj_Rh (jj_mi_0 (o := 497) (lo := 24)).symm ?_
  refine jj_for (fun k1 (_ : Unit) => jj_R _ _ kc ks (jj_T, 781, (jj_mi 497 24 k1 h2), g) 65 [(0, .ref 49), (1, .int (nI k1))] [] Q) (fun _ _ => ()) 8 () ?_ ?_
  · intro k2 hk2 ih2
    try dsimp only at ih2 ⊢
    have q49 : jj_mi 497 24 k2 h2 49 = h2 49 := jj_mi_ne (by decide)
    have q72 : jj_mi 497 24 k2 h2 72 = h2 72 := jj_mi_ne (by decide)
    have q73 : jj_mi 497 24 k2 h2 73 = h2 73 := jj_mi_ne (by decide)
    refine rr_iload_n 1 rfl rfl dX10_beginsAnew_65 ?_
    refine rr_bipush 8 rfl dX10_beginsAnew_66 ?_
    refine rr_icmp_ge dX10_beginsAnew_68 (fun c => absurd c (nI_ge (a := k2) (b := 8) (by omega) (by omega))) (fun _ => ?_)
    refine rr_aload_n 0 rfl rfl dX10_beginsAnew_71 ?_
    refine rr_getO dX10_beginsAnew_72 fX10_37 (by decide) th_49 rfl (by rw [q49, e16]; decide) ?_
    refine rr_iload_n 1 rfl rfl dX10_beginsAnew_75 ?_
    refine rr_aload_n 0 rfl rfl dX10_beginsAnew_76 ?_
    refine rr_getO dX10_beginsAnew_77 fX10_34 (by decide) th_49 rfl (by rw [q49, e15]; decide) ?_
    refine rr_iload_n 1 rfl rfl dX10_beginsAnew_80 ?_
    refine rr_iaload dX10_beginsAnew_81 (by decide) th_72 (vp_in_nI (by omega) (by decide)) ?_
    refine cr_st0 dX10_beginsAnew_82 (by decide) th_73 (vp_in_nI (by omega) (by decide)) (by rw [q72, q73, z72, z73]) ?_
    refine rr_aload_n 0 rfl rfl dX10_beginsAnew_83 ?_
    refine rr_getO dX10_beginsAnew_84 fX10_61 (by decide) th_49 rfl (by rw [q49, e27]; decide) ?_
    refine rr_bipush 24 rfl dX10_beginsAnew_87 ?_
    refine rr_iload_n 1 rfl rfl dX10_beginsAnew_89 ?_
    refine rr_iadd dX10_beginsAnew_90 ?_
    refine rr_iconst (-1) rfl dX10_beginsAnew_91 ?_
    refine rr_iastore dX10_beginsAnew_92 (by decide) th_497 (jj_rowin (n := 8) (o := 24) (vp_in_nI (by omega) (by decide)) (by decide) (by decide)) ?_
    rw [show ((24 : Int32) + nI k2).toNatClampNeg = 24 + k2 from by rw [show (24 : Int32) + nI k2 = nI (24 + k2) from nI_add 24 k2, nI_clamp (show 24 + k2 < 2 ^ 31 by omega)]]
    refine jj_Rh (jj_mi_s (o := 497) (lo := 24) (k := k2) (h := h2)) ?_
    refine rr_iinc 1 1 [(0, .ref 49), (1, .int ((nI k2) + 1))] dX10_beginsAnew_93 rfl rfl (by decide) rfl ?_
    refine rr_goto dX10_beginsAnew_96 ?_
    rw [nI_1]
    exact ih2
  try dsimp only
  have q49 : jj_mi 497 24 8 h2 49 = h2 49 := jj_mi_ne (by decide)
  refine rr_iload_n 1 rfl rfl dX10_beginsAnew_65 ?_
  refine rr_bipush 8 rfl dX10_beginsAnew_66 ?_
  refine rr_icmp_ge dX10_beginsAnew_68 (fun _ => ?_) (fun c => absurd (jj_le_rf _) c)
  refine rr_aload_n 0 rfl rfl dX10_beginsAnew_99 ?_
  refine rr_iconst 0 rfl dX10_beginsAnew_100 ?_
  refine cr_put0 dX10_beginsAnew_101 fX10_188 ni10_17 (by decide) th_49 rfl (by rw [q49]; exact z17) ?_
  refine rr_aload_n 0 rfl rfl dX10_beginsAnew_104 ?_
  refine rr_iconst 0 rfl dX10_beginsAnew_105 ?_
  refine cr_put0 dX10_beginsAnew_106 fX10_191 ni10_31 (by decide) th_49 rfl (by rw [q49]; exact z31) ?_
  refine rr_aload_n 0 rfl rfl dX10_beginsAnew_109 ?_
  refine rr_iconst 0 rfl dX10_beginsAnew_110 ?_
  refine cr_put0 dX10_beginsAnew_111 fX10_194 ni10_32 (by decide) th_49 rfl (by rw [q49]; exact z32) ?_
  refine rr_aload_n 0 rfl rfl dX10_beginsAnew_114 ?_
  refine rr_iconst 0 rfl dX10_beginsAnew_115 ?_
  refine cr_put0 dX10_beginsAnew_116 fX10_197 ni10_33 (by decide) th_49 rfl (by rw [q49]; exact z33) ?_
  refine rr_aload_n 0 rfl rfl dX10_beginsAnew_119 ?_
  refine rr_iconst 0 rfl dX10_beginsAnew_120 ?_
  refine cr_put0 dX10_beginsAnew_121 fX10_200 ni10_34 (by decide) th_49 rfl (by rw [q49]; exact z34) ?_
  refine rr_return dX10_beginsAnew_124 rfl ?_
  exact kq (jj_fr_row hf2 (show 497 < 781 by decide) th_497 (fun a e => jj_mi_ne e))
def hA_ : Nat → Nat → Int32 := (jj_u2 (jj_u2 (hc_43 (jj_u2 (jj_mi 42 0 8 (hc_38 (jj_u2 (hc_34 (jj_u2 (hc_30 (jj_u2 (hc_25 (jj_u2 (hc_21 (jj_u2 (jj_u2 (jj_u2 (hc_15 (jj_u2 (jj_u2 (hc_13 (hc_12 (hc_7 (hc_1 hz_)))) 0 0 1) 0 1 1)) 0 2 1) 0 3 1) 0 4 1)) 0 5 1)) 0 6 1)) 0 7 1)) 0 8 1))) 0 9 1)) 0 10 1) 0 11 1)
set_option maxHeartbeats 4000000 in
theorem ct_0 {d : Nat} {Q : jj_Rs → jj_St → Prop} (hf : jj_fr jj_T 1 hz_ gz_) (kq : jj_fr jj_T 49 hA_ gz_ → Q (.inl none) (jj_T, 49, hA_, gz_)) : jj_R mX9_init (d + 2) 48 5958 (jj_T, 1, hz_, gz_) 0 [(0, .ref 0)] [] Q := by
  refine rr_aload_n 0 rfl rfl dX9_init_0 ?_
  refine rr_objInit dX9_init_1 ol_X9_1 ow_ (Nat.le_of_ble_eq_true rfl) ?_
  refine rr_new (ci := 7) (N := 7) (C := RX7) (T := TX7) (kc2 := 47) (ks2 := 5951) dX9_init_4 nw_X9_7 rfl th_1 (by decide +kernel) (by decide) rfl ⟨by decide, by decide⟩ hf (by simp [jj_rk]) (by simp [jj_rk]) (fun hf => ?_)
  refine rr_dup rfl dX9_init_7 ?_
  refine rr_callI (As := []) (rest := [.ref 1]) (kc2 := 5) (ks2 := 40) dX9_init_8 okX7_init rfl (Or.inr ⟨_, nl_X9_9⟩) rfl (Nat.le_of_ble_eq_true rfl) (Nat.le_of_ble_eq_true rfl) rfl ⟨by decide, by decide⟩ (by simp [jj_rk]) (by simp [jj_rk]) ?_
  refine ct_1 hf (fun hf => ?_)
  show jj_R mX9_init _ 42 5911 (jj_T, 7, (hc_1 hz_), gz_) 11 [(0, .ref 0)] [.ref 1] Q
  refine rr_astore_n [(0, .ref 0), (1, .ref 1)] dX9_init_11 rfl (by decide) rfl ?_
  refine rr_new (ci := 4) (N := 6) (C := RX4) (T := TX4) (kc2 := 41) (ks2 := 5905) dX9_init_12 nw_X9_10 rfl th_7 (by decide +kernel) (by decide) rfl ⟨by decide, by decide⟩ hf (by simp [jj_rk]) (by simp [jj_rk]) (fun hf => ?_)
  refine rr_dup rfl dX9_init_15 ?_
  refine rr_callI (As := []) (rest := [.ref 7]) (kc2 := 4) (ks2 := 458) dX9_init_16 okX4_init rfl (Or.inr ⟨_, nl_X9_12⟩) rfl (Nat.le_of_ble_eq_true rfl) (Nat.le_of_ble_eq_true rfl) rfl ⟨by decide, by decide⟩ (by simp [jj_rk]) (by simp [jj_rk]) ?_
  refine ct_7 hf (fun hf => ?_)
  show jj_R mX9_init _ 37 5447 (jj_T, 12, (hc_7 (hc_1 hz_)), gz_) 19 [(0, .ref 0), (1, .ref 1)] [.ref 7] Q
  refine rr_astore_n [(0, .ref 0), (1, .ref 1), (2, .ref 7)] dX9_init_19 rfl (by decide) rfl ?_
  refine rr_new (ci := 3) (N := 3) (C := RX3) (T := TX3) (kc2 := 36) (ks2 := 5444) dX9_init_20 nw_X9_13 rfl th_12 (by decide +kernel) (by decide) rfl ⟨by decide, by decide⟩ hf (by simp [jj_rk]) (by simp [jj_rk]) (fun hf => ?_)
  refine rr_dup rfl dX9_init_23 ?_
  refine rr_aload_n 1 rfl rfl dX9_init_24 ?_
  refine rr_aload_n 2 rfl rfl dX9_init_25 ?_
  refine rr_callI (As := [.ref 1, .ref 7]) (rest := [.ref 12]) (kc2 := 0) (ks2 := 0) dX9_init_26 okX3_init rfl (Or.inl lX9_15) rfl (Nat.le_of_ble_eq_true rfl) (Nat.le_of_ble_eq_true rfl) rfl ⟨by decide, by decide⟩ (by simp [jj_rk]) (by simp [jj_rk]) ?_
  refine ct_12 hf (fun hf => ?_)
  show jj_R mX9_init _ 36 5444 (jj_T, 13, (hc_12 (hc_7 (hc_1 hz_))), gz_) 29 [(0, .ref 0), (1, .ref 1), (2, .ref 7)] [.ref 12] Q
  refine rr_astore_n [(0, .ref 0), (1, .ref 1), (2, .ref 7), (3, .ref 12)] dX9_init_29 rfl (by decide) rfl ?_
  refine rr_aload_n 0 rfl rfl dX9_init_30 ?_
  refine rr_new (ci := 5) (N := 9) (C := RX5) (T := TX5) (kc2 := 35) (ks2 := 5435) dX9_init_31 nw_X9_18 rfl th_13 (by decide +kernel) (by decide) rfl ⟨by decide, by decide⟩ hf (by simp [jj_rk]) (by simp [jj_rk]) (fun hf => ?_)
  refine rr_dup rfl dX9_init_34 ?_
  refine rr_callI (As := []) (rest := [.ref 13, .ref 0]) (kc2 := 1) (ks2 := 600) dX9_init_35 okX5_init rfl (Or.inr ⟨_, nl_X9_20⟩) rfl (Nat.le_of_ble_eq_true rfl) (Nat.le_of_ble_eq_true rfl) rfl ⟨by decide, by decide⟩ (by simp [jj_rk]) (by simp [jj_rk]) ?_
  refine ct_13 hf (fun hf => ?_)
  show jj_R mX9_init _ 34 4835 (jj_T, 15, (hc_13 (hc_12 (hc_7 (hc_1 hz_)))), gz_) 38 [(0, .ref 0), (1, .ref 1), (2, .ref 7), (3, .ref 12)] [.ref 13, .ref 0] Q
  refine cr_putF (.object "DayLaces$Reader") dX9_init_38 fX9_21 pn9_0 (fun _ => ⟨rfl, rfl⟩) rfl (by decide) th_0 rfl (by decide) hf (fun hf => ?_)
  refine rr_aload_n 0 rfl rfl dX9_init_41 ?_
  refine rr_aload_n 1 rfl rfl dX9_init_42 ?_
  refine cr_putF (.object "DayLaces$Street") dX9_init_43 fX9_27 pn9_1 (fun _ => ⟨rfl, rfl⟩) rfl (by decide) th_0 rfl (by decide) hf (fun hf => ?_)
  refine rr_aload_n 0 rfl rfl dX9_init_46 ?_
  refine rr_new (ci := 7) (N := 7) (C := RX7) (T := TX7) (kc2 := 33) (ks2 := 4828) dX9_init_47 nw_X9_7 rfl th_15 (by decide +kernel) (by decide) rfl ⟨by decide, by decide⟩ hf (by simp [jj_rk]) (by simp [jj_rk]) (fun hf => ?_)
  refine rr_dup rfl dX9_init_50 ?_
  refine rr_callI (As := []) (rest := [.ref 15, .ref 0]) (kc2 := 5) (ks2 := 40) dX9_init_51 okX7_init rfl (Or.inr ⟨_, nl_X9_9⟩) rfl (Nat.le_of_ble_eq_true rfl) (Nat.le_of_ble_eq_true rfl) rfl ⟨by decide, by decide⟩ (by simp [jj_rk]) (by simp [jj_rk]) ?_
  refine ct_15 hf (fun hf => ?_)
  show jj_R mX9_init _ 28 4788 (jj_T, 21, (hc_15 (jj_u2 (jj_u2 (hc_13 (hc_12 (hc_7 (hc_1 hz_)))) 0 0 1) 0 1 1)), gz_) 54 [(0, .ref 0), (1, .ref 1), (2, .ref 7), (3, .ref 12)] [.ref 15, .ref 0] Q
  refine cr_putF (.object "DayLaces$Street") dX9_init_54 fX9_31 pn9_2 (fun _ => ⟨rfl, rfl⟩) rfl (by decide) th_0 rfl (by decide) hf (fun hf => ?_)
  refine rr_aload_n 0 rfl rfl dX9_init_57 ?_
  refine rr_aload_n 2 rfl rfl dX9_init_58 ?_
  refine cr_putF (.object "DayLaces$Law") dX9_init_59 fX9_34 pn9_3 (fun _ => ⟨rfl, rfl⟩) rfl (by decide) th_0 rfl (by decide) hf (fun hf => ?_)
  refine rr_aload_n 0 rfl rfl dX9_init_62 ?_
  refine rr_aload_n 3 rfl rfl dX9_init_63 ?_
  refine cr_putF (.object "DayLaces$Lacing") dX9_init_64 fX9_38 pn9_4 (fun _ => ⟨rfl, rfl⟩) rfl (by decide) th_0 rfl (by decide) hf (fun hf => ?_)
  refine rr_aload_n 0 rfl rfl dX9_init_67 ?_
  refine rr_new (ci := 8) (N := 10) (C := RX8) (T := TX8) (kc2 := 27) (ks2 := 4778) dX9_init_68 nw_X9_42 rfl th_21 (by decide +kernel) (by decide) rfl ⟨by decide, by decide⟩ hf (by simp [jj_rk]) (by simp [jj_rk]) (fun hf => ?_)
  refine rr_dup rfl dX9_init_71 ?_
  refine rr_aload_n 3 rfl rfl dX9_init_72 ?_
  refine rr_callI (As := [.ref 12]) (rest := [.ref 21, .ref 0]) (kc2 := 3) (ks2 := 114) dX9_init_73 okX8_init rfl (Or.inl lX9_44) rfl (Nat.le_of_ble_eq_true rfl) (Nat.le_of_ble_eq_true rfl) rfl ⟨by decide, by decide⟩ (by simp [jj_rk]) (by simp [jj_rk]) ?_
  refine ct_21 hf (fun hf => ?_)
  show jj_R mX9_init _ 24 4664 (jj_T, 25, (hc_21 (jj_u2 (jj_u2 (jj_u2 (hc_15 (jj_u2 (jj_u2 (hc_13 (hc_12 (hc_7 (hc_1 hz_)))) 0 0 1) 0 1 1)) 0 2 1) 0 3 1) 0 4 1)), gz_) 76 [(0, .ref 0), (1, .ref 1), (2, .ref 7), (3, .ref 12)] [.ref 21, .ref 0] Q
  refine cr_putF (.object "DayLaces$Work") dX9_init_76 fX9_47 pn9_5 (fun _ => ⟨rfl, rfl⟩) rfl (by decide) th_0 rfl (by decide) hf (fun hf => ?_)
  refine rr_aload_n 0 rfl rfl dX9_init_79 ?_
  refine rr_new (ci := 0) (N := 10) (C := RX0) (T := TX0) (kc2 := 23) (ks2 := 4654) dX9_init_80 nw_X9_51 rfl th_25 (by decide +kernel) (by decide) rfl ⟨by decide, by decide⟩ hf (by simp [jj_rk]) (by simp [jj_rk]) (fun hf => ?_)
  refine rr_dup rfl dX9_init_83 ?_
  refine rr_aload_n 1 rfl rfl dX9_init_84 ?_
  refine rr_aload_n 3 rfl rfl dX9_init_85 ?_
  refine rr_callI (As := [.ref 1, .ref 12]) (rest := [.ref 25, .ref 0]) (kc2 := 4) (ks2 := 144) dX9_init_86 okX0_init rfl (Or.inl lX9_53) rfl (Nat.le_of_ble_eq_true rfl) (Nat.le_of_ble_eq_true rfl) rfl ⟨by decide, by decide⟩ (by simp [jj_rk]) (by simp [jj_rk]) ?_
  refine ct_25 hf (fun hf => ?_)
  show jj_R mX9_init _ 19 4510 (jj_T, 30, (hc_25 (jj_u2 (hc_21 (jj_u2 (jj_u2 (jj_u2 (hc_15 (jj_u2 (jj_u2 (hc_13 (hc_12 (hc_7 (hc_1 hz_)))) 0 0 1) 0 1 1)) 0 2 1) 0 3 1) 0 4 1)) 0 5 1)), gz_) 89 [(0, .ref 0), (1, .ref 1), (2, .ref 7), (3, .ref 12)] [.ref 25, .ref 0] Q
  refine cr_putF (.object "DayLaces$Book") dX9_init_89 fX9_56 pn9_6 (fun _ => ⟨rfl, rfl⟩) rfl (by decide) th_0 rfl (by decide) hf (fun hf => ?_)
  refine rr_aload_n 0 rfl rfl dX9_init_92 ?_
  refine rr_new (ci := 2) (N := 7) (C := RX2) (T := TX2) (kc2 := 18) (ks2 := 4503) dX9_init_93 nw_X9_60 rfl th_30 (by decide +kernel) (by decide) rfl ⟨by decide, by decide⟩ hf (by simp [jj_rk]) (by simp [jj_rk]) (fun hf => ?_)
  refine rr_dup rfl dX9_init_96 ?_
  refine rr_aload_n 1 rfl rfl dX9_init_97 ?_
  refine rr_aload_n 3 rfl rfl dX9_init_98 ?_
  refine rr_callI (As := [.ref 1, .ref 12]) (rest := [.ref 30, .ref 0]) (kc2 := 3) (ks2 := 24) dX9_init_99 okX2_init rfl (Or.inl lX9_62) rfl (Nat.le_of_ble_eq_true rfl) (Nat.le_of_ble_eq_true rfl) rfl ⟨by decide, by decide⟩ (by simp [jj_rk]) (by simp [jj_rk]) ?_
  refine ct_30 hf (fun hf => ?_)
  show jj_R mX9_init _ 15 4479 (jj_T, 34, (hc_30 (jj_u2 (hc_25 (jj_u2 (hc_21 (jj_u2 (jj_u2 (jj_u2 (hc_15 (jj_u2 (jj_u2 (hc_13 (hc_12 (hc_7 (hc_1 hz_)))) 0 0 1) 0 1 1)) 0 2 1) 0 3 1) 0 4 1)) 0 5 1)) 0 6 1)), gz_) 102 [(0, .ref 0), (1, .ref 1), (2, .ref 7), (3, .ref 12)] [.ref 30, .ref 0] Q
  refine cr_putF (.object "DayLaces$Kneeling") dX9_init_102 fX9_63 pn9_7 (fun _ => ⟨rfl, rfl⟩) rfl (by decide) th_0 rfl (by decide) hf (fun hf => ?_)
  refine rr_aload_n 0 rfl rfl dX9_init_105 ?_
  refine rr_new (ci := 1) (N := 5) (C := RX1) (T := TX1) (kc2 := 14) (ks2 := 4474) dX9_init_106 nw_X9_67 rfl th_34 (by decide +kernel) (by decide) rfl ⟨by decide, by decide⟩ hf (by simp [jj_rk]) (by simp [jj_rk]) (fun hf => ?_)
  refine rr_dup rfl dX9_init_109 ?_
  refine rr_callI (As := []) (rest := [.ref 34, .ref 0]) (kc2 := 3) (ks2 := 2348) dX9_init_110 okX1_init rfl (Or.inr ⟨_, nl_X9_69⟩) rfl (Nat.le_of_ble_eq_true rfl) (Nat.le_of_ble_eq_true rfl) rfl ⟨by decide, by decide⟩ (by simp [jj_rk]) (by simp [jj_rk]) ?_
  refine ct_34 hf (fun hf => ?_)
  show jj_R mX9_init _ 11 2126 (jj_T, 38, (hc_34 (jj_u2 (hc_30 (jj_u2 (hc_25 (jj_u2 (hc_21 (jj_u2 (jj_u2 (jj_u2 (hc_15 (jj_u2 (jj_u2 (hc_13 (hc_12 (hc_7 (hc_1 hz_)))) 0 0 1) 0 1 1)) 0 2 1) 0 3 1) 0 4 1)) 0 5 1)) 0 6 1)) 0 7 1)), gz_) 113 [(0, .ref 0), (1, .ref 1), (2, .ref 7), (3, .ref 12)] [.ref 34, .ref 0] Q
  refine cr_putF (.object "DayLaces$History") dX9_init_113 fX9_70 pn9_8 (fun _ => ⟨rfl, rfl⟩) rfl (by decide) th_0 rfl (by decide) hf (fun hf => ?_)
  refine rr_new (ci := 6) (N := 7) (C := RX6) (T := TX6) (kc2 := 10) (ks2 := 2119) dX9_init_116 nw_X9_74 rfl th_38 (by decide +kernel) (by decide) rfl ⟨by decide, by decide⟩ hf (by simp [jj_rk]) (by simp [jj_rk]) (fun hf => ?_)
  refine rr_dup rfl dX9_init_119 ?_
  refine rr_callI (As := []) (rest := [.ref 38]) (kc2 := 4) (ks2 := 32) dX9_init_120 okX6_init rfl (Or.inr ⟨_, nl_X9_76⟩) rfl (Nat.le_of_ble_eq_true rfl) (Nat.le_of_ble_eq_true rfl) rfl ⟨by decide, by decide⟩ (by simp [jj_rk]) (by simp [jj_rk]) ?_
  refine ct_38 hf (fun hf => ?_)
  show jj_R mX9_init _ 6 2087 (jj_T, 43, (hc_38 (jj_u2 (hc_34 (jj_u2 (hc_30 (jj_u2 (hc_25 (jj_u2 (hc_21 (jj_u2 (jj_u2 (jj_u2 (hc_15 (jj_u2 (jj_u2 (hc_13 (hc_12 (hc_7 (hc_1 hz_)))) 0 0 1) 0 1 1)) 0 2 1) 0 3 1) 0 4 1)) 0 5 1)) 0 6 1)) 0 7 1)) 0 8 1)), gz_) 123 [(0, .ref 0), (1, .ref 1), (2, .ref 7), (3, .ref 12)] [.ref 38] Q
  refine rr_astore [(0, .ref 0), (1, .ref 1), (2, .ref 7), (3, .ref 12), (4, .ref 38)] dX9_init_123 (by decide) rfl ?_
  refine rr_aload 4 rfl dX9_init_125 ?_
  refine rr_callV (As := []) (rest := []) (kc2 := 0) (ks2 := 0) dX9_init_127 okX6_begin lX9_77 (by decide) th_38 rfl rfl (Nat.le_of_ble_eq_true rfl) (Nat.le_of_ble_eq_true rfl) rfl ⟨by decide, by decide⟩ (by simp [jj_rk]) (by simp [jj_rk]) ?_
  refine ct_begin hf rfl rfl rfl rfl rfl rfl rfl (fun _ => rfl) (fun _ => rfl) (fun _ => rfl) (fun hf => ?_)
  show jj_R mX9_init _ 6 2087 (jj_T, 43, (jj_mi 42 0 8 (hc_38 (jj_u2 (hc_34 (jj_u2 (hc_30 (jj_u2 (hc_25 (jj_u2 (hc_21 (jj_u2 (jj_u2 (jj_u2 (hc_15 (jj_u2 (jj_u2 (hc_13 (hc_12 (hc_7 (hc_1 hz_)))) 0 0 1) 0 1 1)) 0 2 1) 0 3 1) 0 4 1)) 0 5 1)) 0 6 1)) 0 7 1)) 0 8 1))), gz_) 130 [(0, .ref 0), (1, .ref 1), (2, .ref 7), (3, .ref 12), (4, .ref 38)] [] Q
  refine rr_aload_n 0 rfl rfl dX9_init_130 ?_
  refine rr_aload 4 rfl dX9_init_131 ?_
  refine cr_putF (.object "DayLaces$State") dX9_init_133 fX9_80 pn9_9 (fun _ => ⟨rfl, rfl⟩) rfl (by decide) th_0 rfl (by decide) hf (fun hf => ?_)
  refine rr_aload_n 0 rfl rfl dX9_init_136 ?_
  refine rr_new (ci := 6) (N := 7) (C := RX6) (T := TX6) (kc2 := 5) (ks2 := 2080) dX9_init_137 nw_X9_74 rfl th_43 (by decide +kernel) (by decide) rfl ⟨by decide, by decide⟩ hf (by simp [jj_rk]) (by simp [jj_rk]) (fun hf => ?_)
  refine rr_dup rfl dX9_init_140 ?_
  refine rr_callI (As := []) (rest := [.ref 43, .ref 0]) (kc2 := 4) (ks2 := 32) dX9_init_141 okX6_init rfl (Or.inr ⟨_, nl_X9_76⟩) rfl (Nat.le_of_ble_eq_true rfl) (Nat.le_of_ble_eq_true rfl) rfl ⟨by decide, by decide⟩ (by simp [jj_rk]) (by simp [jj_rk]) ?_
  refine ct_43 hf (fun hf => ?_)
  show jj_R mX9_init _ 1 2048 (jj_T, 48, (hc_43 (jj_u2 (jj_mi 42 0 8 (hc_38 (jj_u2 (hc_34 (jj_u2 (hc_30 (jj_u2 (hc_25 (jj_u2 (hc_21 (jj_u2 (jj_u2 (jj_u2 (hc_15 (jj_u2 (jj_u2 (hc_13 (hc_12 (hc_7 (hc_1 hz_)))) 0 0 1) 0 1 1)) 0 2 1) 0 3 1) 0 4 1)) 0 5 1)) 0 6 1)) 0 7 1)) 0 8 1))) 0 9 1)), gz_) 144 [(0, .ref 0), (1, .ref 1), (2, .ref 7), (3, .ref 12), (4, .ref 38)] [.ref 43, .ref 0] Q
  refine cr_putF (.object "DayLaces$State") dX9_init_144 fX9_84 pn9_10 (fun _ => ⟨rfl, rfl⟩) rfl (by decide) th_0 rfl (by decide) hf (fun hf => ?_)
  refine rr_aload_n 0 rfl rfl dX9_init_147 ?_
  refine rr_sipush 2048 rfl dX9_init_148 ?_
  refine rr_newI (len := 2048) (kc2 := 0) (ks2 := 0) dX9_init_151 th_48 ⟨by decide, by decide⟩ (Nat.le_of_ble_eq_true rfl) (by decide) rfl ⟨by decide, by decide⟩ hf (by simp [jj_rk]) (by simp [jj_rk]) (fun hf => ?_)
  refine cr_putF (.array .int) dX9_init_153 fX9_87 pn9_11 (fun _ => ⟨rfl, rfl⟩) rfl (by decide) th_0 rfl (by decide) hf (fun hf => ?_)
  refine rr_return dX9_init_156 rfl ?_
  exact kq hf
def hB_ : Nat → Nat → Int32 := (jj_mi 497 24 8 (jj_u2 (jj_u2 (jj_u2 (jj_u2 (jj_u2 (jj_u2 (jj_u2 (jj_u2 (jj_u2 (jj_u2 (jj_u2 (jj_u2 (jj_u2 (jj_u2 (jj_u2 (jj_u2 (jj_u2 (jj_u2 (jj_u2 (jj_u2 (jj_u2 (jj_u2 (jj_u2 (jj_u2 (jj_u2 (jj_u2 (jj_u2 hA_ 49 3 (-1)) 49 9 1) 49 10 1) 49 11 1) 49 12 1) 49 13 1) 49 14 1) 49 15 1) 49 16 1) 49 19 1) 49 20 1) 49 21 1) 49 22 1) 49 23 1) 49 24 1) 49 25 1) 49 27 1) 49 28 1) 49 29 1) 49 30 1) 49 38 1) 49 39 1) 49 40 1) 49 43 1) 49 44 1) 52 1 20) 53 1 20))
set_option maxHeartbeats 4000000 in
theorem ct_49 {d : Nat} {Q : jj_Rs → jj_St → Prop} (hf : jj_fr jj_T 50 hA_ gz_) (kq : jj_fr jj_T 781 hB_ gz_ → Q (.inl none) (jj_T, 781, hB_, gz_)) : jj_R mX10_init (d + 3) 731 8049 (jj_T, 50, hA_, gz_) 0 [(0, .ref 49)] [] Q := by
  refine rr_aload_n 0 rfl rfl dX10_init_0 ?_
  refine rr_objInit dX10_init_1 ol_X10_1 ow_ (Nat.le_of_ble_eq_true rfl) ?_
  refine rr_aload_n 0 rfl rfl dX10_init_4 ?_
  refine rr_iconst (-1) rfl dX10_init_5 ?_
  refine cr_putI dX10_init_6 fX10_9 ni10_3 (by decide) th_49 rfl hf (fun hf => ?_)
  refine rr_aload_n 0 rfl rfl dX10_init_9 ?_
  refine rr_sipush 600 rfl dX10_init_10 ?_
  refine rr_newI (len := 600) (kc2 := 730) (ks2 := 7449) dX10_init_13 th_50 ⟨by decide, by decide⟩ (Nat.le_of_ble_eq_true rfl) (by decide) rfl ⟨by decide, by decide⟩ hf (by simp [jj_rk]) (by simp [jj_rk]) (fun hf => ?_)
  refine cr_putF (.array .int) dX10_init_15 fX10_13 pn10_9 (fun _ => ⟨rfl, rfl⟩) rfl (by decide) th_49 rfl (by decide) hf (fun hf => ?_)
  refine rr_aload_n 0 rfl rfl dX10_init_18 ?_
  refine rr_iconst 2 rfl dX10_init_19 ?_
  refine rr_newI (len := 2) (kc2 := 729) (ks2 := 7447) dX10_init_20 th_51 ⟨by decide, by decide⟩ (Nat.le_of_ble_eq_true rfl) (by decide) rfl ⟨by decide, by decide⟩ hf (by simp [jj_rk]) (by simp [jj_rk]) (fun hf => ?_)
  refine cr_putF (.array .int) dX10_init_22 fX10_17 pn10_10 (fun _ => ⟨rfl, rfl⟩) rfl (by decide) th_49 rfl (by decide) hf (fun hf => ?_)
  refine rr_aload_n 0 rfl rfl dX10_init_25 ?_
  refine rr_iconst 2 rfl dX10_init_26 ?_
  refine rr_newI (len := 2) (kc2 := 728) (ks2 := 7445) dX10_init_27 th_52 ⟨by decide, by decide⟩ (Nat.le_of_ble_eq_true rfl) (by decide) rfl ⟨by decide, by decide⟩ hf (by simp [jj_rk]) (by simp [jj_rk]) (fun hf => ?_)
  refine cr_putF (.array .int) dX10_init_29 fX10_20 pn10_11 (fun _ => ⟨rfl, rfl⟩) rfl (by decide) th_49 rfl (by decide) hf (fun hf => ?_)
  refine rr_aload_n 0 rfl rfl dX10_init_32 ?_
  refine rr_iconst 2 rfl dX10_init_33 ?_
  refine rr_newI (len := 2) (kc2 := 727) (ks2 := 7443) dX10_init_34 th_53 ⟨by decide, by decide⟩ (Nat.le_of_ble_eq_true rfl) (by decide) rfl ⟨by decide, by decide⟩ hf (by simp [jj_rk]) (by simp [jj_rk]) (fun hf => ?_)
  refine cr_putF (.array .int) dX10_init_36 fX10_23 pn10_12 (fun _ => ⟨rfl, rfl⟩) rfl (by decide) th_49 rfl (by decide) hf (fun hf => ?_)
  refine rr_aload_n 0 rfl rfl dX10_init_39 ?_
  refine rr_bipush 8 rfl dX10_init_40 ?_
  refine rr_iconst 4 rfl dX10_init_42 ?_
  refine rr_newM (N := 8) (K := 4) (kc2 := 718) (ks2 := 7403) dX10_init_43 mw_X10_26 th_54 (fun i hi => tr_54 hi) ⟨by decide, by decide⟩ ⟨by decide, by decide⟩ ⟨Nat.le_of_ble_eq_true rfl, Nat.le_of_ble_eq_true rfl⟩ (by decide) rfl ⟨by decide, by decide⟩ hf (by simp [jj_rk]) (by simp [jj_rk]) (fun hf => ?_)
  refine cr_putF (.array (.array .int)) dX10_init_47 fX10_28 pn10_13 (fun _ => ⟨rfl, rfl⟩) rfl (by decide) th_49 rfl (by decide) hf (fun hf => ?_)
  refine rr_aload_n 0 rfl rfl dX10_init_50 ?_
  refine rr_bipush 8 rfl dX10_init_51 ?_
  refine rr_iconst 4 rfl dX10_init_53 ?_
  refine rr_newM (N := 8) (K := 4) (kc2 := 709) (ks2 := 7363) dX10_init_54 mw_X10_26 th_63 (fun i hi => tr_63 hi) ⟨by decide, by decide⟩ ⟨by decide, by decide⟩ ⟨Nat.le_of_ble_eq_true rfl, Nat.le_of_ble_eq_true rfl⟩ (by decide) rfl ⟨by decide, by decide⟩ hf (by simp [jj_rk]) (by simp [jj_rk]) (fun hf => ?_)
  refine cr_putF (.array (.array .int)) dX10_init_58 fX10_31 pn10_14 (fun _ => ⟨rfl, rfl⟩) rfl (by decide) th_49 rfl (by decide) hf (fun hf => ?_)
  refine rr_aload_n 0 rfl rfl dX10_init_61 ?_
  refine rr_bipush 8 rfl dX10_init_62 ?_
  refine rr_newI (len := 8) (kc2 := 708) (ks2 := 7355) dX10_init_64 th_72 ⟨by decide, by decide⟩ (Nat.le_of_ble_eq_true rfl) (by decide) rfl ⟨by decide, by decide⟩ hf (by simp [jj_rk]) (by simp [jj_rk]) (fun hf => ?_)
  refine cr_putF (.array .int) dX10_init_66 fX10_34 pn10_15 (fun _ => ⟨rfl, rfl⟩) rfl (by decide) th_49 rfl (by decide) hf (fun hf => ?_)
  refine rr_aload_n 0 rfl rfl dX10_init_69 ?_
  refine rr_bipush 8 rfl dX10_init_70 ?_
  refine rr_newI (len := 8) (kc2 := 707) (ks2 := 7347) dX10_init_72 th_73 ⟨by decide, by decide⟩ (Nat.le_of_ble_eq_true rfl) (by decide) rfl ⟨by decide, by decide⟩ hf (by simp [jj_rk]) (by simp [jj_rk]) (fun hf => ?_)
  refine cr_putF (.array .int) dX10_init_74 fX10_37 pn10_16 (fun _ => ⟨rfl, rfl⟩) rfl (by decide) th_49 rfl (by decide) hf (fun hf => ?_)
  refine rr_aload_n 0 rfl rfl dX10_init_77 ?_
  refine rr_sipush 160 rfl dX10_init_78 ?_
  refine rr_iconst 2 rfl dX10_init_81 ?_
  refine rr_newM (N := 160) (K := 2) (kc2 := 546) (ks2 := 6867) dX10_init_82 mw_X10_26 th_74 (fun i hi => tr_74 hi) ⟨by decide, by decide⟩ ⟨by decide, by decide⟩ ⟨Nat.le_of_ble_eq_true rfl, Nat.le_of_ble_eq_true rfl⟩ (by decide) rfl ⟨by decide, by decide⟩ hf (by simp [jj_rk]) (by simp [jj_rk]) (fun hf => ?_)
  refine cr_putF (.array (.array .int)) dX10_init_86 fX10_40 pn10_19 (fun _ => ⟨rfl, rfl⟩) rfl (by decide) th_49 rfl (by decide) hf (fun hf => ?_)
  refine rr_aload_n 0 rfl rfl dX10_init_89 ?_
  refine rr_sipush 160 rfl dX10_init_90 ?_
  refine rr_iconst 2 rfl dX10_init_93 ?_
  refine rr_newM (N := 160) (K := 2) (kc2 := 385) (ks2 := 6387) dX10_init_94 mw_X10_26 th_235 (fun i hi => tr_235 hi) ⟨by decide, by decide⟩ ⟨by decide, by decide⟩ ⟨Nat.le_of_ble_eq_true rfl, Nat.le_of_ble_eq_true rfl⟩ (by decide) rfl ⟨by decide, by decide⟩ hf (by simp [jj_rk]) (by simp [jj_rk]) (fun hf => ?_)
  refine cr_putF (.array (.array .int)) dX10_init_98 fX10_43 pn10_20 (fun _ => ⟨rfl, rfl⟩) rfl (by decide) th_49 rfl (by decide) hf (fun hf => ?_)
  refine rr_aload_n 0 rfl rfl dX10_init_101 ?_
  refine rr_bipush 8 rfl dX10_init_102 ?_
  refine rr_iconst 2 rfl dX10_init_104 ?_
  refine rr_newM (N := 8) (K := 2) (kc2 := 376) (ks2 := 6363) dX10_init_105 mw_X10_26 th_396 (fun i hi => tr_396 hi) ⟨by decide, by decide⟩ ⟨by decide, by decide⟩ ⟨Nat.le_of_ble_eq_true rfl, Nat.le_of_ble_eq_true rfl⟩ (by decide) rfl ⟨by decide, by decide⟩ hf (by simp [jj_rk]) (by simp [jj_rk]) (fun hf => ?_)
  refine cr_putF (.array (.array .int)) dX10_init_109 fX10_46 pn10_21 (fun _ => ⟨rfl, rfl⟩) rfl (by decide) th_49 rfl (by decide) hf (fun hf => ?_)
  refine rr_aload_n 0 rfl rfl dX10_init_112 ?_
  refine rr_bipush 8 rfl dX10_init_113 ?_
  refine rr_iconst 2 rfl dX10_init_115 ?_
  refine rr_newM (N := 8) (K := 2) (kc2 := 367) (ks2 := 6339) dX10_init_116 mw_X10_26 th_405 (fun i hi => tr_405 hi) ⟨by decide, by decide⟩ ⟨by decide, by decide⟩ ⟨Nat.le_of_ble_eq_true rfl, Nat.le_of_ble_eq_true rfl⟩ (by decide) rfl ⟨by decide, by decide⟩ hf (by simp [jj_rk]) (by simp [jj_rk]) (fun hf => ?_)
  refine cr_putF (.array (.array .int)) dX10_init_120 fX10_49 pn10_22 (fun _ => ⟨rfl, rfl⟩) rfl (by decide) th_49 rfl (by decide) hf (fun hf => ?_)
  refine rr_aload_n 0 rfl rfl dX10_init_123 ?_
  refine rr_sipush 160 rfl dX10_init_124 ?_
  refine rr_newI (len := 160) (kc2 := 366) (ks2 := 6179) dX10_init_127 th_414 ⟨by decide, by decide⟩ (Nat.le_of_ble_eq_true rfl) (by decide) rfl ⟨by decide, by decide⟩ hf (by simp [jj_rk]) (by simp [jj_rk]) (fun hf => ?_)
  refine cr_putF (.array .int) dX10_init_129 fX10_52 pn10_23 (fun _ => ⟨rfl, rfl⟩) rfl (by decide) th_49 rfl (by decide) hf (fun hf => ?_)
  refine rr_aload_n 0 rfl rfl dX10_init_132 ?_
  refine rr_bipush 8 rfl dX10_init_133 ?_
  refine rr_newI (len := 8) (kc2 := 365) (ks2 := 6171) dX10_init_135 th_415 ⟨by decide, by decide⟩ (Nat.le_of_ble_eq_true rfl) (by decide) rfl ⟨by decide, by decide⟩ hf (by simp [jj_rk]) (by simp [jj_rk]) (fun hf => ?_)
  refine cr_putF (.array .int) dX10_init_137 fX10_55 pn10_24 (fun _ => ⟨rfl, rfl⟩) rfl (by decide) th_49 rfl (by decide) hf (fun hf => ?_)
  refine rr_aload_n 0 rfl rfl dX10_init_140 ?_
  refine rr_bipush 80 rfl dX10_init_141 ?_
  refine rr_iconst 4 rfl dX10_init_143 ?_
  refine rr_newM (N := 80) (K := 4) (kc2 := 284) (ks2 := 5771) dX10_init_144 mw_X10_26 th_416 (fun i hi => tr_416 hi) ⟨by decide, by decide⟩ ⟨by decide, by decide⟩ ⟨Nat.le_of_ble_eq_true rfl, Nat.le_of_ble_eq_true rfl⟩ (by decide) rfl ⟨by decide, by decide⟩ hf (by simp [jj_rk]) (by simp [jj_rk]) (fun hf => ?_)
  refine cr_putF (.array (.array .int)) dX10_init_148 fX10_58 pn10_25 (fun _ => ⟨rfl, rfl⟩) rfl (by decide) th_49 rfl (by decide) hf (fun hf => ?_)
  refine rr_aload_n 0 rfl rfl dX10_init_151 ?_
  refine rr_bipush 35 rfl dX10_init_152 ?_
  refine rr_newI (len := 35) (kc2 := 283) (ks2 := 5736) dX10_init_154 th_497 ⟨by decide, by decide⟩ (Nat.le_of_ble_eq_true rfl) (by decide) rfl ⟨by decide, by decide⟩ hf (by simp [jj_rk]) (by simp [jj_rk]) (fun hf => ?_)
  refine cr_putF (.array .int) dX10_init_156 fX10_61 pn10_27 (fun _ => ⟨rfl, rfl⟩) rfl (by decide) th_49 rfl (by decide) hf (fun hf => ?_)
  refine rr_aload_n 0 rfl rfl dX10_init_159 ?_
  refine rr_bipush 35 rfl dX10_init_160 ?_
  refine rr_newI (len := 35) (kc2 := 282) (ks2 := 5701) dX10_init_162 th_498 ⟨by decide, by decide⟩ (Nat.le_of_ble_eq_true rfl) (by decide) rfl ⟨by decide, by decide⟩ hf (by simp [jj_rk]) (by simp [jj_rk]) (fun hf => ?_)
  refine cr_putF (.array .int) dX10_init_164 fX10_64 pn10_28 (fun _ => ⟨rfl, rfl⟩) rfl (by decide) th_49 rfl (by decide) hf (fun hf => ?_)
  refine rr_aload_n 0 rfl rfl dX10_init_167 ?_
  refine rr_bipush 16 rfl dX10_init_168 ?_
  refine rr_bipush 35 rfl dX10_init_170 ?_
  refine rr_newM (N := 16) (K := 35) (kc2 := 265) (ks2 := 5125) dX10_init_172 mw_X10_26 th_499 (fun i hi => tr_499 hi) ⟨by decide, by decide⟩ ⟨by decide, by decide⟩ ⟨Nat.le_of_ble_eq_true rfl, Nat.le_of_ble_eq_true rfl⟩ (by decide) rfl ⟨by decide, by decide⟩ hf (by simp [jj_rk]) (by simp [jj_rk]) (fun hf => ?_)
  refine cr_putF (.array (.array .int)) dX10_init_176 fX10_67 pn10_29 (fun _ => ⟨rfl, rfl⟩) rfl (by decide) th_49 rfl (by decide) hf (fun hf => ?_)
  refine rr_aload_n 0 rfl rfl dX10_init_179 ?_
  refine rr_iconst 3 rfl dX10_init_180 ?_
  refine rr_sipush 596 rfl dX10_init_181 ?_
  refine rr_newM (N := 3) (K := 596) (kc2 := 261) (ks2 := 3334) dX10_init_184 mw_X10_26 th_516 (fun i hi => tr_516 hi) ⟨by decide, by decide⟩ ⟨by decide, by decide⟩ ⟨Nat.le_of_ble_eq_true rfl, Nat.le_of_ble_eq_true rfl⟩ (by decide) rfl ⟨by decide, by decide⟩ hf (by simp [jj_rk]) (by simp [jj_rk]) (fun hf => ?_)
  refine cr_putF (.array (.array .int)) dX10_init_188 fX10_70 pn10_30 (fun _ => ⟨rfl, rfl⟩) rfl (by decide) th_49 rfl (by decide) hf (fun hf => ?_)
  refine rr_aload_n 0 rfl rfl dX10_init_191 ?_
  refine rr_sipush 256 rfl dX10_init_192 ?_
  refine rr_bipush 8 rfl dX10_init_195 ?_
  refine rr_newM (N := 256) (K := 8) (kc2 := 4) (ks2 := 1030) dX10_init_197 mw_X10_26 th_520 (fun i hi => tr_520 hi) ⟨by decide, by decide⟩ ⟨by decide, by decide⟩ ⟨Nat.le_of_ble_eq_true rfl, Nat.le_of_ble_eq_true rfl⟩ (by decide) rfl ⟨by decide, by decide⟩ hf (by simp [jj_rk]) (by simp [jj_rk]) (fun hf => ?_)
  refine cr_putF (.array (.array .int)) dX10_init_201 fX10_73 pn10_38 (fun _ => ⟨rfl, rfl⟩) rfl (by decide) th_49 rfl (by decide) hf (fun hf => ?_)
  refine rr_aload_n 0 rfl rfl dX10_init_204 ?_
  refine rr_bipush 8 rfl dX10_init_205 ?_
  refine rr_newI (len := 8) (kc2 := 3) (ks2 := 1022) dX10_init_207 th_777 ⟨by decide, by decide⟩ (Nat.le_of_ble_eq_true rfl) (by decide) rfl ⟨by decide, by decide⟩ hf (by simp [jj_rk]) (by simp [jj_rk]) (fun hf => ?_)
  refine cr_putF (.array .int) dX10_init_209 fX10_76 pn10_39 (fun _ => ⟨rfl, rfl⟩) rfl (by decide) th_49 rfl (by decide) hf (fun hf => ?_)
  refine rr_aload_n 0 rfl rfl dX10_init_212 ?_
  refine rr_bipush 8 rfl dX10_init_213 ?_
  refine rr_newI (len := 8) (kc2 := 2) (ks2 := 1014) dX10_init_215 th_778 ⟨by decide, by decide⟩ (Nat.le_of_ble_eq_true rfl) (by decide) rfl ⟨by decide, by decide⟩ hf (by simp [jj_rk]) (by simp [jj_rk]) (fun hf => ?_)
  refine cr_putF (.array .int) dX10_init_217 fX10_79 pn10_40 (fun _ => ⟨rfl, rfl⟩) rfl (by decide) th_49 rfl (by decide) hf (fun hf => ?_)
  refine rr_aload_n 0 rfl rfl dX10_init_220 ?_
  refine rr_sipush 1000 rfl dX10_init_221 ?_
  refine rr_newI (len := 1000) (kc2 := 1) (ks2 := 14) dX10_init_224 th_779 ⟨by decide, by decide⟩ (Nat.le_of_ble_eq_true rfl) (by decide) rfl ⟨by decide, by decide⟩ hf (by simp [jj_rk]) (by simp [jj_rk]) (fun hf => ?_)
  refine cr_putF (.array .int) dX10_init_226 fX10_82 pn10_43 (fun _ => ⟨rfl, rfl⟩) rfl (by decide) th_49 rfl (by decide) hf (fun hf => ?_)
  refine rr_aload_n 0 rfl rfl dX10_init_229 ?_
  refine rr_bipush 14 rfl dX10_init_230 ?_
  refine rr_newL (len := 14) (kc2 := 0) (ks2 := 0) dX10_init_232 th_780 ⟨by decide, by decide⟩ (Nat.le_of_ble_eq_true rfl) (by decide) rfl ⟨by decide, by decide⟩ hf (by simp [jj_rk]) (by simp [jj_rk]) (fun hf => ?_)
  refine cr_putF (.array .long) dX10_init_234 fX10_85 pn10_44 (fun _ => ⟨rfl, rfl⟩) rfl (by decide) th_49 rfl (by decide) hf (fun hf => ?_)
  refine rr_aload_n 0 rfl rfl dX10_init_237 ?_
  refine rr_callV (As := []) (rest := []) (kc2 := 0) (ks2 := 0) dX10_init_238 okX10_tellsNothing lX10_89 (by decide) th_49 rfl rfl (Nat.le_of_ble_eq_true rfl) (Nat.le_of_ble_eq_true rfl) rfl ⟨by decide, by decide⟩ (by simp [jj_rk]) (by simp [jj_rk]) ?_
  refine ct_tells hf rfl rfl rfl (fun _ => rfl) (fun hf => ?_)
  show jj_R mX10_init _ 0 0 (jj_T, 781, (jj_u2 (jj_u2 (jj_u2 (jj_u2 (jj_u2 (jj_u2 (jj_u2 (jj_u2 (jj_u2 (jj_u2 (jj_u2 (jj_u2 (jj_u2 (jj_u2 (jj_u2 (jj_u2 (jj_u2 (jj_u2 (jj_u2 (jj_u2 (jj_u2 (jj_u2 (jj_u2 (jj_u2 (jj_u2 (jj_u2 hA_ 49 3 (-1)) 49 9 1) 49 10 1) 49 11 1) 49 12 1) 49 13 1) 49 14 1) 49 15 1) 49 16 1) 49 19 1) 49 20 1) 49 21 1) 49 22 1) 49 23 1) 49 24 1) 49 25 1) 49 27 1) 49 28 1) 49 29 1) 49 30 1) 49 38 1) 49 39 1) 49 40 1) 49 43 1) 49 44 1) 52 1 20), gz_) 241 [(0, .ref 49)] [] Q
  refine rr_aload_n 0 rfl rfl dX10_init_241 ?_
  refine rr_callV (As := []) (rest := []) (kc2 := 0) (ks2 := 0) dX10_init_242 okX10_beginsAnew lX10_92 (by decide) th_49 rfl rfl (Nat.le_of_ble_eq_true rfl) (Nat.le_of_ble_eq_true rfl) rfl ⟨by decide, by decide⟩ (by simp [jj_rk]) (by simp [jj_rk]) ?_
  refine ct_begins hf rfl rfl rfl rfl rfl rfl rfl rfl rfl rfl (fun _ => rfl) (fun _ => rfl) (fun _ => rfl) rfl rfl rfl rfl rfl (fun hf => ?_)
  show jj_R mX10_init _ 0 0 (jj_T, 781, (jj_mi 497 24 8 (jj_u2 (jj_u2 (jj_u2 (jj_u2 (jj_u2 (jj_u2 (jj_u2 (jj_u2 (jj_u2 (jj_u2 (jj_u2 (jj_u2 (jj_u2 (jj_u2 (jj_u2 (jj_u2 (jj_u2 (jj_u2 (jj_u2 (jj_u2 (jj_u2 (jj_u2 (jj_u2 (jj_u2 (jj_u2 (jj_u2 (jj_u2 hA_ 49 3 (-1)) 49 9 1) 49 10 1) 49 11 1) 49 12 1) 49 13 1) 49 14 1) 49 15 1) 49 16 1) 49 19 1) 49 20 1) 49 21 1) 49 22 1) 49 23 1) 49 24 1) 49 25 1) 49 27 1) 49 28 1) 49 29 1) 49 30 1) 49 38 1) 49 39 1) 49 40 1) 49 43 1) 49 44 1) 52 1 20) 53 1 20)), gz_) 245 [(0, .ref 49)] [] Q
  refine rr_return dX10_init_245 rfl ?_
  exact kq hf
set_option maxHeartbeats 4000000 in
theorem lw_open {d len : Nat} {xs : Nat → Int32} {Q : jj_Rs → jj_St → Prop} (kq : jj_R (mLw len xs) (d + 66) 2048 12288 (jj_T, 782, hB_, gz_) 23 [(0, .ref 999998), (1, .ref 0), (2, .ref 49), (3, .ref 781), (4, .int 0)] [] Q) : jj_R (mLw len xs) (d + 66) 2830 26357 (jj_T, 0, hz_, gz_) 0 [(0, .ref 999998)] [] Q := by
  have hf : jj_fr jj_T 0 hz_ gz_ := ⟨fun o ho => absurd ho (Nat.not_lt_zero o), fun _ _ _ => rfl, fun _ _ _ => rfl⟩
  refine rr_new (ci := 9) (N := 15) (C := RX9) (T := TX9) (kc2 := 2829) (ks2 := 26342) dL_law__0 nw_L_8 rfl th_0 (by decide +kernel) (by decide) rfl ⟨by decide, by decide⟩ hf (by simp [jj_rk]) (by simp [jj_rk]) (fun hf => ?_)
  refine rr_dup rfl dL_law__3 ?_
  refine rr_callI (As := []) (rest := [.ref 0]) (kc2 := 48) (ks2 := 5958) dL_law__4 okX9_init rfl (Or.inl lL_126) rfl (Nat.le_of_ble_eq_true rfl) (Nat.le_of_ble_eq_true rfl) rfl ⟨by decide, by decide⟩ (by simp [jj_rk]) (by simp [jj_rk]) ?_
  refine ct_0 hf (fun hf => ?_)
  show jj_R (mLw len xs) _ 2781 20384 (jj_T, 49, hA_, gz_) 7 [(0, .ref 999998)] [.ref 0] Q
  refine rr_astore_n [(0, .ref 999998), (1, .ref 0)] dL_law__7 rfl (show 1 < 8 by decide) rfl ?_
  refine rr_new (ci := 10) (N := 46) (C := RX10) (T := TX10) (kc2 := 2780) (ks2 := 20338) dL_law__8 nw_L_127 rfl th_49 (by decide +kernel) (by decide) rfl ⟨by decide, by decide⟩ hf (by simp [jj_rk]) (by simp [jj_rk]) (fun hf => ?_)
  refine rr_dup rfl dL_law__11 ?_
  refine rr_callI (As := []) (rest := [.ref 49]) (kc2 := 731) (ks2 := 8049) dL_law__12 okX10_init rfl (Or.inl lL_129) rfl (Nat.le_of_ble_eq_true rfl) (Nat.le_of_ble_eq_true rfl) rfl ⟨by decide, by decide⟩ (by simp [jj_rk]) (by simp [jj_rk]) ?_
  refine ct_49 hf (fun hf => ?_)
  show jj_R (mLw len xs) _ 2049 12289 (jj_T, 781, hB_, gz_) 15 [(0, .ref 999998), (1, .ref 0)] [.ref 49] Q
  refine rr_astore_n [(0, .ref 999998), (1, .ref 0), (2, .ref 49)] dL_law__15 rfl (show 2 < 8 by decide) rfl ?_
  refine rr_iconst 1 rfl dL_law__16 ?_
  refine rr_newL (len := 1) (kc2 := 2048) (ks2 := 12288) dL_law__17 th_781 ⟨by decide, by decide⟩ (Nat.le_of_ble_eq_true rfl) (by decide) rfl ⟨by decide, by decide⟩ hf (by simp [jj_rk]) (by simp [jj_rk]) (fun hf => ?_)
  refine rr_astore_n [(0, .ref 999998), (1, .ref 0), (2, .ref 49), (3, .ref 781)] dL_law__19 rfl (show 3 < 8 by decide) rfl ?_
  refine rr_iconst 0 rfl dL_law__20 ?_
  refine rr_istore [(0, .ref 999998), (1, .ref 0), (2, .ref 49), (3, .ref 781), (4, .int 0)] dL_law__21 (show 4 < 8 by decide) rfl ?_
  exact kq
