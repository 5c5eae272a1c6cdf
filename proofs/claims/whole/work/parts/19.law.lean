/-! ===== the class's LAW at work ===== -/
theorem jj_ge2 {t : Nat} (ht : t < 2 ^ 31) (c : ¬ nI t < 2) : 2 ≤ t := by
  rcases Nat.lt_or_ge t 2 with q | q
  · exact absurd (nI_lt (a := t) (b := 2) q (by decide)) c
  · exact q
theorem jj_m1 {t : Nat} (h : 1 ≤ t) : nI t + (-1) = nI (t - 1) := by
  obtain ⟨k, rfl⟩ : ∃ k, t = k + 1 := ⟨t - 1, by omega⟩
  rw [pk_m1]; rfl
theorem jj_m2 {t : Nat} (h : 2 ≤ t) : nI t + (-1) - 1 = nI (t - 2) := by
  rw [jj_m1 (by omega)]
  have e : nI (t - 1) - nI 1 = nI (t - 1 - 1) := pk_sub (by omega)
  exact e
/-- a step of the LAW over the values vs: the height, the row -/
def wo_st (vs : Nat → Int32) (c : Int32) (a : Nat × (Nat → Int32)) : Nat × (Nat → Int32) :=
  if c ≤ 2000 then (if 150 ≤ a.1 then a else (a.1 + 1, upd a.2 a.1 (if c < 1000 then c else vs ((c - 1000) &&& 7).toNatClampNeg)))
  else (if a.1 < 2 then a else (a.1 - 1, upd a.2 (a.1 - 2) (vX4_joined c (a.2 (a.1 - 2)) (a.2 (a.1 - 1)))))
def wo_run (cs vs s0 : Nat → Int32) (n : Nat) : Nat × (Nat → Int32) := jj_fo (fun k a => wo_st vs (cs k) a) n (0, s0)
def wo_clip (x : Int32) : Int32 := if 0 ≤ x then (if x ≤ 99 then x else 99) else 0
def vX4_worth (h : Nat → Nat → Int32) (n : Nat) : Int32 := wo_clip (if (wo_run (h 8) (h 10) (h 11) n).1 = 0 then vX4_worthWithoutLaw h else (wo_run (h 8) (h 10) (h 11) n).2 0)
theorem wo_le {vs : Nat → Int32} {c : Int32} {a : Nat × (Nat → Int32)} : (wo_st vs c a).1 ≤ a.1 + 1 := by
  unfold wo_st
  split
  · split
    · omega
    · exact Nat.le_refl _
  · split
    · omega
    · show a.1 - 1 ≤ a.1 + 1; omega
theorem wo_len {cs vs s0 : Nat → Int32} : ∀ n, (jj_fo (fun k a => wo_st vs (cs k) a) n (0, s0)).1 ≤ n
  | 0 => Nat.le_refl _
  | n + 1 => Nat.le_trans wo_le (Nat.succ_le_succ (wo_len n))

theorem jj_lt2 {t : Nat} (ht : t < 2 ^ 31) (c : nI t < 2) : t < 2 := by
  rcases Nat.lt_or_ge t 2 with q | q
  · exact q
  · exact absurd c (nI_nlt (a := t) (b := 2) q ht)
theorem jj_le0 {t : Nat} (ht : t < 2 ^ 31) (c : nI t ≤ 0) : t = 0 := by
  rcases Nat.eq_zero_or_pos t with q | q
  · exact q
  · exact absurd c (nI_nle q ht)
theorem jj_lt150b {t : Nat} (ht : t < 2 ^ 31) (c : ¬ (150 : Int32) ≤ nI t) : t < 150 := by
  rcases Nat.lt_or_ge t 150 with q | q
  · exact q
  · exact absurd (nI_le (a := 150) (b := t) q ht) c
theorem jj_ge150 {t : Nat} (ht : t < 2 ^ 31) (c : (150 : Int32) ≤ nI t) : 150 ≤ t := by
  rcases Nat.lt_or_ge t 150 with q | q
  · exact absurd c (nI_ge (a := t) (b := 150) q (by decide))
  · exact q
set_option maxHeartbeats 2000000 in
theorem sp_X4_worth {d kc ks : Nat} {h : Nat → Nat → Int32} {g : Nat → Nat → Int64} {Q : jj_Rs → jj_St → Prop} {n : Nat} (hm : h 7 1 = nI n) (hn : n ≤ 150) (kq : ∀ h9, jj_eq [11] h h9 → Q (.inl (some (.int (vX4_worth h n)))) (jj_S, 782, h9, g)) : jj_R mX4_worth (d + 2) kc ks (jj_S, 782, h, g) 0 [(0, .ref 7)] [] Q := by
  refine rr_iconst 0 rfl dX4_worth_0 ?_
  refine rr_istore_n [(0, .ref 7), (1, .int 0)] dX4_worth_1 rfl (by decide) rfl ?_
  refine rr_iconst 0 rfl dX4_worth_2 ?_
  refine rr_istore_n [(0, .ref 7), (1, .int 0), (2, .int 0)] dX4_worth_3 rfl (by decide) rfl ?_
  refine jj_for (fun k (a : Nat × (Nat → Int32)) => ∀ hc, jj_eq [11] h hc → hc 11 = a.2 → a.1 ≤ k → jj_R _ _ kc ks (jj_S, 782, hc, g) 4 [(0, .ref 7), (1, .int (nI a.1)), (2, .int (nI k))] [] Q) (fun k a => wo_st (h 10) (h 8 k) a) n (0, h 11) ?_ ?_ h jj_eq.rf rfl (Nat.le_refl _)
  · intro k hk ih hc ec es hle
    generalize jj_fo _ k _ = a at ih es hle ⊢
    obtain ⟨t, s0⟩ := a
    try dsimp only at ih es hle ⊢
    refine rr_iload_n 2 rfl rfl dX4_worth_4 ?_
    refine rr_aload_n 0 rfl rfl dX4_worth_5 ?_
    refine rr_getI dX4_worth_6 fX4_24 lo_7 sh_7 rfl ?_
    refine rr_icmp_ge dX4_worth_9 (fun c => absurd c (by rw [show hc 7 = h 7 from ec 7 (by decide), hm]; exact nI_ge hk (by omega))) (fun _ => ?_)
    refine rr_iload_n 2 rfl rfl dX4_worth_12 ?_
    refine rr_aload_n 0 rfl rfl dX4_worth_13 ?_
    refine rr_getR dX4_worth_14 fX4_9 lo_7 sh_7 rfl ?_
    refine rr_alenI 150 dX4_worth_17 lo_8 sh_8 (by decide) rfl ?_
    refine rr_icmp_ge dX4_worth_18 (fun c => absurd c (nI_ge (a := k) (b := 150) (by omega) (by decide))) (fun _ => ?_)
    refine rr_aload_n 0 rfl rfl dX4_worth_21 ?_
    refine rr_getR dX4_worth_22 fX4_9 lo_7 sh_7 rfl ?_
    refine rr_iload_n 2 rfl rfl dX4_worth_25 ?_
    refine rr_iaload dX4_worth_26 lo_8 sh_8 (vp_in_nI (by omega) (by decide)) ?_
    refine rr_istore_n [(0, .ref 7), (1, .int (nI t)), (2, .int (nI k)), (3, .int (hc 8 ((nI k) : Int32).toNatClampNeg))] dX4_worth_27 rfl (by decide) rfl ?_
    refine rr_iload_n 3 rfl rfl dX4_worth_28 ?_
    refine rr_sipush 2000 rfl dX4_worth_29 ?_
    refine rr_icmp_le dX4_worth_32 (fun c1 => ?_) (fun c1 => ?_)
    · skip
      refine rr_iload_n 1 rfl rfl dX4_worth_72 ?_
      refine rr_aload_n 0 rfl rfl dX4_worth_73 ?_
      refine rr_getR dX4_worth_74 fX4_21 lo_7 sh_7 rfl ?_
      refine rr_alenI 150 dX4_worth_77 lo_11 sh_11 (by decide) rfl ?_
      refine rr_icmp_ge dX4_worth_78 (fun c2 => ?_) (fun c2 => ?_)
      · skip
        refine rr_iinc 2 1 [(0, .ref 7), (1, .int (nI t)), (2, .int ((nI k) + 1)), (3, .int (hc 8 ((nI k) : Int32).toNatClampNeg))] dX4_worth_114 rfl rfl (by decide) rfl ?_
        refine rr_goto dX4_worth_117 ?_
        try simp only [nI_1]
        refine rr_sub [(0, .ref 7), (1, .int (nI t)), (2, .int (nI (k + 1)))] [0, 1, 2] rfl ?_
        rw [show hc 8 = h 8 from ec 8 (by decide), nI_clamp (show k < 2 ^ 31 by omega)] at c1
        have q2 : 150 ≤ t := jj_ge150 (by omega) c2
        rw [show wo_st (h 10) (h 8 k) (t, s0) = (t, s0) from by simp only [wo_st, if_pos c1, if_pos q2]] at ih
        exact ih hc ec es (by omega)
      · skip
        refine rr_aload_n 0 rfl rfl dX4_worth_81 ?_
        refine rr_getR dX4_worth_82 fX4_21 lo_7 sh_7 rfl ?_
        refine rr_iload_n 1 rfl rfl dX4_worth_85 ?_
        refine rr_iload_n 3 rfl rfl dX4_worth_86 ?_
        refine rr_sipush 1000 rfl dX4_worth_87 ?_
        refine rr_icmp_lt dX4_worth_90 (fun c3 => ?_) (fun c3 => ?_)
        · skip
          refine rr_iload_n 3 rfl rfl dX4_worth_109 ?_
          refine rr_iastore dX4_worth_110 lo_11 sh_11 (vp_in_nI (jj_lt150b (by omega) c2) (by decide)) ?_
          refine rr_iinc 1 1 [(0, .ref 7), (1, .int ((nI t) + 1)), (2, .int (nI k)), (3, .int (hc 8 ((nI k) : Int32).toNatClampNeg))] dX4_worth_111 rfl rfl (by decide) rfl ?_
          refine rr_iinc 2 1 [(0, .ref 7), (1, .int ((nI t) + 1)), (2, .int ((nI k) + 1)), (3, .int (hc 8 ((nI k) : Int32).toNatClampNeg))] dX4_worth_114 rfl rfl (by decide) rfl ?_
          refine rr_goto dX4_worth_117 ?_
          try simp only [nI_1]
          refine rr_sub [(0, .ref 7), (1, .int (nI (t + 1))), (2, .int (nI (k + 1)))] [0, 1, 2] rfl ?_
          have q2 : ¬ 150 ≤ t := fun q => absurd (jj_lt150b (by omega) c2) (by omega)
          have c3b := c3
          rw [show hc 8 = h 8 from ec 8 (by decide), nI_clamp (show k < 2 ^ 31 by omega)] at c3b
          rw [show hc 8 = h 8 from ec 8 (by decide), nI_clamp (show k < 2 ^ 31 by omega)] at c1
          have e2 := ec.sw 11 t (hc 8 (nI k).toNatClampNeg) (by decide)
          rw [nI_clamp (show t < 2 ^ 31 by omega)]
          have e3 : jj_u2 hc 11 t (hc 8 (nI k).toNatClampNeg) 11 = upd s0 t (if h 8 k < 1000 then h 8 k else h 10 ((h 8 k - 1000) &&& 7).toNatClampNeg) := by
            rw [jj_u2_row, es, show hc 8 = h 8 from ec 8 (by decide), nI_clamp (show k < 2 ^ 31 by omega), if_pos c3b]
          rw [show wo_st (h 10) (h 8 k) (t, s0) = (t + 1, upd s0 t (if h 8 k < 1000 then h 8 k else h 10 ((h 8 k - 1000) &&& 7).toNatClampNeg)) from by simp only [wo_st, if_pos c1, if_neg q2]] at ih
          exact ih _ e2 e3 (by show t + 1 ≤ k + 1; omega)
        · skip
          refine rr_aload_n 0 rfl rfl dX4_worth_93 ?_
          refine rr_getR dX4_worth_94 fX4_18 lo_7 sh_7 rfl ?_
          refine rr_iload_n 3 rfl rfl dX4_worth_97 ?_
          refine rr_sipush 1000 rfl dX4_worth_98 ?_
          refine rr_isub dX4_worth_101 ?_
          refine rr_bipush 7 rfl dX4_worth_102 ?_
          refine rr_iand dX4_worth_104 ?_
          refine rr_iaload dX4_worth_105 lo_10 sh_10 (pk_andIn _ 3 rfl (by decide)) ?_
          refine rr_goto dX4_worth_106 ?_
          refine rr_iastore dX4_worth_110 lo_11 sh_11 (vp_in_nI (jj_lt150b (by omega) c2) (by decide)) ?_
          refine rr_iinc 1 1 [(0, .ref 7), (1, .int ((nI t) + 1)), (2, .int (nI k)), (3, .int (hc 8 ((nI k) : Int32).toNatClampNeg))] dX4_worth_111 rfl rfl (by decide) rfl ?_
          refine rr_iinc 2 1 [(0, .ref 7), (1, .int ((nI t) + 1)), (2, .int ((nI k) + 1)), (3, .int (hc 8 ((nI k) : Int32).toNatClampNeg))] dX4_worth_114 rfl rfl (by decide) rfl ?_
          refine rr_goto dX4_worth_117 ?_
          try simp only [nI_1]
          refine rr_sub [(0, .ref 7), (1, .int (nI (t + 1))), (2, .int (nI (k + 1)))] [0, 1, 2] rfl ?_
          have q2 : ¬ 150 ≤ t := fun q => absurd (jj_lt150b (by omega) c2) (by omega)
          have c3b := c3
          rw [show hc 8 = h 8 from ec 8 (by decide), nI_clamp (show k < 2 ^ 31 by omega)] at c3b
          rw [show hc 8 = h 8 from ec 8 (by decide), nI_clamp (show k < 2 ^ 31 by omega)] at c1
          have e2 := ec.sw 11 t (hc 10 ((hc 8 (nI k).toNatClampNeg - 1000) &&& 7).toNatClampNeg) (by decide)
          rw [nI_clamp (show t < 2 ^ 31 by omega)]
          have e3 : jj_u2 hc 11 t (hc 10 ((hc 8 (nI k).toNatClampNeg - 1000) &&& 7).toNatClampNeg) 11 = upd s0 t (if h 8 k < 1000 then h 8 k else h 10 ((h 8 k - 1000) &&& 7).toNatClampNeg) := by
            rw [jj_u2_row, es, show hc 8 = h 8 from ec 8 (by decide), nI_clamp (show k < 2 ^ 31 by omega), show hc 10 = h 10 from ec 10 (by decide), if_neg c3b]
          rw [show wo_st (h 10) (h 8 k) (t, s0) = (t + 1, upd s0 t (if h 8 k < 1000 then h 8 k else h 10 ((h 8 k - 1000) &&& 7).toNatClampNeg)) from by simp only [wo_st, if_pos c1, if_neg q2]] at ih
          exact ih _ e2 e3 (by show t + 1 ≤ k + 1; omega)
    · skip
      refine rr_iload_n 1 rfl rfl dX4_worth_35 ?_
      refine rr_iconst 2 rfl dX4_worth_36 ?_
      refine rr_icmp_lt dX4_worth_37 (fun c4 => ?_) (fun c4 => ?_)
      · skip
        refine rr_iinc 2 1 [(0, .ref 7), (1, .int (nI t)), (2, .int ((nI k) + 1)), (3, .int (hc 8 ((nI k) : Int32).toNatClampNeg))] dX4_worth_114 rfl rfl (by decide) rfl ?_
        refine rr_goto dX4_worth_117 ?_
        try simp only [nI_1]
        refine rr_sub [(0, .ref 7), (1, .int (nI t)), (2, .int (nI (k + 1)))] [0, 1, 2] rfl ?_
        rw [show hc 8 = h 8 from ec 8 (by decide), nI_clamp (show k < 2 ^ 31 by omega)] at c1
        have q2 : t < 2 := jj_lt2 (by omega) c4
        rw [show wo_st (h 10) (h 8 k) (t, s0) = (t, s0) from by simp only [wo_st, if_neg c1, if_pos q2]] at ih
        exact ih hc ec es (by omega)
      · skip
        refine rr_iinc 1 (-1) [(0, .ref 7), (1, .int ((nI t) + (-1))), (2, .int (nI k)), (3, .int (hc 8 ((nI k) : Int32).toNatClampNeg))] dX4_worth_40 rfl rfl (by decide) rfl ?_
        refine rr_aload_n 0 rfl rfl dX4_worth_43 ?_
        refine rr_getR dX4_worth_44 fX4_21 lo_7 sh_7 rfl ?_
        refine rr_iload_n 1 rfl rfl dX4_worth_47 ?_
        refine rr_iconst 1 rfl dX4_worth_48 ?_
        refine rr_isub dX4_worth_49 ?_
        refine rr_iload_n 3 rfl rfl dX4_worth_50 ?_
        refine rr_aload_n 0 rfl rfl dX4_worth_51 ?_
        refine rr_getR dX4_worth_52 fX4_21 lo_7 sh_7 rfl ?_
        refine rr_iload_n 1 rfl rfl dX4_worth_55 ?_
        refine rr_iconst 1 rfl dX4_worth_56 ?_
        refine rr_isub dX4_worth_57 ?_
        refine rr_iaload dX4_worth_58 lo_11 sh_11 (by have q := jj_ge2 (t := t) (by omega) c4; rw [jj_m2 q]; exact vp_in_nI (by omega) (by decide)) ?_
        refine rr_aload_n 0 rfl rfl dX4_worth_59 ?_
        refine rr_getR dX4_worth_60 fX4_21 lo_7 sh_7 rfl ?_
        refine rr_iload_n 1 rfl rfl dX4_worth_63 ?_
        refine rr_iaload dX4_worth_64 lo_11 sh_11 (by have q := jj_ge2 (t := t) (by omega) c4; rw [jj_m1 (by omega)]; exact vp_in_nI (by omega) (by decide)) ?_
        refine rr_callS (As := [.int (hc 8 ((nI k) : Int32).toNatClampNeg), .int (hc 11 ((((nI t) + (-1)) - 1) : Int32).toNatClampNeg), .int (hc 11 (((nI t) + (-1)) : Int32).toNatClampNeg)]) (rest := [.int (((nI t) + (-1)) - 1), .ref 11]) (kc2 := 0) (ks2 := 0) dX4_worth_65 okX4_joined lX4_28 rfl (Nat.le_of_ble_eq_true rfl) (Nat.le_of_ble_eq_true rfl) rfl (by omega) (by simp [jj_rk]) (by simp [jj_rk]) ?_
        refine sp_X4_joined  ?_
        show jj_R _ _ kc ks (jj_S, 782, hc, g) 68 [(0, .ref 7), (1, .int ((nI t) + (-1))), (2, .int (nI k)), (3, .int (hc 8 ((nI k) : Int32).toNatClampNeg))] [.int (vX4_joined (hc 8 ((nI k) : Int32).toNatClampNeg) (hc 11 ((((nI t) + (-1)) - 1) : Int32).toNatClampNeg) (hc 11 (((nI t) + (-1)) : Int32).toNatClampNeg)), .int (((nI t) + (-1)) - 1), .ref 11] Q
        refine rr_iastore dX4_worth_68 lo_11 sh_11 (by have q := jj_ge2 (t := t) (by omega) c4; rw [jj_m2 q]; exact vp_in_nI (by omega) (by decide)) ?_
        refine rr_goto dX4_worth_69 ?_
        refine rr_iinc 2 1 [(0, .ref 7), (1, .int ((nI t) + (-1))), (2, .int ((nI k) + 1)), (3, .int (hc 8 ((nI k) : Int32).toNatClampNeg))] dX4_worth_114 rfl rfl (by decide) rfl ?_
        refine rr_goto dX4_worth_117 ?_
        have q2 : 2 ≤ t := jj_ge2 (by omega) c4
        have q3 : ¬ t < 2 := by omega
        try simp only [nI_1]
        refine rr_sub [(0, .ref 7), (1, .int (nI (t - 1))), (2, .int (nI (k + 1)))] [0, 1, 2] (by rw [jj_m1 (by omega)]; rfl) ?_
        rw [show hc 8 = h 8 from ec 8 (by decide), nI_clamp (show k < 2 ^ 31 by omega)] at c1
        rw [jj_m2 q2, jj_m1 (show 1 ≤ t by omega), nI_clamp (show t - 1 < 2 ^ 31 by omega), nI_clamp (show t - 2 < 2 ^ 31 by omega), nI_clamp (show k < 2 ^ 31 by omega)]
        have e2 := ec.sw 11 (t - 2) (vX4_joined (hc 8 k) (hc 11 (t - 2)) (hc 11 (t - 1))) (by decide)
        have e3 : jj_u2 hc 11 (t - 2) (vX4_joined (hc 8 k) (hc 11 (t - 2)) (hc 11 (t - 1))) 11 = upd s0 (t - 2) (vX4_joined (h 8 k) (s0 (t - 2)) (s0 (t - 1))) := by
          rw [jj_u2_row, es, show hc 8 = h 8 from ec 8 (by decide)]
        rw [show wo_st (h 10) (h 8 k) (t, s0) = (t - 1, upd s0 (t - 2) (vX4_joined (h 8 k) (s0 (t - 2)) (s0 (t - 1)))) from by simp only [wo_st, if_neg c1, if_neg q3]] at ih
        exact ih _ e2 e3 (by show t - 1 ≤ k + 1; omega)
  · intro hc ec es hle
    have hv : vX4_worth h n = wo_clip (if (wo_run (h 8) (h 10) (h 11) n).1 = 0 then vX4_worthWithoutLaw h else (wo_run (h 8) (h 10) (h 11) n).2 0) := rfl
    rw [hv] at kq
    unfold wo_run at kq
    generalize jj_fo _ n _ = a at es hle kq ⊢
    obtain ⟨t, s0⟩ := a
    try dsimp only at es hle kq ⊢
    refine rr_iload_n 2 rfl rfl dX4_worth_4 ?_
    refine rr_aload_n 0 rfl rfl dX4_worth_5 ?_
    refine rr_getI dX4_worth_6 fX4_24 lo_7 sh_7 rfl ?_
    refine rr_icmp_ge dX4_worth_9 (fun _ => ?_) (fun c => absurd (by rw [show hc 7 = h 7 from ec 7 (by decide), hm]; exact jj_le_rf _) c)
    refine rr_sub [(0, .ref 7), (1, .int (nI t))] [0, 1] rfl ?_
    refine rr_iload_n 1 rfl rfl dX4_worth_120 ?_
    refine rr_if_le dX4_worth_121 (fun c5 => ?_) (fun c5 => ?_)
    · skip
      refine rr_aload_n 0 rfl rfl dX4_worth_133 ?_
      refine rr_callV (As := []) (rest := []) (kc2 := 0) (ks2 := 0) dX4_worth_134 okX4_worthWithoutLaw lX4_32 lo_7 sh_7 rfl rfl (Nat.le_of_ble_eq_true rfl) (Nat.le_of_ble_eq_true rfl) rfl (by omega) (by simp [jj_rk]) (by simp [jj_rk]) ?_
      refine sp_X4_worthWithoutLaw  ?_
      show jj_R _ _ kc ks (jj_S, 782, hc, g) 137 [(0, .ref 7), (1, .int (nI t))] [.int (vX4_worthWithoutLaw hc)] Q
      refine rr_istore_n [(0, .ref 7), (1, .int (nI t)), (2, .int (vX4_worthWithoutLaw hc))] dX4_worth_137 rfl (by decide) rfl ?_
      refine rr_iload_n 2 rfl rfl dX4_worth_138 ?_
      refine rr_if_ge dX4_worth_139 (fun c6 => ?_) (fun c6 => ?_)
      · skip
        refine rr_iload_n 2 rfl rfl dX4_worth_146 ?_
        refine rr_bipush 99 rfl dX4_worth_147 ?_
        refine rr_icmp_le dX4_worth_149 (fun c7 => ?_) (fun c7 => ?_)
        · skip
          refine rr_iload_n 2 rfl rfl dX4_worth_157 ?_
          refine rr_ireturn dX4_worth_158 rfl ?_
          have q0 : t = 0 := jj_le0 (by omega) c5
          rw [if_pos q0, ← vc_X4_worthWithoutLaw (h2 := hc) (ec 10 (by decide))] at kq
          simpa only [wo_clip, show Int32.toNatClampNeg 0 = 0 from rfl, if_pos c6, if_pos c7] using kq _ ec
        · skip
          refine rr_bipush 99 rfl dX4_worth_152 ?_
          refine rr_goto dX4_worth_154 ?_
          refine rr_ireturn dX4_worth_158 rfl ?_
          have q0 : t = 0 := jj_le0 (by omega) c5
          rw [if_pos q0, ← vc_X4_worthWithoutLaw (h2 := hc) (ec 10 (by decide))] at kq
          simpa only [wo_clip, show Int32.toNatClampNeg 0 = 0 from rfl, if_pos c6, if_neg c7] using kq _ ec
      · skip
        refine rr_iconst 0 rfl dX4_worth_142 ?_
        refine rr_goto dX4_worth_143 ?_
        refine rr_ireturn dX4_worth_158 rfl ?_
        have q0 : t = 0 := jj_le0 (by omega) c5
        rw [if_pos q0, ← vc_X4_worthWithoutLaw (h2 := hc) (ec 10 (by decide))] at kq
        simpa only [wo_clip, show Int32.toNatClampNeg 0 = 0 from rfl, if_neg c6] using kq _ ec
    · skip
      refine rr_aload_n 0 rfl rfl dX4_worth_124 ?_
      refine rr_getR dX4_worth_125 fX4_21 lo_7 sh_7 rfl ?_
      refine rr_iconst 0 rfl dX4_worth_128 ?_
      refine rr_iaload dX4_worth_129 lo_11 sh_11 (by first | assumption | exact vp_in_nI (by omega) (by decide) | decide | omega | exact jj_inL rfl) ?_
      refine rr_goto dX4_worth_130 ?_
      refine rr_istore_n [(0, .ref 7), (1, .int (nI t)), (2, .int (hc 11 (0 : Int32).toNatClampNeg))] dX4_worth_137 rfl (by decide) rfl ?_
      refine rr_iload_n 2 rfl rfl dX4_worth_138 ?_
      refine rr_if_ge dX4_worth_139 (fun c8 => ?_) (fun c8 => ?_)
      · skip
        refine rr_iload_n 2 rfl rfl dX4_worth_146 ?_
        refine rr_bipush 99 rfl dX4_worth_147 ?_
        refine rr_icmp_le dX4_worth_149 (fun c9 => ?_) (fun c9 => ?_)
        · skip
          refine rr_iload_n 2 rfl rfl dX4_worth_157 ?_
          refine rr_ireturn dX4_worth_158 rfl ?_
          have q0 : ¬ t = 0 := fun q => c5 (by rw [q]; decide)
          rw [if_neg q0, ← es] at kq
          try simp only [show Int32.toNatClampNeg 0 = 0 from rfl] at c8
          try simp only [show Int32.toNatClampNeg 0 = 0 from rfl] at c9
          simpa only [wo_clip, show Int32.toNatClampNeg 0 = 0 from rfl, if_pos c8, if_pos c9] using kq _ ec
        · skip
          refine rr_bipush 99 rfl dX4_worth_152 ?_
          refine rr_goto dX4_worth_154 ?_
          refine rr_ireturn dX4_worth_158 rfl ?_
          have q0 : ¬ t = 0 := fun q => c5 (by rw [q]; decide)
          rw [if_neg q0, ← es] at kq
          try simp only [show Int32.toNatClampNeg 0 = 0 from rfl] at c8
          try simp only [show Int32.toNatClampNeg 0 = 0 from rfl] at c9
          simpa only [wo_clip, show Int32.toNatClampNeg 0 = 0 from rfl, if_pos c8, if_neg c9] using kq _ ec
      · skip
        refine rr_iconst 0 rfl dX4_worth_142 ?_
        refine rr_goto dX4_worth_143 ?_
        refine rr_ireturn dX4_worth_158 rfl ?_
        have q0 : ¬ t = 0 := fun q => c5 (by rw [q]; decide)
        rw [if_neg q0, ← es] at kq
        try simp only [show Int32.toNatClampNeg 0 = 0 from rfl] at c8
        simpa only [wo_clip, show Int32.toNatClampNeg 0 = 0 from rfl, if_neg c8] using kq _ ec
/-- what the row of values holds -/
def hd_vals (a0 a1 a2 a3 a4 a5 a6 a7 : Int32) : Nat → Int32 := fun j => [a0, a1, a2, a3, a4, a5, a6, a7].getD j 0
def hd_val (cs : Nat → Int32) (n : Nat) (vs : Nat → Int32) : Int32 := wo_clip (if (wo_run cs vs (fun _ => 0) n).1 = 0 then vs 0 * 5 + vs 3 * 20 - vs 1 * 2 - vs 2 else (wo_run cs vs (fun _ => 0) n).2 0)
theorem wo_and (c : Int32) : ((c &&& 7 : Int32)).toNatClampNeg < 8 := by
  obtain ⟨j, hj, e⟩ := pk_andE c (m := 7) 3 (by decide)
  rw [e, nI_clamp (by omega)]
  exact hj
theorem wo_ind {cs vs ws s1 s2 : Nat → Int32} (hv : ∀ j, j < 8 → vs j = ws j) : ∀ n, (wo_run cs vs s1 n).1 = (wo_run cs ws s2 n).1 ∧ ∀ j, j < (wo_run cs vs s1 n).1 → (wo_run cs vs s1 n).2 j = (wo_run cs ws s2 n).2 j
  | 0 => ⟨rfl, fun j hj => absurd hj (Nat.not_lt_zero j)⟩
  | n + 1 => by
    obtain ⟨h1, h2⟩ := wo_ind (cs := cs) (s1 := s1) (s2 := s2) hv n
    have e1 : wo_run cs vs s1 (n + 1) = wo_st vs (cs n) (wo_run cs vs s1 n) := rfl
    have e2 : wo_run cs ws s2 (n + 1) = wo_st ws (cs n) (wo_run cs ws s2 n) := rfl
    rw [e1, e2]
    generalize wo_run cs vs s1 n = a at h1 h2 ⊢
    generalize wo_run cs ws s2 n = b at h1 h2 ⊢
    obtain ⟨t, f⟩ := a
    obtain ⟨u, k⟩ := b
    dsimp only at h1 h2
    subst h1
    unfold wo_st
    rw [hv _ (wo_and _)]
    split
    · split
      · exact ⟨rfl, h2⟩
      · refine ⟨rfl, fun j hj => ?_⟩
        dsimp only at hj ⊢
        by_cases e : j = t
        · rw [e]; simp [upd]
        · simp only [upd, if_neg e]
          exact h2 j (by omega)
    · split
      · exact ⟨rfl, h2⟩
      · rename_i hc ht
        refine ⟨rfl, fun j hj => ?_⟩
        dsimp only at hj ht ⊢
        by_cases e : j = t - 2
        · rw [e]; simp only [upd, if_true]
          rw [h2 (t - 2) (by omega), h2 (t - 1) (by omega)]
        · simp only [upd, if_neg e]
          exact h2 j (by omega)
theorem hd_congr {cs vs ws : Nat → Int32} {n : Nat} (hv : ∀ j, j < 8 → vs j = ws j) : hd_val cs n vs = hd_val cs n ws := by
  obtain ⟨h1, h2⟩ := wo_ind (cs := cs) (s1 := fun _ => 0) (s2 := fun _ => 0) hv n
  unfold hd_val
  rw [← h1, ← hv 0 (by decide), ← hv 1 (by decide), ← hv 2 (by decide), ← hv 3 (by decide)]
  by_cases e : (wo_run cs vs (fun _ => 0) n).1 = 0
  · rw [if_pos e, if_pos e]
  · rw [if_neg e, if_neg e, h2 0 (by omega)]
theorem hd_worth {h : Nat → Nat → Int32} {n : Nat} : vX4_worth h n = hd_val (h 8) n (h 10) := by
  obtain ⟨h1, h2⟩ := wo_ind (cs := h 8) (vs := h 10) (ws := h 10) (s1 := h 11) (s2 := fun _ => 0) (fun _ _ => rfl) n
  unfold vX4_worth hd_val
  rw [← h1]
  by_cases e : (wo_run (h 8) (h 10) (h 11) n).1 = 0
  · rw [if_pos e, if_pos e]; rfl
  · rw [if_neg e, if_neg e, h2 0 (by omega)]
theorem sp_X4_putL0 {d kc ks : Nat} {h : Nat → Nat → Int32} {g : Nat → Nat → Int64} {Q : jj_Rs → jj_St → Prop} {v : Int32} (kq : ∀ h9, jj_eq [10] h h9 → h9 10 = upd (h 10) 0 v → Q (.inl none) (jj_S, 782, h9, g)) : jj_R mX4_put (d + 0) kc ks (jj_S, 782, h, g) 0 [(0, .ref 7), (1, .int 0), (2, .int v)] [] Q :=
  sp_X4_put0 (kq _ (jj_eq.rf.sw 10 0 v (by decide)) jj_u2_row)
theorem sp_X4_putL1 {d kc ks : Nat} {h : Nat → Nat → Int32} {g : Nat → Nat → Int64} {Q : jj_Rs → jj_St → Prop} {v : Int32} (kq : ∀ h9, jj_eq [10] h h9 → h9 10 = upd (h 10) 1 v → Q (.inl none) (jj_S, 782, h9, g)) : jj_R mX4_put (d + 0) kc ks (jj_S, 782, h, g) 0 [(0, .ref 7), (1, .int 1), (2, .int v)] [] Q :=
  sp_X4_put1 (kq _ (jj_eq.rf.sw 10 1 v (by decide)) jj_u2_row)
theorem sp_X4_putL2 {d kc ks : Nat} {h : Nat → Nat → Int32} {g : Nat → Nat → Int64} {Q : jj_Rs → jj_St → Prop} {v : Int32} (kq : ∀ h9, jj_eq [10] h h9 → h9 10 = upd (h 10) 2 v → Q (.inl none) (jj_S, 782, h9, g)) : jj_R mX4_put (d + 0) kc ks (jj_S, 782, h, g) 0 [(0, .ref 7), (1, .int 2), (2, .int v)] [] Q :=
  sp_X4_put2 (kq _ (jj_eq.rf.sw 10 2 v (by decide)) jj_u2_row)
theorem sp_X4_putL3 {d kc ks : Nat} {h : Nat → Nat → Int32} {g : Nat → Nat → Int64} {Q : jj_Rs → jj_St → Prop} {v : Int32} (kq : ∀ h9, jj_eq [10] h h9 → h9 10 = upd (h 10) 3 v → Q (.inl none) (jj_S, 782, h9, g)) : jj_R mX4_put (d + 0) kc ks (jj_S, 782, h, g) 0 [(0, .ref 7), (1, .int 3), (2, .int v)] [] Q :=
  sp_X4_put3 (kq _ (jj_eq.rf.sw 10 3 v (by decide)) jj_u2_row)
theorem sp_X4_putL4 {d kc ks : Nat} {h : Nat → Nat → Int32} {g : Nat → Nat → Int64} {Q : jj_Rs → jj_St → Prop} {v : Int32} (kq : ∀ h9, jj_eq [10] h h9 → h9 10 = upd (h 10) 4 v → Q (.inl none) (jj_S, 782, h9, g)) : jj_R mX4_put (d + 0) kc ks (jj_S, 782, h, g) 0 [(0, .ref 7), (1, .int 4), (2, .int v)] [] Q :=
  sp_X4_put4 (kq _ (jj_eq.rf.sw 10 4 v (by decide)) jj_u2_row)
theorem sp_X4_putL5 {d kc ks : Nat} {h : Nat → Nat → Int32} {g : Nat → Nat → Int64} {Q : jj_Rs → jj_St → Prop} {v : Int32} (kq : ∀ h9, jj_eq [10] h h9 → h9 10 = upd (h 10) 5 v → Q (.inl none) (jj_S, 782, h9, g)) : jj_R mX4_put (d + 0) kc ks (jj_S, 782, h, g) 0 [(0, .ref 7), (1, .int 5), (2, .int v)] [] Q :=
  sp_X4_put5 (kq _ (jj_eq.rf.sw 10 5 v (by decide)) jj_u2_row)
theorem sp_X4_putL6 {d kc ks : Nat} {h : Nat → Nat → Int32} {g : Nat → Nat → Int64} {Q : jj_Rs → jj_St → Prop} {v : Int32} (kq : ∀ h9, jj_eq [10] h h9 → h9 10 = upd (h 10) 6 v → Q (.inl none) (jj_S, 782, h9, g)) : jj_R mX4_put (d + 0) kc ks (jj_S, 782, h, g) 0 [(0, .ref 7), (1, .int 6), (2, .int v)] [] Q :=
  sp_X4_put6 (kq _ (jj_eq.rf.sw 10 6 v (by decide)) jj_u2_row)
theorem sp_X4_putL7 {d kc ks : Nat} {h : Nat → Nat → Int32} {g : Nat → Nat → Int64} {Q : jj_Rs → jj_St → Prop} {v : Int32} (kq : ∀ h9, jj_eq [10] h h9 → h9 10 = upd (h 10) 7 v → Q (.inl none) (jj_S, 782, h9, g)) : jj_R mX4_put (d + 0) kc ks (jj_S, 782, h, g) 0 [(0, .ref 7), (1, .int 7), (2, .int v)] [] Q :=
  sp_X4_put7 (kq _ (jj_eq.rf.sw 10 7 v (by decide)) jj_u2_row)
