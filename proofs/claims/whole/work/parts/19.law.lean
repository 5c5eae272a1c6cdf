/-! ===== the class's LAW at work ===== -/
theorem jj_ge2 {t : Nat} (ht : t < 2 ^ 31) (c : ¬ nI t < 2) : 2 ≤ t := by
  rcases Nat.lt_or_ge t 2 with q | q
  · exact absurd (nI_lt (a := t) (b := 2) q (by decide)) c
  · exact q
theorem jj_m1 {t : Nat} (h : 1 ≤ t) : nI t + (-1) = nI (t - 1) := by
  obtain ⟨k, rfl⟩ : ∃ k, t = k + 1 := ⟨t - 1, by omega⟩
  rw [pk_m1]; rfl
theorem jj_m2 {t : Nat} (h : 2 ≤ t) : nI t + (-1) - 1 = nI (t - 2) := by
  rw [jj_m1 (by omega)]
  have e : nI (t - 1) - nI 1 = nI (t - 1 - 1) := pk_sub (by omega)
  exact e
/-- a step of the LAW over the values vs: the height, the row -/
def wo_st (vs : Nat → Int32) (c : Int32) (a : Nat × (Nat → Int32)) : Nat × (Nat → Int32) :=
  if c ≤ 2000 then (if 150 ≤ a.1 then a else (a.1 + 1, upd a.2 a.1 (if c < 1000 then c else vs ((c - 1000) &&& 7).toNatClampNeg)))
  else (if a.1 < 2 then a else (a.1 - 1, upd a.2 (a.1 - 2) (vX4_joined c (a.2 (a.1 - 2)) (a.2 (a.1 - 1)))))
def wo_run (cs vs s0 : Nat → Int32) (n : Nat) : Nat × (Nat → Int32) := jj_fo (fun k a => wo_st vs (cs k) a) n (0, s0)
def wo_clip (x : Int32) : Int32 := if 0 ≤ x then (if x ≤ 99 then x else 99) else 0
def vX4_worth (r8 r10 r11 : Nat → Int32) (n : Nat) : Int32 := wo_clip (if (wo_run r8 r10 r11 n).1 = 0 then vX4_worthWithoutLaw r10 else (wo_run r8 r10 r11 n).2 0)
theorem wo_le {vs : Nat → Int32} {c : Int32} {a : Nat × (Nat → Int32)} : (wo_st vs c a).1 ≤ a.1 + 1 := by
  unfold wo_st
  split
  · split
    · omega
    · exact Nat.le_refl _
  · split
    · omega
    · show a.1 - 1 ≤ a.1 + 1; omega
theorem wo_len {cs vs s0 : Nat → Int32} : ∀ n, (jj_fo (fun k a => wo_st vs (cs k) a) n (0, s0)).1 ≤ n
  | 0 => Nat.le_refl _
  | n + 1 => Nat.le_trans wo_le (Nat.succ_le_succ (wo_len n))

theorem jj_lt2 {t : Nat} (ht : t < 2 ^ 31) (c : nI t < 2) : t < 2 := by
  rcases Nat.lt_or_ge t 2 with q | q
  · exact q
  · exact absurd c (nI_nlt (a := t) (b := 2) q ht)
theorem jj_le0 {t : Nat} (ht : t < 2 ^ 31) (c : nI t ≤ 0) : t = 0 := by
  rcases Nat.eq_zero_or_pos t with q | q
  · exact q
  · exact absurd c (nI_nle q ht)
theorem jj_lt150b {t : Nat} (ht : t < 2 ^ 31) (c : ¬ (150 : Int32) ≤ nI t) : t < 150 := by
  rcases Nat.lt_or_ge t 150 with q | q
  · exact q
  · exact absurd (nI_le (a := 150) (b := t) q ht) c
theorem jj_ge150 {t : Nat} (ht : t < 2 ^ 31) (c : (150 : Int32) ≤ nI t) : 150 ≤ t := by
  rcases Nat.lt_or_ge t 150 with q | q
  · exact absurd c (nI_ge (a := t) (b := 150) q (by decide))
  · exact q
set_option maxHeartbeats 2000000 in
theorem sp_X4_worth {d kc ks : Nat} {h : Nat → Nat → Int32} {g : Nat → Nat → Int64} {Q : jj_Rs → jj_St → Prop} {n : Nat} (hm : h 7 1 = nI n) (hn : n ≤ 150) (kq : ∀ h9, jj_eq [11] h h9 → Q (.inl (some (.int (vX4_worth (h 8) (h 10) (h 11) n)))) (jj_S, 782, h9, g)) : jj_R mX4_worth (d + 2) kc ks (jj_S, 782, h, g) 0 [(0, .ref 7)] [] Q := by
  refine rr_iconst 0 rfl dX4_worth_0 ?_
  refine rr_istore_n [(0, .ref 7), (1, .int 0)] dX4_worth_1 rfl (by decide) rfl ?_
  refine rr_iconst 0 rfl dX4_worth_2 ?_
  refine rr_istore_n [(0, .ref 7), (1, .int 0), (2, .int 0)] dX4_worth_3 rfl (by decide) rfl ?_
  refine jj_for (fun k (a : Nat × (Nat → Int32)) => ∀ hc, jj_eq [11] h hc → hc 11 = a.2 → a.1 ≤ k → jj_R _ _ kc ks (jj_S, 782, hc, g) 4 [(0, .ref 7), (1, .int (nI a.1)), (2, .int (nI k))] [] Q) (fun k a => wo_st (h 10) (h 8 k) a) n (0, h 11) ?_ ?_ h jj_eq.rf rfl (Nat.le_refl _)
  · intro k hk ih hc ec es hle
    generalize jj_fo _ k _ = a at ih es hle ⊢
    obtain ⟨t, s0⟩ := a
    try dsimp only at ih es hle ⊢
    refine rr_iload_n 2 rfl rfl dX4_worth_4 ?_
    refine rr_aload_n 0 rfl rfl dX4_worth_5 ?_
    refine rr_getI dX4_worth_6 fX4_24 lo_7 sh_7 rfl ?_
    refine rr_icmp_ge dX4_worth_9 (fun c => absurd c (by rw [show hc 7 = h 7 from ec 7 (by decide), hm]; exact nI_ge hk (by omega))) (fun _ => ?_)
    refine rr_iload_n 2 rfl rfl dX4_worth_12 ?_
    refine rr_aload_n 0 rfl rfl dX4_worth_13 ?_
    refine rr_getR dX4_worth_14 fX4_9 lo_7 sh_7 rfl ?_
    refine rr_alenI 150 dX4_worth_17 lo_8 sh_8 (by decide) rfl ?_
    refine rr_icmp_ge dX4_worth_18 (fun c => absurd c (nI_ge (a := k) (b := 150) (by omega) (by decide))) (fun _ => ?_)
    refine rr_aload_n 0 rfl rfl dX4_worth_21 ?_
    refine rr_getR dX4_worth_22 fX4_9 lo_7 sh_7 rfl ?_
    refine rr_iload_n 2 rfl rfl dX4_worth_25 ?_
    refine rr_iaload dX4_worth_26 lo_8 sh_8 (vp_in_nI (by omega) (by decide)) ?_
    refine rr_istore_n [(0, .ref 7), (1, .int (nI t)), (2, .int (nI k)), (3, .int ((hc 8) ((nI k) : Int32).toNatClampNeg))] dX4_worth_27 rfl (by decide) rfl ?_
    refine rr_iload_n 3 rfl rfl dX4_worth_28 ?_
    refine rr_sipush 2000 rfl dX4_worth_29 ?_
    refine rr_icmp_le dX4_worth_32 (fun c1 => ?_) (fun c1 => ?_)
    · skip
      refine rr_iload_n 1 rfl rfl dX4_worth_72 ?_
      refine rr_aload_n 0 rfl rfl dX4_worth_73 ?_
      refine rr_getR dX4_worth_74 fX4_21 lo_7 sh_7 rfl ?_
      refine rr_alenI 150 dX4_worth_77 lo_11 sh_11 (by decide) rfl ?_
      refine rr_icmp_ge dX4_worth_78 (fun c2 => ?_) (fun c2 => ?_)
      · skip
        refine rr_iinc 2 1 [(0, .ref 7), (1, .int (nI t)), (2, .int ((nI k) + 1)), (3, .int ((hc 8) ((nI k) : Int32).toNatClampNeg))] dX4_worth_114 rfl rfl (by decide) rfl ?_
        refine rr_goto dX4_worth_117 ?_
        try simp only [nI_1]
        refine rr_sub [(0, .ref 7), (1, .int (nI t)), (2, .int (nI (k + 1)))] [0, 1, 2] rfl ?_
        rw [show hc 8 = h 8 from ec 8 (by decide), nI_clamp (show k < 2 ^ 31 by omega)] at c1
        have q2 : 150 ≤ t := jj_ge150 (by omega) c2
        rw [show wo_st (h 10) (h 8 k) (t, s0) = (t, s0) from by simp only [wo_st, if_pos c1, if_pos q2]] at ih
        exact ih hc ec es (by omega)
      · skip
        refine rr_aload_n 0 rfl rfl dX4_worth_81 ?_
        refine rr_getR dX4_worth_82 fX4_21 lo_7 sh_7 rfl ?_
        refine rr_iload_n 1 rfl rfl dX4_worth_85 ?_
        refine rr_iload_n 3 rfl rfl dX4_worth_86 ?_
        refine rr_sipush 1000 rfl dX4_worth_87 ?_
        refine rr_icmp_lt dX4_worth_90 (fun c3 => ?_) (fun c3 => ?_)
        · skip
          refine rr_iload_n 3 rfl rfl dX4_worth_109 ?_
          refine rr_iastore dX4_worth_110 lo_11 sh_11 (vp_in_nI (jj_lt150b (by omega) c2) (by decide)) ?_
          skip
          refine rr_iinc 1 1 [(0, .ref 7), (1, .int ((nI t) + 1)), (2, .int (nI k)), (3, .int ((hc 8) ((nI k) : Int32).toNatClampNeg))] dX4_worth_111 rfl rfl (by decide) rfl ?_
          refine rr_iinc 2 1 [(0, .ref 7), (1, .int ((nI t) + 1)), (2, .int ((nI k) + 1)), (3, .int ((hc 8) ((nI k) : Int32).toNatClampNeg))] dX4_worth_114 rfl rfl (by decide) rfl ?_
          refine rr_goto dX4_worth_117 ?_
          try simp only [nI_1]
          refine rr_sub [(0, .ref 7), (1, .int (nI (t + 1))), (2, .int (nI (k + 1)))] [0, 1, 2] rfl ?_
          have q2 : ¬ 150 ≤ t := fun q => absurd (jj_lt150b (by omega) c2) (by omega)
          have c3b := c3
          rw [show hc 8 = h 8 from ec 8 (by decide), nI_clamp (show k < 2 ^ 31 by omega)] at c3b
          rw [show hc 8 = h 8 from ec 8 (by decide), nI_clamp (show k < 2 ^ 31 by omega)] at c1
          have e2 := ec.sw 11 t (hc 8 (nI k).toNatClampNeg) (by decide)
          rw [nI_clamp (show t < 2 ^ 31 by omega)]
          have e3 : jj_u2 hc 11 t (hc 8 (nI k).toNatClampNeg) 11 = upd s0 t (if h 8 k < 1000 then h 8 k else h 10 ((h 8 k - 1000) &&& 7).toNatClampNeg) := by
            rw [jj_u2_row, es, show hc 8 = h 8 from ec 8 (by decide), nI_clamp (show k < 2 ^ 31 by omega), if_pos c3b]
          rw [show wo_st (h 10) (h 8 k) (t, s0) = (t + 1, upd s0 t (if h 8 k < 1000 then h 8 k else h 10 ((h 8 k - 1000) &&& 7).toNatClampNeg)) from by simp only [wo_st, if_pos c1, if_neg q2]] at ih
          exact ih _ e2 e3 (by show t + 1 ≤ k + 1; omega)
        · skip
          refine rr_aload_n 0 rfl rfl dX4_worth_93 ?_
          refine rr_getR dX4_worth_94 fX4_18 lo_7 sh_7 rfl ?_
          refine rr_iload_n 3 rfl rfl dX4_worth_97 ?_
          refine rr_sipush 1000 rfl dX4_worth_98 ?_
          refine rr_isub dX4_worth_101 ?_
          refine rr_bipush 7 rfl dX4_worth_102 ?_
          refine rr_iand dX4_worth_104 ?_
          refine rr_iaload dX4_worth_105 lo_10 sh_10 (pk_andIn _ 3 rfl (by decide)) ?_
          refine rr_goto dX4_worth_106 ?_
          refine rr_iastore dX4_worth_110 lo_11 sh_11 (vp_in_nI (jj_lt150b (by omega) c2) (by decide)) ?_
          skip
          refine rr_iinc 1 1 [(0, .ref 7), (1, .int ((nI t) + 1)), (2, .int (nI k)), (3, .int ((hc 8) ((nI k) : Int32).toNatClampNeg))] dX4_worth_111 rfl rfl (by decide) rfl ?_
          refine rr_iinc 2 1 [(0, .ref 7), (1, .int ((nI t) + 1)), (2, .int ((nI k) + 1)), (3, .int ((hc 8) ((nI k) : Int32).toNatClampNeg))] dX4_worth_114 rfl rfl (by decide) rfl ?_
          refine rr_goto dX4_worth_117 ?_
          try simp only [nI_1]
          refine rr_sub [(0, .ref 7), (1, .int (nI (t + 1))), (2, .int (nI (k + 1)))] [0, 1, 2] rfl ?_
          have q2 : ¬ 150 ≤ t := fun q => absurd (jj_lt150b (by omega) c2) (by omega)
          have c3b := c3
          rw [show hc 8 = h 8 from ec 8 (by decide), nI_clamp (show k < 2 ^ 31 by omega)] at c3b
          rw [show hc 8 = h 8 from ec 8 (by decide), nI_clamp (show k < 2 ^ 31 by omega)] at c1
          have e2 := ec.sw 11 t (hc 10 ((hc 8 (nI k).toNatClampNeg - 1000) &&& 7).toNatClampNeg) (by decide)
          rw [nI_clamp (show t < 2 ^ 31 by omega)]
          have e3 : jj_u2 hc 11 t (hc 10 ((hc 8 (nI k).toNatClampNeg - 1000) &&& 7).toNatClampNeg) 11 = upd s0 t (if h 8 k < 1000 then h 8 k else h 10 ((h 8 k - 1000) &&& 7).toNatClampNeg) := by
            rw [jj_u2_row, es, show hc 8 = h 8 from ec 8 (by decide), nI_clamp (show k < 2 ^ 31 by omega), show hc 10 = h 10 from ec 10 (by decide), if_neg c3b]
          rw [show wo_st (h 10) (h 8 k) (t, s0) = (t + 1, upd s0 t (if h 8 k < 1000 then h 8 k else h 10 ((h 8 k - 1000) &&& 7).toNatClampNeg)) from by simp only [wo_st, if_pos c1, if_neg q2]] at ih
          exact ih _ e2 e3 (by show t + 1 ≤ k + 1; omega)
    · skip
      refine rr_iload_n 1 rfl rfl dX4_worth_35 ?_
      refine rr_iconst 2 rfl dX4_worth_36 ?_
      refine rr_icmp_lt dX4_worth_37 (fun c4 => ?_) (fun c4 => ?_)
      · skip
        refine rr_iinc 2 1 [(0, .ref 7), (1, .int (nI t)), (2, .int ((nI k) + 1)), (3, .int ((hc 8) ((nI k) : Int32).toNatClampNeg))] dX4_worth_114 rfl rfl (by decide) rfl ?_
        refine rr_goto dX4_worth_117 ?_
        try simp only [nI_1]
        refine rr_sub [(0, .ref 7), (1, .int (nI t)), (2, .int (nI (k + 1)))] [0, 1, 2] rfl ?_
        rw [show hc 8 = h 8 from ec 8 (by decide), nI_clamp (show k < 2 ^ 31 by omega)] at c1
        have q2 : t < 2 := jj_lt2 (by omega) c4
        rw [show wo_st (h 10) (h 8 k) (t, s0) = (t, s0) from by simp only [wo_st, if_neg c1, if_pos q2]] at ih
        exact ih hc ec es (by omega)
      · skip
        refine rr_iinc 1 (-1) [(0, .ref 7), (1, .int ((nI t) + (-1))), (2, .int (nI k)), (3, .int ((hc 8) ((nI k) : Int32).toNatClampNeg))] dX4_worth_40 rfl rfl (by decide) rfl ?_
        refine rr_aload_n 0 rfl rfl dX4_worth_43 ?_
        refine rr_getR dX4_worth_44 fX4_21 lo_7 sh_7 rfl ?_
        refine rr_iload_n 1 rfl rfl dX4_worth_47 ?_
        refine rr_iconst 1 rfl dX4_worth_48 ?_
        refine rr_isub dX4_worth_49 ?_
        refine rr_iload_n 3 rfl rfl dX4_worth_50 ?_
        refine rr_aload_n 0 rfl rfl dX4_worth_51 ?_
        refine rr_getR dX4_worth_52 fX4_21 lo_7 sh_7 rfl ?_
        refine rr_iload_n 1 rfl rfl dX4_worth_55 ?_
        refine rr_iconst 1 rfl dX4_worth_56 ?_
        refine rr_isub dX4_worth_57 ?_
        refine rr_iaload dX4_worth_58 lo_11 sh_11 (by have q := jj_ge2 (t := t) (by omega) c4; rw [jj_m2 q]; exact vp_in_nI (by omega) (by decide)) ?_
        refine rr_aload_n 0 rfl rfl dX4_worth_59 ?_
        refine rr_getR dX4_worth_60 fX4_21 lo_7 sh_7 rfl ?_
        refine rr_iload_n 1 rfl rfl dX4_worth_63 ?_
        refine rr_iaload dX4_worth_64 lo_11 sh_11 (by have q := jj_ge2 (t := t) (by omega) c4; rw [jj_m1 (by omega)]; exact vp_in_nI (by omega) (by decide)) ?_
        refine rr_callS (As := [.int ((hc 8) ((nI k) : Int32).toNatClampNeg), .int ((hc 11) ((((nI t) + (-1)) - 1) : Int32).toNatClampNeg), .int ((hc 11) (((nI t) + (-1)) : Int32).toNatClampNeg)]) (rest := [.int (((nI t) + (-1)) - 1), .ref 11]) (kc2 := 0) (ks2 := 0) dX4_worth_65 okX4_joined lX4_28 rfl (Nat.le_of_ble_eq_true rfl) (Nat.le_of_ble_eq_true rfl) rfl (by omega) (by simp [jj_rk]) (by simp [jj_rk]) ?_
        refine sp_X4_joined  ?_
        show jj_R _ _ kc ks (jj_S, 782, hc, g) 68 [(0, .ref 7), (1, .int ((nI t) + (-1))), (2, .int (nI k)), (3, .int ((hc 8) ((nI k) : Int32).toNatClampNeg))] [.int (vX4_joined ((hc 8) ((nI k) : Int32).toNatClampNeg) ((hc 11) ((((nI t) + (-1)) - 1) : Int32).toNatClampNeg) ((hc 11) (((nI t) + (-1)) : Int32).toNatClampNeg)), .int (((nI t) + (-1)) - 1), .ref 11] Q
        refine rr_iastore dX4_worth_68 lo_11 sh_11 (by have q := jj_ge2 (t := t) (by omega) c4; rw [jj_m2 q]; exact vp_in_nI (by omega) (by decide)) ?_
        skip
        refine rr_goto dX4_worth_69 ?_
        refine rr_iinc 2 1 [(0, .ref 7), (1, .int ((nI t) + (-1))), (2, .int ((nI k) + 1)), (3, .int ((hc 8) ((nI k) : Int32).toNatClampNeg))] dX4_worth_114 rfl rfl (by decide) rfl ?_
        refine rr_goto dX4_worth_117 ?_
        have q2 : 2 ≤ t := jj_ge2 (by omega) c4
        have q3 : ¬ t < 2 := by omega
        try simp only [nI_1]
        refine rr_sub [(0, .ref 7), (1, .int (nI (t - 1))), (2, .int (nI (k + 1)))] [0, 1, 2] (by rw [jj_m1 (by omega)]; rfl) ?_
        rw [show hc 8 = h 8 from ec 8 (by decide), nI_clamp (show k < 2 ^ 31 by omega)] at c1
        rw [jj_m2 q2, jj_m1 (show 1 ≤ t by omega), nI_clamp (show t - 1 < 2 ^ 31 by omega), nI_clamp (show t - 2 < 2 ^ 31 by omega), nI_clamp (show k < 2 ^ 31 by omega)]
        have e2 := ec.sw 11 (t - 2) (vX4_joined (hc 8 k) (hc 11 (t - 2)) (hc 11 (t - 1))) (by decide)
        have e3 : jj_u2 hc 11 (t - 2) (vX4_joined (hc 8 k) (hc 11 (t - 2)) (hc 11 (t - 1))) 11 = upd s0 (t - 2) (vX4_joined (h 8 k) (s0 (t - 2)) (s0 (t - 1))) := by
          rw [jj_u2_row, es, show hc 8 = h 8 from ec 8 (by decide)]
        rw [show wo_st (h 10) (h 8 k) (t, s0) = (t - 1, upd s0 (t - 2) (vX4_joined (h 8 k) (s0 (t - 2)) (s0 (t - 1)))) from by simp only [wo_st, if_neg c1, if_neg q3]] at ih
        exact ih _ e2 e3 (by show t - 1 ≤ k + 1; omega)
  · intro hc ec es hle
    have hv : vX4_worth (h 8) (h 10) (h 11) n = wo_clip (if (wo_run (h 8) (h 10) (h 11) n).1 = 0 then vX4_worthWithoutLaw (h 10) else (wo_run (h 8) (h 10) (h 11) n).2 0) := rfl
    rw [hv] at kq
    unfold wo_run at kq
    generalize jj_fo _ n _ = a at es hle kq ⊢
    obtain ⟨t, s0⟩ := a
    try dsimp only at es hle kq ⊢
    refine rr_iload_n 2 rfl rfl dX4_worth_4 ?_
    refine rr_aload_n 0 rfl rfl dX4_worth_5 ?_
    refine rr_getI dX4_worth_6 fX4_24 lo_7 sh_7 rfl ?_
    refine rr_icmp_ge dX4_worth_9 (fun _ => ?_) (fun c => absurd (by rw [show hc 7 = h 7 from ec 7 (by decide), hm]; exact jj_le_rf _) c)
    refine rr_sub [(0, .ref 7), (1, .int (nI t))] [0, 1] rfl ?_
    refine rr_iload_n 1 rfl rfl dX4_worth_120 ?_
    refine rr_if_le dX4_worth_121 (fun c5 => ?_) (fun c5 => ?_)
    · skip
      refine rr_aload_n 0 rfl rfl dX4_worth_133 ?_
      refine rr_callV (As := []) (rest := []) (kc2 := 0) (ks2 := 0) dX4_worth_134 okX4_worthWithoutLaw lX4_32 lo_7 sh_7 rfl rfl (Nat.le_of_ble_eq_true rfl) (Nat.le_of_ble_eq_true rfl) rfl (by omega) (by simp [jj_rk]) (by simp [jj_rk]) ?_
      refine sp_X4_worthWithoutLaw  ?_
      show jj_R _ _ kc ks (jj_S, 782, hc, g) 137 [(0, .ref 7), (1, .int (nI t))] [.int (vX4_worthWithoutLaw (hc 10))] Q
      refine rr_istore_n [(0, .ref 7), (1, .int (nI t)), (2, .int (vX4_worthWithoutLaw (hc 10)))] dX4_worth_137 rfl (by decide) rfl ?_
      refine rr_iload_n 2 rfl rfl dX4_worth_138 ?_
      refine rr_if_ge dX4_worth_139 (fun c6 => ?_) (fun c6 => ?_)
      · skip
        refine rr_iload_n 2 rfl rfl dX4_worth_146 ?_
        refine rr_bipush 99 rfl dX4_worth_147 ?_
        refine rr_icmp_le dX4_worth_149 (fun c7 => ?_) (fun c7 => ?_)
        · skip
          refine rr_iload_n 2 rfl rfl dX4_worth_157 ?_
          refine rr_ireturn dX4_worth_158 rfl ?_
          have q0 : t = 0 := jj_le0 (by omega) c5
          rw [if_pos q0, show h 10 = hc 10 from (ec 10 (by decide)).symm] at kq
          simpa only [wo_clip, show Int32.toNatClampNeg 0 = 0 from rfl, if_pos c6, if_pos c7] using kq _ ec
        · skip
          refine rr_bipush 99 rfl dX4_worth_152 ?_
          refine rr_goto dX4_worth_154 ?_
          refine rr_ireturn dX4_worth_158 rfl ?_
          have q0 : t = 0 := jj_le0 (by omega) c5
          rw [if_pos q0, show h 10 = hc 10 from (ec 10 (by decide)).symm] at kq
          simpa only [wo_clip, show Int32.toNatClampNeg 0 = 0 from rfl, if_pos c6, if_neg c7] using kq _ ec
      · skip
        refine rr_iconst 0 rfl dX4_worth_142 ?_
        refine rr_goto dX4_worth_143 ?_
        refine rr_ireturn dX4_worth_158 rfl ?_
        have q0 : t = 0 := jj_le0 (by omega) c5
        rw [if_pos q0, show h 10 = hc 10 from (ec 10 (by decide)).symm] at kq
        simpa only [wo_clip, show Int32.toNatClampNeg 0 = 0 from rfl, if_neg c6] using kq _ ec
    · skip
      refine rr_aload_n 0 rfl rfl dX4_worth_124 ?_
      refine rr_getR dX4_worth_125 fX4_21 lo_7 sh_7 rfl ?_
      refine rr_iconst 0 rfl dX4_worth_128 ?_
      refine rr_iaload dX4_worth_129 lo_11 sh_11 (by first | assumption | exact vp_in_nI (by omega) (by decide) | decide | omega | exact jj_inL rfl) ?_
      refine rr_goto dX4_worth_130 ?_
      refine rr_istore_n [(0, .ref 7), (1, .int (nI t)), (2, .int ((hc 11) (0 : Int32).toNatClampNeg))] dX4_worth_137 rfl (by decide) rfl ?_
      refine rr_iload_n 2 rfl rfl dX4_worth_138 ?_
      refine rr_if_ge dX4_worth_139 (fun c8 => ?_) (fun c8 => ?_)
      · skip
        refine rr_iload_n 2 rfl rfl dX4_worth_146 ?_
        refine rr_bipush 99 rfl dX4_worth_147 ?_
        refine rr_icmp_le dX4_worth_149 (fun c9 => ?_) (fun c9 => ?_)
        · skip
          refine rr_iload_n 2 rfl rfl dX4_worth_157 ?_
          refine rr_ireturn dX4_worth_158 rfl ?_
          have q0 : ¬ t = 0 := fun q => c5 (by rw [q]; decide)
          rw [if_neg q0, ← es] at kq
          try simp only [show Int32.toNatClampNeg 0 = 0 from rfl] at c8
          try simp only [show Int32.toNatClampNeg 0 = 0 from rfl] at c9
          simpa only [wo_clip, show Int32.toNatClampNeg 0 = 0 from rfl, if_pos c8, if_pos c9] using kq _ ec
        · skip
          refine rr_bipush 99 rfl dX4_worth_152 ?_
          refine rr_goto dX4_worth_154 ?_
          refine rr_ireturn dX4_worth_158 rfl ?_
          have q0 : ¬ t = 0 := fun q => c5 (by rw [q]; decide)
          rw [if_neg q0, ← es] at kq
          try simp only [show Int32.toNatClampNeg 0 = 0 from rfl] at c8
          try simp only [show Int32.toNatClampNeg 0 = 0 from rfl] at c9
          simpa only [wo_clip, show Int32.toNatClampNeg 0 = 0 from rfl, if_pos c8, if_neg c9] using kq _ ec
      · skip
        refine rr_iconst 0 rfl dX4_worth_142 ?_
        refine rr_goto dX4_worth_143 ?_
        refine rr_ireturn dX4_worth_158 rfl ?_
        have q0 : ¬ t = 0 := fun q => c5 (by rw [q]; decide)
        rw [if_neg q0, ← es] at kq
        try simp only [show Int32.toNatClampNeg 0 = 0 from rfl] at c8
        simpa only [wo_clip, show Int32.toNatClampNeg 0 = 0 from rfl, if_neg c8] using kq _ ec
/-- what the row of values holds -/
def hd_vals (a0 a1 a2 a3 a4 a5 a6 a7 : Int32) : Nat → Int32 := fun j => [a0, a1, a2, a3, a4, a5, a6, a7].getD j 0
def hd_val (cs : Nat → Int32) (n : Nat) (vs : Nat → Int32) : Int32 := wo_clip (if (wo_run cs vs (fun _ => 0) n).1 = 0 then vs 0 * 5 + vs 3 * 20 - vs 1 * 2 - vs 2 else (wo_run cs vs (fun _ => 0) n).2 0)
theorem wo_and (c : Int32) : ((c &&& 7 : Int32)).toNatClampNeg < 8 := by
  obtain ⟨j, hj, e⟩ := pk_andE c (m := 7) 3 (by decide)
  rw [e, nI_clamp (by omega)]
  exact hj
theorem wo_ind {cs vs ws s1 s2 : Nat → Int32} (hv : ∀ j, j < 8 → vs j = ws j) : ∀ n, (wo_run cs vs s1 n).1 = (wo_run cs ws s2 n).1 ∧ ∀ j, j < (wo_run cs vs s1 n).1 → (wo_run cs vs s1 n).2 j = (wo_run cs ws s2 n).2 j
  | 0 => ⟨rfl, fun j hj => absurd hj (Nat.not_lt_zero j)⟩
  | n + 1 => by
    obtain ⟨h1, h2⟩ := wo_ind (cs := cs) (s1 := s1) (s2 := s2) hv n
    have e1 : wo_run cs vs s1 (n + 1) = wo_st vs (cs n) (wo_run cs vs s1 n) := rfl
    have e2 : wo_run cs ws s2 (n + 1) = wo_st ws (cs n) (wo_run cs ws s2 n) := rfl
    rw [e1, e2]
    generalize wo_run cs vs s1 n = a at h1 h2 ⊢
    generalize wo_run cs ws s2 n = b at h1 h2 ⊢
    obtain ⟨t, f⟩ := a
    obtain ⟨u, k⟩ := b
    dsimp only at h1 h2
    subst h1
    unfold wo_st
    rw [hv _ (wo_and _)]
    split
    · split
      · exact ⟨rfl, h2⟩
      · refine ⟨rfl, fun j hj => ?_⟩
        dsimp only at hj ⊢
        by_cases e : j = t
        · rw [e]; simp [upd]
        · simp only [upd, if_neg e]
          exact h2 j (by omega)
    · split
      · exact ⟨rfl, h2⟩
      · rename_i hc ht
        refine ⟨rfl, fun j hj => ?_⟩
        dsimp only at hj ht ⊢
        by_cases e : j = t - 2
        · rw [e]; simp only [upd, if_true]
          rw [h2 (t - 2) (by omega), h2 (t - 1) (by omega)]
        · simp only [upd, if_neg e]
          exact h2 j (by omega)
theorem hd_congr {cs vs ws : Nat → Int32} {n : Nat} (hv : ∀ j, j < 8 → vs j = ws j) : hd_val cs n vs = hd_val cs n ws := by
  obtain ⟨h1, h2⟩ := wo_ind (cs := cs) (s1 := fun _ => 0) (s2 := fun _ => 0) hv n
  unfold hd_val
  rw [← h1, ← hv 0 (by decide), ← hv 1 (by decide), ← hv 2 (by decide), ← hv 3 (by decide)]
  by_cases e : (wo_run cs vs (fun _ => 0) n).1 = 0
  · rw [if_pos e, if_pos e]
  · rw [if_neg e, if_neg e, h2 0 (by omega)]
theorem hd_worth {r8 r10 r11 : Nat → Int32} {n : Nat} : vX4_worth r8 r10 r11 n = hd_val r8 n r10 := by
  obtain ⟨h1, h2⟩ := wo_ind (cs := r8) (vs := r10) (ws := r10) (s1 := r11) (s2 := fun _ => 0) (fun _ _ => rfl) n
  unfold vX4_worth hd_val
  rw [← h1]
  by_cases e : (wo_run r8 r10 r11 n).1 = 0
  · rw [if_pos e, if_pos e]; rfl
  · rw [if_neg e, if_neg e, h2 0 (by omega)]
theorem sp_X4_putL0 {d kc ks : Nat} {h : Nat → Nat → Int32} {g : Nat → Nat → Int64} {Q : jj_Rs → jj_St → Prop} {v : Int32} (kq : ∀ h9, jj_eq [10] h h9 → h9 10 = upd (h 10) 0 v → Q (.inl none) (jj_S, 782, h9, g)) : jj_R mX4_put (d + 0) kc ks (jj_S, 782, h, g) 0 [(0, .ref 7), (1, .int 0), (2, .int v)] [] Q :=
  sp_X4_put0 (kq (jj_rs h [(10, rX4_put0_10 (h 10) v)]) (fun o ho => by rw [show jj_rs h [(10, rX4_put0_10 (h 10) v)] o = h o from by
    have : (o == 10) = false := by simpa using ho
    simp [jj_rs, List.lookup, this]]) rfl)
theorem sp_X4_putL1 {d kc ks : Nat} {h : Nat → Nat → Int32} {g : Nat → Nat → Int64} {Q : jj_Rs → jj_St → Prop} {v : Int32} (kq : ∀ h9, jj_eq [10] h h9 → h9 10 = upd (h 10) 1 v → Q (.inl none) (jj_S, 782, h9, g)) : jj_R mX4_put (d + 0) kc ks (jj_S, 782, h, g) 0 [(0, .ref 7), (1, .int 1), (2, .int v)] [] Q :=
  sp_X4_put1 (kq (jj_rs h [(10, rX4_put1_10 (h 10) v)]) (fun o ho => by rw [show jj_rs h [(10, rX4_put1_10 (h 10) v)] o = h o from by
    have : (o == 10) = false := by simpa using ho
    simp [jj_rs, List.lookup, this]]) rfl)
theorem sp_X4_putL2 {d kc ks : Nat} {h : Nat → Nat → Int32} {g : Nat → Nat → Int64} {Q : jj_Rs → jj_St → Prop} {v : Int32} (kq : ∀ h9, jj_eq [10] h h9 → h9 10 = upd (h 10) 2 v → Q (.inl none) (jj_S, 782, h9, g)) : jj_R mX4_put (d + 0) kc ks (jj_S, 782, h, g) 0 [(0, .ref 7), (1, .int 2), (2, .int v)] [] Q :=
  sp_X4_put2 (kq (jj_rs h [(10, rX4_put2_10 (h 10) v)]) (fun o ho => by rw [show jj_rs h [(10, rX4_put2_10 (h 10) v)] o = h o from by
    have : (o == 10) = false := by simpa using ho
    simp [jj_rs, List.lookup, this]]) rfl)
theorem sp_X4_putL3 {d kc ks : Nat} {h : Nat → Nat → Int32} {g : Nat → Nat → Int64} {Q : jj_Rs → jj_St → Prop} {v : Int32} (kq : ∀ h9, jj_eq [10] h h9 → h9 10 = upd (h 10) 3 v → Q (.inl none) (jj_S, 782, h9, g)) : jj_R mX4_put (d + 0) kc ks (jj_S, 782, h, g) 0 [(0, .ref 7), (1, .int 3), (2, .int v)] [] Q :=
  sp_X4_put3 (kq (jj_rs h [(10, rX4_put3_10 (h 10) v)]) (fun o ho => by rw [show jj_rs h [(10, rX4_put3_10 (h 10) v)] o = h o from by
    have : (o == 10) = false := by simpa using ho
    simp [jj_rs, List.lookup, this]]) rfl)
theorem sp_X4_putL4 {d kc ks : Nat} {h : Nat → Nat → Int32} {g : Nat → Nat → Int64} {Q : jj_Rs → jj_St → Prop} {v : Int32} (kq : ∀ h9, jj_eq [10] h h9 → h9 10 = upd (h 10) 4 v → Q (.inl none) (jj_S, 782, h9, g)) : jj_R mX4_put (d + 0) kc ks (jj_S, 782, h, g) 0 [(0, .ref 7), (1, .int 4), (2, .int v)] [] Q :=
  sp_X4_put4 (kq (jj_rs h [(10, rX4_put4_10 (h 10) v)]) (fun o ho => by rw [show jj_rs h [(10, rX4_put4_10 (h 10) v)] o = h o from by
    have : (o == 10) = false := by simpa using ho
    simp [jj_rs, List.lookup, this]]) rfl)
theorem sp_X4_putL5 {d kc ks : Nat} {h : Nat → Nat → Int32} {g : Nat → Nat → Int64} {Q : jj_Rs → jj_St → Prop} {v : Int32} (kq : ∀ h9, jj_eq [10] h h9 → h9 10 = upd (h 10) 5 v → Q (.inl none) (jj_S, 782, h9, g)) : jj_R mX4_put (d + 0) kc ks (jj_S, 782, h, g) 0 [(0, .ref 7), (1, .int 5), (2, .int v)] [] Q :=
  sp_X4_put5 (kq (jj_rs h [(10, rX4_put5_10 (h 10) v)]) (fun o ho => by rw [show jj_rs h [(10, rX4_put5_10 (h 10) v)] o = h o from by
    have : (o == 10) = false := by simpa using ho
    simp [jj_rs, List.lookup, this]]) rfl)
theorem sp_X4_putL6 {d kc ks : Nat} {h : Nat → Nat → Int32} {g : Nat → Nat → Int64} {Q : jj_Rs → jj_St → Prop} {v : Int32} (kq : ∀ h9, jj_eq [10] h h9 → h9 10 = upd (h 10) 6 v → Q (.inl none) (jj_S, 782, h9, g)) : jj_R mX4_put (d + 0) kc ks (jj_S, 782, h, g) 0 [(0, .ref 7), (1, .int 6), (2, .int v)] [] Q :=
  sp_X4_put6 (kq (jj_rs h [(10, rX4_put6_10 (h 10) v)]) (fun o ho => by rw [show jj_rs h [(10, rX4_put6_10 (h 10) v)] o = h o from by
    have : (o == 10) = false := by simpa using ho
    simp [jj_rs, List.lookup, this]]) rfl)
theorem sp_X4_putL7 {d kc ks : Nat} {h : Nat → Nat → Int32} {g : Nat → Nat → Int64} {Q : jj_Rs → jj_St → Prop} {v : Int32} (kq : ∀ h9, jj_eq [10] h h9 → h9 10 = upd (h 10) 7 v → Q (.inl none) (jj_S, 782, h9, g)) : jj_R mX4_put (d + 0) kc ks (jj_S, 782, h, g) 0 [(0, .ref 7), (1, .int 7), (2, .int v)] [] Q :=
  sp_X4_put7 (kq (jj_rs h [(10, rX4_put7_10 (h 10) v)]) (fun o ho => by rw [show jj_rs h [(10, rX4_put7_10 (h 10) v)] o = h o from by
    have : (o == 10) = false := by simpa using ho
    simp [jj_rs, List.lookup, this]]) rfl)
def vX3_holdOf_n (r2 : Nat → Int32) (r3 : Nat → Int32) (r6 : Nat → Int32) (r8 : Nat → Int32) (r38 : Nat → Int32) (r39 : Nat → Int32) (r41 : Nat → Int32) (m : Nat) (a : Int32) (b : Int32) (tw : Int32) : Int32 := hd_val r8 m (hd_vals (r2 a.toNatClampNeg) (r3 b.toNatClampNeg) (vX6_behindOf_n r38 r39 b) tw ((r6 a.toNatClampNeg >>> (b &&& 31)) &&& 1) (if a = b then 1 else 0) (r41 b.toNatClampNeg) (r38 0))
set_option maxHeartbeats 1000000 in
theorem sp_X3_holdOf_n {d kc ks : Nat} {h : Nat → Nat → Int32} {g : Nat → Nat → Int64} {Q : jj_Rs → jj_St → Prop} {m : Nat} {a : Int32} {b : Int32} {tw : Int32} (ha : vp_in a 8) (hb : vp_in b 8) (hm : h 7 1 = nI m) (hm2 : m ≤ 150) (kq : ∀ h9, jj_eq [10, 11] h h9 → Q (.inl (some (.int (vX3_holdOf_n (h 2) (h 3) (h 6) (h 8) (h 38) (h 39) (h 41) m a b tw)))) (jj_S, 782, h9, g)) : jj_R mX3_holdOf (d + 3) kc ks (jj_S, 782, h, g) 0 [(0, .ref 12), (1, .ref 38), (2, .int a), (3, .int b), (4, .int tw)] [] Q := by
  refine rr_aload_n 0 rfl rfl dX3_holdOf_0 ?_
  refine rr_getR dX3_holdOf_1 fX3_15 lo_12 sh_12 rfl ?_
  refine rr_iconst 0 rfl dX3_holdOf_4 ?_
  refine rr_aload_n 0 rfl rfl dX3_holdOf_5 ?_
  refine rr_getR dX3_holdOf_6 fX3_9 lo_12 sh_12 rfl ?_
  refine rr_getR dX3_holdOf_9 fX3_21 lo_1 sh_1 rfl ?_
  refine rr_iload_n 2 rfl rfl dX3_holdOf_12 ?_
  refine rr_iaload dX3_holdOf_13 lo_2 sh_2 (by first | assumption | exact vp_in_nI (by omega) (by decide) | decide | omega | exact jj_inL rfl) ?_
  refine rr_callV (As := [.int 0, .int ((h 2) (a : Int32).toNatClampNeg)]) (rest := []) (kc2 := 0) (ks2 := 0) dX3_holdOf_14 okX4_put lX3_27 lo_7 sh_7 rfl rfl (Nat.le_of_ble_eq_true rfl) (Nat.le_of_ble_eq_true rfl) rfl (by omega) (by simp [jj_rk]) (by simp [jj_rk]) ?_
  refine sp_X4_putL0  (fun h1 e2 r3 => ?_)
  have e4 := jj_lo0 (X := [10, 11]) (jj_eq.rf (X := [10, 11])) e2 (by decide)
  show jj_R _ _ kc ks (jj_S, 782, h1, g) 17 [(0, .ref 12), (1, .ref 38), (2, .int a), (3, .int b), (4, .int tw)] [] Q
  refine rr_aload_n 0 rfl rfl dX3_holdOf_17 ?_
  refine rr_getR dX3_holdOf_18 fX3_15 lo_12 sh_12 rfl ?_
  refine rr_iconst 1 rfl dX3_holdOf_21 ?_
  refine rr_aload_n 0 rfl rfl dX3_holdOf_22 ?_
  refine rr_getR dX3_holdOf_23 fX3_9 lo_12 sh_12 rfl ?_
  refine rr_getR dX3_holdOf_26 fX3_31 lo_1 sh_1 rfl ?_
  refine rr_iload_n 3 rfl rfl dX3_holdOf_29 ?_
  refine rr_iaload dX3_holdOf_30 lo_3 sh_3 (by first | assumption | exact vp_in_nI (by omega) (by decide) | decide | omega | exact jj_inL rfl) ?_
  rw [e4 3 (by decide)]
  refine rr_callV (As := [.int 1, .int ((h 3) (b : Int32).toNatClampNeg)]) (rest := []) (kc2 := 0) (ks2 := 0) dX3_holdOf_31 okX4_put lX3_27 lo_7 sh_7 rfl rfl (Nat.le_of_ble_eq_true rfl) (Nat.le_of_ble_eq_true rfl) rfl (by omega) (by simp [jj_rk]) (by simp [jj_rk]) ?_
  refine sp_X4_putL1  (fun h5 e6 r7 => ?_)
  have e8 := jj_lo0 (X := [10, 11]) e4 e6 (by decide)
  show jj_R _ _ kc ks (jj_S, 782, h5, g) 34 [(0, .ref 12), (1, .ref 38), (2, .int a), (3, .int b), (4, .int tw)] [] Q
  refine rr_aload_n 0 rfl rfl dX3_holdOf_34 ?_
  refine rr_getR dX3_holdOf_35 fX3_15 lo_12 sh_12 rfl ?_
  refine rr_iconst 2 rfl dX3_holdOf_38 ?_
  refine rr_aload_n 1 rfl rfl dX3_holdOf_39 ?_
  refine rr_iload_n 3 rfl rfl dX3_holdOf_40 ?_
  refine rr_callV (As := [.int b]) (rest := [.int 2, .ref 7]) (kc2 := 0) (ks2 := 0) dX3_holdOf_41 okX6_behindOf lX3_34 lo_38 sh_38 rfl rfl (Nat.le_of_ble_eq_true rfl) (Nat.le_of_ble_eq_true rfl) rfl (by omega) (by simp [jj_rk]) (by simp [jj_rk]) ?_
  refine sp_X6_behindOf_n (by first | assumption | (rw [e8 7 (by decide)]; assumption) | (rw [e8 1 (by decide)]; assumption) | exact vp_in_nI (by omega) (by decide) | decide | omega | exact jj_inL rfl) ?_
  show jj_R _ _ kc ks (jj_S, 782, h5, g) 44 [(0, .ref 12), (1, .ref 38), (2, .int a), (3, .int b), (4, .int tw)] [.int (vX6_behindOf_n (h5 38) (h5 39) b), .int 2, .ref 7] Q
  try rw [e8 38 (by decide)]
  try rw [e8 39 (by decide)]
  refine rr_callV (As := [.int 2, .int (vX6_behindOf_n (h 38) (h 39) b)]) (rest := []) (kc2 := 0) (ks2 := 0) dX3_holdOf_44 okX4_put lX3_27 lo_7 sh_7 rfl rfl (Nat.le_of_ble_eq_true rfl) (Nat.le_of_ble_eq_true rfl) rfl (by omega) (by simp [jj_rk]) (by simp [jj_rk]) ?_
  refine sp_X4_putL2  (fun h9 e10 r11 => ?_)
  have e12 := jj_lo0 (X := [10, 11]) e8 e10 (by decide)
  show jj_R _ _ kc ks (jj_S, 782, h9, g) 47 [(0, .ref 12), (1, .ref 38), (2, .int a), (3, .int b), (4, .int tw)] [] Q
  refine rr_aload_n 0 rfl rfl dX3_holdOf_47 ?_
  refine rr_getR dX3_holdOf_48 fX3_15 lo_12 sh_12 rfl ?_
  refine rr_iconst 3 rfl dX3_holdOf_51 ?_
  refine rr_iload 4 rfl dX3_holdOf_52 ?_
  refine rr_callV (As := [.int 3, .int tw]) (rest := []) (kc2 := 0) (ks2 := 0) dX3_holdOf_54 okX4_put lX3_27 lo_7 sh_7 rfl rfl (Nat.le_of_ble_eq_true rfl) (Nat.le_of_ble_eq_true rfl) rfl (by omega) (by simp [jj_rk]) (by simp [jj_rk]) ?_
  refine sp_X4_putL3  (fun h13 e14 r15 => ?_)
  have e16 := jj_lo0 (X := [10, 11]) e12 e14 (by decide)
  show jj_R _ _ kc ks (jj_S, 782, h13, g) 57 [(0, .ref 12), (1, .ref 38), (2, .int a), (3, .int b), (4, .int tw)] [] Q
  refine rr_aload_n 0 rfl rfl dX3_holdOf_57 ?_
  refine rr_getR dX3_holdOf_58 fX3_15 lo_12 sh_12 rfl ?_
  refine rr_iconst 4 rfl dX3_holdOf_61 ?_
  refine rr_aload_n 0 rfl rfl dX3_holdOf_62 ?_
  refine rr_getR dX3_holdOf_63 fX3_9 lo_12 sh_12 rfl ?_
  refine rr_getR dX3_holdOf_66 fX3_40 lo_1 sh_1 rfl ?_
  refine rr_iload_n 2 rfl rfl dX3_holdOf_69 ?_
  refine rr_iaload dX3_holdOf_70 lo_6 sh_6 (by first | assumption | exact vp_in_nI (by omega) (by decide) | decide | omega | exact jj_inL rfl) ?_
  rw [e16 6 (by decide)]
  refine rr_iload_n 3 rfl rfl dX3_holdOf_71 ?_
  refine rr_ishr dX3_holdOf_72 ?_
  refine rr_iconst 1 rfl dX3_holdOf_73 ?_
  refine rr_iand dX3_holdOf_74 ?_
  refine rr_callV (As := [.int 4, .int ((((h 6) (a : Int32).toNatClampNeg) >>> (b &&& 31)) &&& 1)]) (rest := []) (kc2 := 0) (ks2 := 0) dX3_holdOf_75 okX4_put lX3_27 lo_7 sh_7 rfl rfl (Nat.le_of_ble_eq_true rfl) (Nat.le_of_ble_eq_true rfl) rfl (by omega) (by simp [jj_rk]) (by simp [jj_rk]) ?_
  refine sp_X4_putL4  (fun h17 e18 r19 => ?_)
  have e20 := jj_lo0 (X := [10, 11]) e16 e18 (by decide)
  show jj_R _ _ kc ks (jj_S, 782, h17, g) 78 [(0, .ref 12), (1, .ref 38), (2, .int a), (3, .int b), (4, .int tw)] [] Q
  refine rr_aload_n 0 rfl rfl dX3_holdOf_78 ?_
  refine rr_getR dX3_holdOf_79 fX3_15 lo_12 sh_12 rfl ?_
  refine rr_iconst 5 rfl dX3_holdOf_82 ?_
  refine rr_iload_n 2 rfl rfl dX3_holdOf_83 ?_
  refine rr_iload_n 3 rfl rfl dX3_holdOf_84 ?_
  refine rr_icmp_ne dX3_holdOf_85 (fun c21 => ?_) (fun c21 => ?_)
  · skip
    refine rr_iconst 0 rfl dX3_holdOf_92 ?_
    refine rr_callV (As := [.int 5, .int 0]) (rest := []) (kc2 := 0) (ks2 := 0) dX3_holdOf_93 okX4_put lX3_27 lo_7 sh_7 rfl rfl (Nat.le_of_ble_eq_true rfl) (Nat.le_of_ble_eq_true rfl) rfl (by omega) (by simp [jj_rk]) (by simp [jj_rk]) ?_
    refine sp_X4_putL5  (fun h22 e23 r24 => ?_)
    have e25 := jj_lo0 (X := [10, 11]) e20 e23 (by decide)
    show jj_R _ _ kc ks (jj_S, 782, h22, g) 96 [(0, .ref 12), (1, .ref 38), (2, .int a), (3, .int b), (4, .int tw)] [] Q
    refine rr_aload_n 0 rfl rfl dX3_holdOf_96 ?_
    refine rr_getR dX3_holdOf_97 fX3_15 lo_12 sh_12 rfl ?_
    refine rr_bipush 6 rfl dX3_holdOf_100 ?_
    refine rr_aload_n 1 rfl rfl dX3_holdOf_102 ?_
    refine rr_getR dX3_holdOf_103 fX3_43 lo_38 sh_38 rfl ?_
    refine rr_iload_n 3 rfl rfl dX3_holdOf_106 ?_
    refine rr_iaload dX3_holdOf_107 lo_41 sh_41 (by first | assumption | exact vp_in_nI (by omega) (by decide) | decide | omega | exact jj_inL rfl) ?_
    rw [e25 41 (by decide)]
    refine rr_callV (As := [.int 6, .int ((h 41) (b : Int32).toNatClampNeg)]) (rest := []) (kc2 := 0) (ks2 := 0) dX3_holdOf_108 okX4_put lX3_27 lo_7 sh_7 rfl rfl (Nat.le_of_ble_eq_true rfl) (Nat.le_of_ble_eq_true rfl) rfl (by omega) (by simp [jj_rk]) (by simp [jj_rk]) ?_
    refine sp_X4_putL6  (fun h26 e27 r28 => ?_)
    have e29 := jj_lo0 (X := [10, 11]) e25 e27 (by decide)
    show jj_R _ _ kc ks (jj_S, 782, h26, g) 111 [(0, .ref 12), (1, .ref 38), (2, .int a), (3, .int b), (4, .int tw)] [] Q
    refine rr_aload_n 0 rfl rfl dX3_holdOf_111 ?_
    refine rr_getR dX3_holdOf_112 fX3_15 lo_12 sh_12 rfl ?_
    refine rr_bipush 7 rfl dX3_holdOf_115 ?_
    refine rr_aload_n 1 rfl rfl dX3_holdOf_117 ?_
    refine rr_getI dX3_holdOf_118 fX3_46 lo_38 sh_38 rfl ?_
    rw [e29 38 (by decide)]
    refine rr_callV (As := [.int 7, .int ((h 38) 0)]) (rest := []) (kc2 := 0) (ks2 := 0) dX3_holdOf_121 okX4_put lX3_27 lo_7 sh_7 rfl rfl (Nat.le_of_ble_eq_true rfl) (Nat.le_of_ble_eq_true rfl) rfl (by omega) (by simp [jj_rk]) (by simp [jj_rk]) ?_
    refine sp_X4_putL7  (fun h30 e31 r32 => ?_)
    have e33 := jj_lo0 (X := [10, 11]) e29 e31 (by decide)
    show jj_R _ _ kc ks (jj_S, 782, h30, g) 124 [(0, .ref 12), (1, .ref 38), (2, .int a), (3, .int b), (4, .int tw)] [] Q
    refine rr_aload_n 0 rfl rfl dX3_holdOf_124 ?_
    refine rr_getR dX3_holdOf_125 fX3_15 lo_12 sh_12 rfl ?_
    refine rr_callV (As := []) (rest := []) (kc2 := 0) (ks2 := 0) dX3_holdOf_128 okX4_worth lX3_50 lo_7 sh_7 rfl rfl (Nat.le_of_ble_eq_true rfl) (Nat.le_of_ble_eq_true rfl) rfl (by omega) (by simp [jj_rk]) (by simp [jj_rk]) ?_
    refine sp_X4_worth (by first | (rw [e33 7 (by decide)]; assumption) | assumption) (by first | (rw [e33 7 (by decide)]; assumption) | assumption) (fun h34 e35 => ?_)
    have e36 := jj_lo0 (X := [10, 11]) e33 e35 (by decide)
    show jj_R _ _ kc ks (jj_S, 782, h34, g) 131 [(0, .ref 12), (1, .ref 38), (2, .int a), (3, .int b), (4, .int tw)] [.int (vX4_worth (h30 8) (h30 10) (h30 11) m)] Q
    try rw [e33 8 (by decide)]
    refine rr_ireturn dX3_holdOf_131 rfl ?_
    have hv : vX4_worth (h 8) (h30 10) (h30 11) m = vX3_holdOf_n (h 2) (h 3) (h 6) (h 8) (h 38) (h 39) (h 41) m a b tw := by
      rw [hd_worth]
      unfold vX3_holdOf_n
      refine hd_congr (fun j hj => ?_)
      rw [r32, r28, r24, r19, r15, r11, r7, r3]
      rw [if_neg c21]
      rcases (show j = 0 ∨ j = 1 ∨ j = 2 ∨ j = 3 ∨ j = 4 ∨ j = 5 ∨ j = 6 ∨ j = 7 by omega) with rfl | rfl | rfl | rfl | rfl | rfl | rfl | rfl <;> rfl
    rw [hv]
    exact kq _ e36
  · skip
    refine rr_iconst 1 rfl dX3_holdOf_88 ?_
    refine rr_goto dX3_holdOf_89 ?_
    refine rr_callV (As := [.int 5, .int 1]) (rest := []) (kc2 := 0) (ks2 := 0) dX3_holdOf_93 okX4_put lX3_27 lo_7 sh_7 rfl rfl (Nat.le_of_ble_eq_true rfl) (Nat.le_of_ble_eq_true rfl) rfl (by omega) (by simp [jj_rk]) (by simp [jj_rk]) ?_
    refine sp_X4_putL5  (fun h37 e38 r39 => ?_)
    have e40 := jj_lo0 (X := [10, 11]) e20 e38 (by decide)
    show jj_R _ _ kc ks (jj_S, 782, h37, g) 96 [(0, .ref 12), (1, .ref 38), (2, .int a), (3, .int b), (4, .int tw)] [] Q
    refine rr_aload_n 0 rfl rfl dX3_holdOf_96 ?_
    refine rr_getR dX3_holdOf_97 fX3_15 lo_12 sh_12 rfl ?_
    refine rr_bipush 6 rfl dX3_holdOf_100 ?_
    refine rr_aload_n 1 rfl rfl dX3_holdOf_102 ?_
    refine rr_getR dX3_holdOf_103 fX3_43 lo_38 sh_38 rfl ?_
    refine rr_iload_n 3 rfl rfl dX3_holdOf_106 ?_
    refine rr_iaload dX3_holdOf_107 lo_41 sh_41 (by first | assumption | exact vp_in_nI (by omega) (by decide) | decide | omega | exact jj_inL rfl) ?_
    rw [e40 41 (by decide)]
    refine rr_callV (As := [.int 6, .int ((h 41) (b : Int32).toNatClampNeg)]) (rest := []) (kc2 := 0) (ks2 := 0) dX3_holdOf_108 okX4_put lX3_27 lo_7 sh_7 rfl rfl (Nat.le_of_ble_eq_true rfl) (Nat.le_of_ble_eq_true rfl) rfl (by omega) (by simp [jj_rk]) (by simp [jj_rk]) ?_
    refine sp_X4_putL6  (fun h41 e42 r43 => ?_)
    have e44 := jj_lo0 (X := [10, 11]) e40 e42 (by decide)
    show jj_R _ _ kc ks (jj_S, 782, h41, g) 111 [(0, .ref 12), (1, .ref 38), (2, .int a), (3, .int b), (4, .int tw)] [] Q
    refine rr_aload_n 0 rfl rfl dX3_holdOf_111 ?_
    refine rr_getR dX3_holdOf_112 fX3_15 lo_12 sh_12 rfl ?_
    refine rr_bipush 7 rfl dX3_holdOf_115 ?_
    refine rr_aload_n 1 rfl rfl dX3_holdOf_117 ?_
    refine rr_getI dX3_holdOf_118 fX3_46 lo_38 sh_38 rfl ?_
    rw [e44 38 (by decide)]
    refine rr_callV (As := [.int 7, .int ((h 38) 0)]) (rest := []) (kc2 := 0) (ks2 := 0) dX3_holdOf_121 okX4_put lX3_27 lo_7 sh_7 rfl rfl (Nat.le_of_ble_eq_true rfl) (Nat.le_of_ble_eq_true rfl) rfl (by omega) (by simp [jj_rk]) (by simp [jj_rk]) ?_
    refine sp_X4_putL7  (fun h45 e46 r47 => ?_)
    have e48 := jj_lo0 (X := [10, 11]) e44 e46 (by decide)
    show jj_R _ _ kc ks (jj_S, 782, h45, g) 124 [(0, .ref 12), (1, .ref 38), (2, .int a), (3, .int b), (4, .int tw)] [] Q
    refine rr_aload_n 0 rfl rfl dX3_holdOf_124 ?_
    refine rr_getR dX3_holdOf_125 fX3_15 lo_12 sh_12 rfl ?_
    refine rr_callV (As := []) (rest := []) (kc2 := 0) (ks2 := 0) dX3_holdOf_128 okX4_worth lX3_50 lo_7 sh_7 rfl rfl (Nat.le_of_ble_eq_true rfl) (Nat.le_of_ble_eq_true rfl) rfl (by omega) (by simp [jj_rk]) (by simp [jj_rk]) ?_
    refine sp_X4_worth (by first | (rw [e48 7 (by decide)]; assumption) | assumption) (by first | (rw [e48 7 (by decide)]; assumption) | assumption) (fun h49 e50 => ?_)
    have e51 := jj_lo0 (X := [10, 11]) e48 e50 (by decide)
    show jj_R _ _ kc ks (jj_S, 782, h49, g) 131 [(0, .ref 12), (1, .ref 38), (2, .int a), (3, .int b), (4, .int tw)] [.int (vX4_worth (h45 8) (h45 10) (h45 11) m)] Q
    try rw [e48 8 (by decide)]
    refine rr_ireturn dX3_holdOf_131 rfl ?_
    have hv : vX4_worth (h 8) (h45 10) (h45 11) m = vX3_holdOf_n (h 2) (h 3) (h 6) (h 8) (h 38) (h 39) (h 41) m a b tw := by
      rw [hd_worth]
      unfold vX3_holdOf_n
      refine hd_congr (fun j hj => ?_)
      rw [r47, r43, r39, r19, r15, r11, r7, r3]
      rw [if_pos c21]
      rcases (show j = 0 ∨ j = 1 ∨ j = 2 ∨ j = 3 ∨ j = 4 ∨ j = 5 ∨ j = 6 ∨ j = 7 by omega) with rfl | rfl | rfl | rfl | rfl | rfl | rfl | rfl <;> rfl
    rw [hv]
    exact kq _ e51
def vX3_holdOf_t (r2 : Nat → Int32) (r3 : Nat → Int32) (r6 : Nat → Int32) (r8 : Nat → Int32) (r43 : Nat → Int32) (r44 : Nat → Int32) (r46 : Nat → Int32) (m : Nat) (a : Int32) (b : Int32) (tw : Int32) : Int32 := hd_val r8 m (hd_vals (r2 a.toNatClampNeg) (r3 b.toNatClampNeg) (vX6_behindOf_t r43 r44 b) tw ((r6 a.toNatClampNeg >>> (b &&& 31)) &&& 1) (if a = b then 1 else 0) (r46 b.toNatClampNeg) (r43 0))
set_option maxHeartbeats 1000000 in
theorem sp_X3_holdOf_t {d kc ks : Nat} {h : Nat → Nat → Int32} {g : Nat → Nat → Int64} {Q : jj_Rs → jj_St → Prop} {m : Nat} {a : Int32} {b : Int32} {tw : Int32} (ha : vp_in a 8) (hb : vp_in b 8) (hm : h 7 1 = nI m) (hm2 : m ≤ 150) (kq : ∀ h9, jj_eq [10, 11] h h9 → Q (.inl (some (.int (vX3_holdOf_t (h 2) (h 3) (h 6) (h 8) (h 43) (h 44) (h 46) m a b tw)))) (jj_S, 782, h9, g)) : jj_R mX3_holdOf (d + 3) kc ks (jj_S, 782, h, g) 0 [(0, .ref 12), (1, .ref 43), (2, .int a), (3, .int b), (4, .int tw)] [] Q := by
  refine rr_aload_n 0 rfl rfl dX3_holdOf_0 ?_
  refine rr_getR dX3_holdOf_1 fX3_15 lo_12 sh_12 rfl ?_
  refine rr_iconst 0 rfl dX3_holdOf_4 ?_
  refine rr_aload_n 0 rfl rfl dX3_holdOf_5 ?_
  refine rr_getR dX3_holdOf_6 fX3_9 lo_12 sh_12 rfl ?_
  refine rr_getR dX3_holdOf_9 fX3_21 lo_1 sh_1 rfl ?_
  refine rr_iload_n 2 rfl rfl dX3_holdOf_12 ?_
  refine rr_iaload dX3_holdOf_13 lo_2 sh_2 (by first | assumption | exact vp_in_nI (by omega) (by decide) | decide | omega | exact jj_inL rfl) ?_
  refine rr_callV (As := [.int 0, .int ((h 2) (a : Int32).toNatClampNeg)]) (rest := []) (kc2 := 0) (ks2 := 0) dX3_holdOf_14 okX4_put lX3_27 lo_7 sh_7 rfl rfl (Nat.le_of_ble_eq_true rfl) (Nat.le_of_ble_eq_true rfl) rfl (by omega) (by simp [jj_rk]) (by simp [jj_rk]) ?_
  refine sp_X4_putL0  (fun h1 e2 r3 => ?_)
  have e4 := jj_lo0 (X := [10, 11]) (jj_eq.rf (X := [10, 11])) e2 (by decide)
  show jj_R _ _ kc ks (jj_S, 782, h1, g) 17 [(0, .ref 12), (1, .ref 43), (2, .int a), (3, .int b), (4, .int tw)] [] Q
  refine rr_aload_n 0 rfl rfl dX3_holdOf_17 ?_
  refine rr_getR dX3_holdOf_18 fX3_15 lo_12 sh_12 rfl ?_
  refine rr_iconst 1 rfl dX3_holdOf_21 ?_
  refine rr_aload_n 0 rfl rfl dX3_holdOf_22 ?_
  refine rr_getR dX3_holdOf_23 fX3_9 lo_12 sh_12 rfl ?_
  refine rr_getR dX3_holdOf_26 fX3_31 lo_1 sh_1 rfl ?_
  refine rr_iload_n 3 rfl rfl dX3_holdOf_29 ?_
  refine rr_iaload dX3_holdOf_30 lo_3 sh_3 (by first | assumption | exact vp_in_nI (by omega) (by decide) | decide | omega | exact jj_inL rfl) ?_
  rw [e4 3 (by decide)]
  refine rr_callV (As := [.int 1, .int ((h 3) (b : Int32).toNatClampNeg)]) (rest := []) (kc2 := 0) (ks2 := 0) dX3_holdOf_31 okX4_put lX3_27 lo_7 sh_7 rfl rfl (Nat.le_of_ble_eq_true rfl) (Nat.le_of_ble_eq_true rfl) rfl (by omega) (by simp [jj_rk]) (by simp [jj_rk]) ?_
  refine sp_X4_putL1  (fun h5 e6 r7 => ?_)
  have e8 := jj_lo0 (X := [10, 11]) e4 e6 (by decide)
  show jj_R _ _ kc ks (jj_S, 782, h5, g) 34 [(0, .ref 12), (1, .ref 43), (2, .int a), (3, .int b), (4, .int tw)] [] Q
  refine rr_aload_n 0 rfl rfl dX3_holdOf_34 ?_
  refine rr_getR dX3_holdOf_35 fX3_15 lo_12 sh_12 rfl ?_
  refine rr_iconst 2 rfl dX3_holdOf_38 ?_
  refine rr_aload_n 1 rfl rfl dX3_holdOf_39 ?_
  refine rr_iload_n 3 rfl rfl dX3_holdOf_40 ?_
  refine rr_callV (As := [.int b]) (rest := [.int 2, .ref 7]) (kc2 := 0) (ks2 := 0) dX3_holdOf_41 okX6_behindOf lX3_34 lo_43 sh_43 rfl rfl (Nat.le_of_ble_eq_true rfl) (Nat.le_of_ble_eq_true rfl) rfl (by omega) (by simp [jj_rk]) (by simp [jj_rk]) ?_
  refine sp_X6_behindOf_t (by first | assumption | (rw [e8 7 (by decide)]; assumption) | (rw [e8 1 (by decide)]; assumption) | exact vp_in_nI (by omega) (by decide) | decide | omega | exact jj_inL rfl) ?_
  show jj_R _ _ kc ks (jj_S, 782, h5, g) 44 [(0, .ref 12), (1, .ref 43), (2, .int a), (3, .int b), (4, .int tw)] [.int (vX6_behindOf_t (h5 43) (h5 44) b), .int 2, .ref 7] Q
  try rw [e8 43 (by decide)]
  try rw [e8 44 (by decide)]
  refine rr_callV (As := [.int 2, .int (vX6_behindOf_t (h 43) (h 44) b)]) (rest := []) (kc2 := 0) (ks2 := 0) dX3_holdOf_44 okX4_put lX3_27 lo_7 sh_7 rfl rfl (Nat.le_of_ble_eq_true rfl) (Nat.le_of_ble_eq_true rfl) rfl (by omega) (by simp [jj_rk]) (by simp [jj_rk]) ?_
  refine sp_X4_putL2  (fun h9 e10 r11 => ?_)
  have e12 := jj_lo0 (X := [10, 11]) e8 e10 (by decide)
  show jj_R _ _ kc ks (jj_S, 782, h9, g) 47 [(0, .ref 12), (1, .ref 43), (2, .int a), (3, .int b), (4, .int tw)] [] Q
  refine rr_aload_n 0 rfl rfl dX3_holdOf_47 ?_
  refine rr_getR dX3_holdOf_48 fX3_15 lo_12 sh_12 rfl ?_
  refine rr_iconst 3 rfl dX3_holdOf_51 ?_
  refine rr_iload 4 rfl dX3_holdOf_52 ?_
  refine rr_callV (As := [.int 3, .int tw]) (rest := []) (kc2 := 0) (ks2 := 0) dX3_holdOf_54 okX4_put lX3_27 lo_7 sh_7 rfl rfl (Nat.le_of_ble_eq_true rfl) (Nat.le_of_ble_eq_true rfl) rfl (by omega) (by simp [jj_rk]) (by simp [jj_rk]) ?_
  refine sp_X4_putL3  (fun h13 e14 r15 => ?_)
  have e16 := jj_lo0 (X := [10, 11]) e12 e14 (by decide)
  show jj_R _ _ kc ks (jj_S, 782, h13, g) 57 [(0, .ref 12), (1, .ref 43), (2, .int a), (3, .int b), (4, .int tw)] [] Q
  refine rr_aload_n 0 rfl rfl dX3_holdOf_57 ?_
  refine rr_getR dX3_holdOf_58 fX3_15 lo_12 sh_12 rfl ?_
  refine rr_iconst 4 rfl dX3_holdOf_61 ?_
  refine rr_aload_n 0 rfl rfl dX3_holdOf_62 ?_
  refine rr_getR dX3_holdOf_63 fX3_9 lo_12 sh_12 rfl ?_
  refine rr_getR dX3_holdOf_66 fX3_40 lo_1 sh_1 rfl ?_
  refine rr_iload_n 2 rfl rfl dX3_holdOf_69 ?_
  refine rr_iaload dX3_holdOf_70 lo_6 sh_6 (by first | assumption | exact vp_in_nI (by omega) (by decide) | decide | omega | exact jj_inL rfl) ?_
  rw [e16 6 (by decide)]
  refine rr_iload_n 3 rfl rfl dX3_holdOf_71 ?_
  refine rr_ishr dX3_holdOf_72 ?_
  refine rr_iconst 1 rfl dX3_holdOf_73 ?_
  refine rr_iand dX3_holdOf_74 ?_
  refine rr_callV (As := [.int 4, .int ((((h 6) (a : Int32).toNatClampNeg) >>> (b &&& 31)) &&& 1)]) (rest := []) (kc2 := 0) (ks2 := 0) dX3_holdOf_75 okX4_put lX3_27 lo_7 sh_7 rfl rfl (Nat.le_of_ble_eq_true rfl) (Nat.le_of_ble_eq_true rfl) rfl (by omega) (by simp [jj_rk]) (by simp [jj_rk]) ?_
  refine sp_X4_putL4  (fun h17 e18 r19 => ?_)
  have e20 := jj_lo0 (X := [10, 11]) e16 e18 (by decide)
  show jj_R _ _ kc ks (jj_S, 782, h17, g) 78 [(0, .ref 12), (1, .ref 43), (2, .int a), (3, .int b), (4, .int tw)] [] Q
  refine rr_aload_n 0 rfl rfl dX3_holdOf_78 ?_
  refine rr_getR dX3_holdOf_79 fX3_15 lo_12 sh_12 rfl ?_
  refine rr_iconst 5 rfl dX3_holdOf_82 ?_
  refine rr_iload_n 2 rfl rfl dX3_holdOf_83 ?_
  refine rr_iload_n 3 rfl rfl dX3_holdOf_84 ?_
  refine rr_icmp_ne dX3_holdOf_85 (fun c21 => ?_) (fun c21 => ?_)
  · skip
    refine rr_iconst 0 rfl dX3_holdOf_92 ?_
    refine rr_callV (As := [.int 5, .int 0]) (rest := []) (kc2 := 0) (ks2 := 0) dX3_holdOf_93 okX4_put lX3_27 lo_7 sh_7 rfl rfl (Nat.le_of_ble_eq_true rfl) (Nat.le_of_ble_eq_true rfl) rfl (by omega) (by simp [jj_rk]) (by simp [jj_rk]) ?_
    refine sp_X4_putL5  (fun h22 e23 r24 => ?_)
    have e25 := jj_lo0 (X := [10, 11]) e20 e23 (by decide)
    show jj_R _ _ kc ks (jj_S, 782, h22, g) 96 [(0, .ref 12), (1, .ref 43), (2, .int a), (3, .int b), (4, .int tw)] [] Q
    refine rr_aload_n 0 rfl rfl dX3_holdOf_96 ?_
    refine rr_getR dX3_holdOf_97 fX3_15 lo_12 sh_12 rfl ?_
    refine rr_bipush 6 rfl dX3_holdOf_100 ?_
    refine rr_aload_n 1 rfl rfl dX3_holdOf_102 ?_
    refine rr_getR dX3_holdOf_103 fX3_43 lo_43 sh_43 rfl ?_
    refine rr_iload_n 3 rfl rfl dX3_holdOf_106 ?_
    refine rr_iaload dX3_holdOf_107 lo_46 sh_46 (by first | assumption | exact vp_in_nI (by omega) (by decide) | decide | omega | exact jj_inL rfl) ?_
    rw [e25 46 (by decide)]
    refine rr_callV (As := [.int 6, .int ((h 46) (b : Int32).toNatClampNeg)]) (rest := []) (kc2 := 0) (ks2 := 0) dX3_holdOf_108 okX4_put lX3_27 lo_7 sh_7 rfl rfl (Nat.le_of_ble_eq_true rfl) (Nat.le_of_ble_eq_true rfl) rfl (by omega) (by simp [jj_rk]) (by simp [jj_rk]) ?_
    refine sp_X4_putL6  (fun h26 e27 r28 => ?_)
    have e29 := jj_lo0 (X := [10, 11]) e25 e27 (by decide)
    show jj_R _ _ kc ks (jj_S, 782, h26, g) 111 [(0, .ref 12), (1, .ref 43), (2, .int a), (3, .int b), (4, .int tw)] [] Q
    refine rr_aload_n 0 rfl rfl dX3_holdOf_111 ?_
    refine rr_getR dX3_holdOf_112 fX3_15 lo_12 sh_12 rfl ?_
    refine rr_bipush 7 rfl dX3_holdOf_115 ?_
    refine rr_aload_n 1 rfl rfl dX3_holdOf_117 ?_
    refine rr_getI dX3_holdOf_118 fX3_46 lo_43 sh_43 rfl ?_
    rw [e29 43 (by decide)]
    refine rr_callV (As := [.int 7, .int ((h 43) 0)]) (rest := []) (kc2 := 0) (ks2 := 0) dX3_holdOf_121 okX4_put lX3_27 lo_7 sh_7 rfl rfl (Nat.le_of_ble_eq_true rfl) (Nat.le_of_ble_eq_true rfl) rfl (by omega) (by simp [jj_rk]) (by simp [jj_rk]) ?_
    refine sp_X4_putL7  (fun h30 e31 r32 => ?_)
    have e33 := jj_lo0 (X := [10, 11]) e29 e31 (by decide)
    show jj_R _ _ kc ks (jj_S, 782, h30, g) 124 [(0, .ref 12), (1, .ref 43), (2, .int a), (3, .int b), (4, .int tw)] [] Q
    refine rr_aload_n 0 rfl rfl dX3_holdOf_124 ?_
    refine rr_getR dX3_holdOf_125 fX3_15 lo_12 sh_12 rfl ?_
    refine rr_callV (As := []) (rest := []) (kc2 := 0) (ks2 := 0) dX3_holdOf_128 okX4_worth lX3_50 lo_7 sh_7 rfl rfl (Nat.le_of_ble_eq_true rfl) (Nat.le_of_ble_eq_true rfl) rfl (by omega) (by simp [jj_rk]) (by simp [jj_rk]) ?_
    refine sp_X4_worth (by first | (rw [e33 7 (by decide)]; assumption) | assumption) (by first | (rw [e33 7 (by decide)]; assumption) | assumption) (fun h34 e35 => ?_)
    have e36 := jj_lo0 (X := [10, 11]) e33 e35 (by decide)
    show jj_R _ _ kc ks (jj_S, 782, h34, g) 131 [(0, .ref 12), (1, .ref 43), (2, .int a), (3, .int b), (4, .int tw)] [.int (vX4_worth (h30 8) (h30 10) (h30 11) m)] Q
    try rw [e33 8 (by decide)]
    refine rr_ireturn dX3_holdOf_131 rfl ?_
    have hv : vX4_worth (h 8) (h30 10) (h30 11) m = vX3_holdOf_t (h 2) (h 3) (h 6) (h 8) (h 43) (h 44) (h 46) m a b tw := by
      rw [hd_worth]
      unfold vX3_holdOf_t
      refine hd_congr (fun j hj => ?_)
      rw [r32, r28, r24, r19, r15, r11, r7, r3]
      rw [if_neg c21]
      rcases (show j = 0 ∨ j = 1 ∨ j = 2 ∨ j = 3 ∨ j = 4 ∨ j = 5 ∨ j = 6 ∨ j = 7 by omega) with rfl | rfl | rfl | rfl | rfl | rfl | rfl | rfl <;> rfl
    rw [hv]
    exact kq _ e36
  · skip
    refine rr_iconst 1 rfl dX3_holdOf_88 ?_
    refine rr_goto dX3_holdOf_89 ?_
    refine rr_callV (As := [.int 5, .int 1]) (rest := []) (kc2 := 0) (ks2 := 0) dX3_holdOf_93 okX4_put lX3_27 lo_7 sh_7 rfl rfl (Nat.le_of_ble_eq_true rfl) (Nat.le_of_ble_eq_true rfl) rfl (by omega) (by simp [jj_rk]) (by simp [jj_rk]) ?_
    refine sp_X4_putL5  (fun h37 e38 r39 => ?_)
    have e40 := jj_lo0 (X := [10, 11]) e20 e38 (by decide)
    show jj_R _ _ kc ks (jj_S, 782, h37, g) 96 [(0, .ref 12), (1, .ref 43), (2, .int a), (3, .int b), (4, .int tw)] [] Q
    refine rr_aload_n 0 rfl rfl dX3_holdOf_96 ?_
    refine rr_getR dX3_holdOf_97 fX3_15 lo_12 sh_12 rfl ?_
    refine rr_bipush 6 rfl dX3_holdOf_100 ?_
    refine rr_aload_n 1 rfl rfl dX3_holdOf_102 ?_
    refine rr_getR dX3_holdOf_103 fX3_43 lo_43 sh_43 rfl ?_
    refine rr_iload_n 3 rfl rfl dX3_holdOf_106 ?_
    refine rr_iaload dX3_holdOf_107 lo_46 sh_46 (by first | assumption | exact vp_in_nI (by omega) (by decide) | decide | omega | exact jj_inL rfl) ?_
    rw [e40 46 (by decide)]
    refine rr_callV (As := [.int 6, .int ((h 46) (b : Int32).toNatClampNeg)]) (rest := []) (kc2 := 0) (ks2 := 0) dX3_holdOf_108 okX4_put lX3_27 lo_7 sh_7 rfl rfl (Nat.le_of_ble_eq_true rfl) (Nat.le_of_ble_eq_true rfl) rfl (by omega) (by simp [jj_rk]) (by simp [jj_rk]) ?_
    refine sp_X4_putL6  (fun h41 e42 r43 => ?_)
    have e44 := jj_lo0 (X := [10, 11]) e40 e42 (by decide)
    show jj_R _ _ kc ks (jj_S, 782, h41, g) 111 [(0, .ref 12), (1, .ref 43), (2, .int a), (3, .int b), (4, .int tw)] [] Q
    refine rr_aload_n 0 rfl rfl dX3_holdOf_111 ?_
    refine rr_getR dX3_holdOf_112 fX3_15 lo_12 sh_12 rfl ?_
    refine rr_bipush 7 rfl dX3_holdOf_115 ?_
    refine rr_aload_n 1 rfl rfl dX3_holdOf_117 ?_
    refine rr_getI dX3_holdOf_118 fX3_46 lo_43 sh_43 rfl ?_
    rw [e44 43 (by decide)]
    refine rr_callV (As := [.int 7, .int ((h 43) 0)]) (rest := []) (kc2 := 0) (ks2 := 0) dX3_holdOf_121 okX4_put lX3_27 lo_7 sh_7 rfl rfl (Nat.le_of_ble_eq_true rfl) (Nat.le_of_ble_eq_true rfl) rfl (by omega) (by simp [jj_rk]) (by simp [jj_rk]) ?_
    refine sp_X4_putL7  (fun h45 e46 r47 => ?_)
    have e48 := jj_lo0 (X := [10, 11]) e44 e46 (by decide)
    show jj_R _ _ kc ks (jj_S, 782, h45, g) 124 [(0, .ref 12), (1, .ref 43), (2, .int a), (3, .int b), (4, .int tw)] [] Q
    refine rr_aload_n 0 rfl rfl dX3_holdOf_124 ?_
    refine rr_getR dX3_holdOf_125 fX3_15 lo_12 sh_12 rfl ?_
    refine rr_callV (As := []) (rest := []) (kc2 := 0) (ks2 := 0) dX3_holdOf_128 okX4_worth lX3_50 lo_7 sh_7 rfl rfl (Nat.le_of_ble_eq_true rfl) (Nat.le_of_ble_eq_true rfl) rfl (by omega) (by simp [jj_rk]) (by simp [jj_rk]) ?_
    refine sp_X4_worth (by first | (rw [e48 7 (by decide)]; assumption) | assumption) (by first | (rw [e48 7 (by decide)]; assumption) | assumption) (fun h49 e50 => ?_)
    have e51 := jj_lo0 (X := [10, 11]) e48 e50 (by decide)
    show jj_R _ _ kc ks (jj_S, 782, h49, g) 131 [(0, .ref 12), (1, .ref 43), (2, .int a), (3, .int b), (4, .int tw)] [.int (vX4_worth (h45 8) (h45 10) (h45 11) m)] Q
    try rw [e48 8 (by decide)]
    refine rr_ireturn dX3_holdOf_131 rfl ?_
    have hv : vX4_worth (h 8) (h45 10) (h45 11) m = vX3_holdOf_t (h 2) (h 3) (h 6) (h 8) (h 43) (h 44) (h 46) m a b tw := by
      rw [hd_worth]
      unfold vX3_holdOf_t
      refine hd_congr (fun j hj => ?_)
      rw [r47, r43, r39, r19, r15, r11, r7, r3]
      rw [if_pos c21]
      rcases (show j = 0 ∨ j = 1 ∨ j = 2 ∨ j = 3 ∨ j = 4 ∨ j = 5 ∨ j = 6 ∨ j = 7 by omega) with rfl | rfl | rfl | rfl | rfl | rfl | rfl | rfl <;> rfl
    rw [hv]
    exact kq _ e51
def vX3_wouldTie_n (r2 : Nat → Int32) (r3 : Nat → Int32) (r6 : Nat → Int32) (r8 : Nat → Int32) (r38 : Nat → Int32) (r39 : Nat → Int32) (r40 : Nat → Int32) (r41 : Nat → Int32) (m : Nat) (a : Int32) (b : Int32) : Int32 := (if (vX6_mayTie_n r38 r40 a b) = 0 then 0 else (if (vX3_holdOf_n r2 r3 r6 r8 r38 r39 r41 m a b 0) < 10 then 0 else 1))
set_option maxHeartbeats 1000000 in
theorem sp_X3_wouldTie_n {d kc ks : Nat} {h : Nat → Nat → Int32} {g : Nat → Nat → Int64} {Q : jj_Rs → jj_St → Prop} {m : Nat} {a : Int32} {b : Int32} (ha : vp_in a 8) (hb : vp_in b 8) (hm : h 7 1 = nI m) (hm2 : m ≤ 150) (kq : ∀ h9, jj_eq [10, 11] h h9 → Q (.inl (some (.int (vX3_wouldTie_n (h 2) (h 3) (h 6) (h 8) (h 38) (h 39) (h 40) (h 41) m a b)))) (jj_S, 782, h9, g)) : jj_R mX3_wouldTie (d + 4) kc ks (jj_S, 782, h, g) 0 [(0, .ref 12), (1, .ref 38), (2, .int a), (3, .int b)] [] Q := by
  refine rr_aload_n 1 rfl rfl dX3_wouldTie_0 ?_
  refine rr_iload_n 2 rfl rfl dX3_wouldTie_1 ?_
  refine rr_iload_n 3 rfl rfl dX3_wouldTie_2 ?_
  refine rr_callV (As := [.int a, .int b]) (rest := []) (kc2 := 0) (ks2 := 0) dX3_wouldTie_3 okX6_mayTie lX3_54 lo_38 sh_38 rfl rfl (Nat.le_of_ble_eq_true rfl) (Nat.le_of_ble_eq_true rfl) rfl (by omega) (by simp [jj_rk]) (by simp [jj_rk]) ?_
  refine sp_X6_mayTie_n (by first | assumption | exact vp_in_nI (by omega) (by decide) | decide | omega | exact jj_inL rfl) (by first | assumption | exact vp_in_nI (by omega) (by decide) | decide | omega | exact jj_inL rfl) ?_
  show jj_R _ _ kc ks (jj_S, 782, h, g) 6 [(0, .ref 12), (1, .ref 38), (2, .int a), (3, .int b)] [.int (vX6_mayTie_n (h 38) (h 40) a b)] Q
  refine rr_if_eq dX3_wouldTie_6 (fun c1 => ?_) (fun c1 => ?_)
  · skip
    refine rr_iconst 0 rfl dX3_wouldTie_26 ?_
    refine rr_nreturn dX3_wouldTie_27 rfl (by first | rfl | assumption) ?_
    simpa only [vX3_wouldTie_n, if_pos c1] using kq h jj_eq.rf
  · skip
    refine rr_aload_n 0 rfl rfl dX3_wouldTie_9 ?_
    refine rr_aload_n 1 rfl rfl dX3_wouldTie_10 ?_
    refine rr_iload_n 2 rfl rfl dX3_wouldTie_11 ?_
    refine rr_iload_n 3 rfl rfl dX3_wouldTie_12 ?_
    refine rr_iconst 0 rfl dX3_wouldTie_13 ?_
    refine rr_callV (As := [.ref 38, .int a, .int b, .int 0]) (rest := []) (kc2 := 0) (ks2 := 0) dX3_wouldTie_14 okX3_holdOf lX3_58 lo_12 sh_12 rfl rfl (Nat.le_of_ble_eq_true rfl) (Nat.le_of_ble_eq_true rfl) rfl (by omega) (by simp [jj_rk]) (by simp [jj_rk]) ?_
    refine sp_X3_holdOf_n (by first | assumption | exact vp_in_nI (by omega) (by decide) | decide | omega | exact jj_inL rfl) (by first | assumption | exact vp_in_nI (by omega) (by decide) | decide | omega | exact jj_inL rfl) (by first | assumption | exact vp_in_nI (by omega) (by decide) | decide | omega | exact jj_inL rfl) (by first | assumption | exact vp_in_nI (by omega) (by decide) | decide | omega | exact jj_inL rfl) (fun h2 e3 => ?_)
    have e4 := jj_lo0 (X := [10, 11]) (jj_eq.rf (X := [10, 11])) e3 (by decide)
    show jj_R _ _ kc ks (jj_S, 782, h2, g) 17 [(0, .ref 12), (1, .ref 38), (2, .int a), (3, .int b)] [.int (vX3_holdOf_n (h 2) (h 3) (h 6) (h 8) (h 38) (h 39) (h 41) m a b 0)] Q
    refine rr_bipush 10 rfl dX3_wouldTie_17 ?_
    refine rr_icmp_lt dX3_wouldTie_19 (fun c5 => ?_) (fun c5 => ?_)
    · skip
      refine rr_iconst 0 rfl dX3_wouldTie_26 ?_
      refine rr_nreturn dX3_wouldTie_27 rfl (by first | rfl | assumption) ?_
      simpa only [vX3_wouldTie_n, if_neg c1, if_pos c5] using kq h2 e4
    · skip
      refine rr_iconst 1 rfl dX3_wouldTie_22 ?_
      refine rr_goto dX3_wouldTie_23 ?_
      refine rr_nreturn dX3_wouldTie_27 rfl (by first | rfl | assumption) ?_
      simpa only [vX3_wouldTie_n, if_neg c1, if_neg c5] using kq h2 e4
def vX3_tieLace_n (r2 : Nat → Int32) (r3 : Nat → Int32) (r6 : Nat → Int32) (r8 : Nat → Int32) (r38 : Nat → Int32) (r39 : Nat → Int32) (r40 : Nat → Int32) (r41 : Nat → Int32) (r42 : Nat → Int32) (m : Nat) (a : Int32) (b : Int32) (tw : Int32) : Int32 := (if (vX6_mayTie_n r38 r40 a b) = 0 then 0 else 1)
def rX3_tieLace_n_38 (r2 : Nat → Int32) (r3 : Nat → Int32) (r6 : Nat → Int32) (r8 : Nat → Int32) (r38 : Nat → Int32) (r39 : Nat → Int32) (r40 : Nat → Int32) (r41 : Nat → Int32) (r42 : Nat → Int32) (m : Nat) (a : Int32) (b : Int32) (tw : Int32) : Nat → Int32 := (if (vX6_mayTie_n r38 r40 a b) = 0 then r38 else (if 10 ≤ (vX3_holdOf_n r2 r3 r6 r8 r38 r39 r41 m a b tw) then (upd r38 (1) ((r38 1) + 1)) else r38))
def rX3_tieLace_n_39 (r2 : Nat → Int32) (r3 : Nat → Int32) (r6 : Nat → Int32) (r8 : Nat → Int32) (r38 : Nat → Int32) (r39 : Nat → Int32) (r40 : Nat → Int32) (r41 : Nat → Int32) (r42 : Nat → Int32) (m : Nat) (a : Int32) (b : Int32) (tw : Int32) : Nat → Int32 := (if (vX6_mayTie_n r38 r40 a b) = 0 then r39 else (if 10 ≤ (vX3_holdOf_n r2 r3 r6 r8 r38 r39 r41 m a b tw) then (upd r39 ((b : Int32).toNatClampNeg) (vX3_dayBy_n r38 r39 a b)) else r39))
def rX3_tieLace_n_40 (r2 : Nat → Int32) (r3 : Nat → Int32) (r6 : Nat → Int32) (r8 : Nat → Int32) (r38 : Nat → Int32) (r39 : Nat → Int32) (r40 : Nat → Int32) (r41 : Nat → Int32) (r42 : Nat → Int32) (m : Nat) (a : Int32) (b : Int32) (tw : Int32) : Nat → Int32 := (if (vX6_mayTie_n r38 r40 a b) = 0 then r40 else (if 10 ≤ (vX3_holdOf_n r2 r3 r6 r8 r38 r39 r41 m a b tw) then (upd r40 ((b : Int32).toNatClampNeg) (1 + tw)) else r40))
def rX3_tieLace_n_41 (r2 : Nat → Int32) (r3 : Nat → Int32) (r6 : Nat → Int32) (r8 : Nat → Int32) (r38 : Nat → Int32) (r39 : Nat → Int32) (r40 : Nat → Int32) (r41 : Nat → Int32) (r42 : Nat → Int32) (m : Nat) (a : Int32) (b : Int32) (tw : Int32) : Nat → Int32 := (if (vX6_mayTie_n r38 r40 a b) = 0 then r41 else (if 10 ≤ (vX3_holdOf_n r2 r3 r6 r8 r38 r39 r41 m a b tw) then r41 else (upd r41 ((b : Int32).toNatClampNeg) ((r41 (b : Int32).toNatClampNeg) + 1))))
def rX3_tieLace_n_42 (r2 : Nat → Int32) (r3 : Nat → Int32) (r6 : Nat → Int32) (r8 : Nat → Int32) (r38 : Nat → Int32) (r39 : Nat → Int32) (r40 : Nat → Int32) (r41 : Nat → Int32) (r42 : Nat → Int32) (m : Nat) (a : Int32) (b : Int32) (tw : Int32) : Nat → Int32 := (if (vX6_mayTie_n r38 r40 a b) = 0 then r42 else (if 10 ≤ (vX3_holdOf_n r2 r3 r6 r8 r38 r39 r41 m a b tw) then (upd r42 ((b : Int32).toNatClampNeg) a) else r42))
set_option maxHeartbeats 1000000 in
theorem sp_X3_tieLace_n {d kc ks : Nat} {h : Nat → Nat → Int32} {g : Nat → Nat → Int64} {Q : jj_Rs → jj_St → Prop} {m : Nat} {a : Int32} {b : Int32} {tw : Int32} (ha : vp_in a 8) (hb : vp_in b 8) (hm : h 7 1 = nI m) (hm2 : m ≤ 150) (kq : ∀ h9, jj_eq [10, 11] h h9 → Q (.inl (some (.int (vX3_tieLace_n (h 2) (h 3) (h 6) (h 8) (h 38) (h 39) (h 40) (h 41) (h 42) m a b tw)))) (jj_S, 782, (jj_rs h9 [(38, (rX3_tieLace_n_38 (h 2) (h 3) (h 6) (h 8) (h 38) (h 39) (h 40) (h 41) (h 42) m a b tw)), (39, (rX3_tieLace_n_39 (h 2) (h 3) (h 6) (h 8) (h 38) (h 39) (h 40) (h 41) (h 42) m a b tw)), (40, (rX3_tieLace_n_40 (h 2) (h 3) (h 6) (h 8) (h 38) (h 39) (h 40) (h 41) (h 42) m a b tw)), (41, (rX3_tieLace_n_41 (h 2) (h 3) (h 6) (h 8) (h 38) (h 39) (h 40) (h 41) (h 42) m a b tw)), (42, (rX3_tieLace_n_42 (h 2) (h 3) (h 6) (h 8) (h 38) (h 39) (h 40) (h 41) (h 42) m a b tw))]), g)) : jj_R mX3_tieLace (d + 4) kc ks (jj_S, 782, h, g) 0 [(0, .ref 12), (1, .ref 38), (2, .int a), (3, .int b), (4, .int tw)] [] Q := by
  refine rr_aload_n 1 rfl rfl dX3_tieLace_0 ?_
  refine rr_iload_n 2 rfl rfl dX3_tieLace_1 ?_
  refine rr_iload_n 3 rfl rfl dX3_tieLace_2 ?_
  refine rr_callV (As := [.int a, .int b]) (rest := []) (kc2 := 0) (ks2 := 0) dX3_tieLace_3 okX6_mayTie lX3_54 lo_38 sh_38 rfl rfl (Nat.le_of_ble_eq_true rfl) (Nat.le_of_ble_eq_true rfl) rfl (by omega) (by simp [jj_rk]) (by simp [jj_rk]) ?_
  refine sp_X6_mayTie_n (by first | assumption | exact vp_in_nI (by omega) (by decide) | decide | omega | exact jj_inL rfl) (by first | assumption | exact vp_in_nI (by omega) (by decide) | decide | omega | exact jj_inL rfl) ?_
  show jj_R _ _ kc ks (jj_S, 782, h, g) 6 [(0, .ref 12), (1, .ref 38), (2, .int a), (3, .int b), (4, .int tw)] [.int (vX6_mayTie_n (h 38) (h 40) a b)] Q
  refine rr_if_ne dX3_tieLace_6 (fun c1 => ?_) (fun c1 => ?_)
  · skip
    refine rr_aload_n 0 rfl rfl dX3_tieLace_11 ?_
    refine rr_aload_n 1 rfl rfl dX3_tieLace_12 ?_
    refine rr_iload_n 2 rfl rfl dX3_tieLace_13 ?_
    refine rr_iload_n 3 rfl rfl dX3_tieLace_14 ?_
    refine rr_iload 4 rfl dX3_tieLace_15 ?_
    refine rr_callV (As := [.ref 38, .int a, .int b, .int tw]) (rest := []) (kc2 := 0) (ks2 := 0) dX3_tieLace_17 okX3_holdOf lX3_58 lo_12 sh_12 rfl rfl (Nat.le_of_ble_eq_true rfl) (Nat.le_of_ble_eq_true rfl) rfl (by omega) (by simp [jj_rk]) (by simp [jj_rk]) ?_
    refine sp_X3_holdOf_n (by first | assumption | exact vp_in_nI (by omega) (by decide) | decide | omega | exact jj_inL rfl) (by first | assumption | exact vp_in_nI (by omega) (by decide) | decide | omega | exact jj_inL rfl) (by first | assumption | exact vp_in_nI (by omega) (by decide) | decide | omega | exact jj_inL rfl) (by first | assumption | exact vp_in_nI (by omega) (by decide) | decide | omega | exact jj_inL rfl) (fun h2 e3 => ?_)
    have e4 := jj_lo0 (X := [10, 11]) (jj_eq.rf (X := [10, 11])) e3 (by decide)
    show jj_R _ _ kc ks (jj_S, 782, h2, g) 20 [(0, .ref 12), (1, .ref 38), (2, .int a), (3, .int b), (4, .int tw)] [.int (vX3_holdOf_n (h 2) (h 3) (h 6) (h 8) (h 38) (h 39) (h 41) m a b tw)] Q
    refine rr_bipush 10 rfl dX3_tieLace_20 ?_
    refine rr_icmp_ge dX3_tieLace_22 (fun c5 => ?_) (fun c5 => ?_)
    · skip
      refine rr_aload_n 1 rfl rfl dX3_tieLace_37 ?_
      refine rr_getR dX3_tieLace_38 fX3_69 lo_38 sh_38 rfl ?_
      refine rr_iload_n 3 rfl rfl dX3_tieLace_41 ?_
      refine rr_aload_n 1 rfl rfl dX3_tieLace_42 ?_
      refine rr_iload_n 2 rfl rfl dX3_tieLace_43 ?_
      refine rr_iload_n 3 rfl rfl dX3_tieLace_44 ?_
      refine rr_callS (As := [.ref 38, .int a, .int b]) (rest := [.int b, .ref 39]) (kc2 := 0) (ks2 := 0) dX3_tieLace_45 okX3_dayBy lX3_72 rfl (Nat.le_of_ble_eq_true rfl) (Nat.le_of_ble_eq_true rfl) rfl (by omega) (by simp [jj_rk]) (by simp [jj_rk]) ?_
      refine sp_X3_dayBy_n (by first | assumption | (rw [e4 7 (by decide)]; assumption) | (rw [e4 1 (by decide)]; assumption) | exact vp_in_nI (by omega) (by decide) | decide | omega | exact jj_inL rfl) ?_
      show jj_R _ _ kc ks (jj_S, 782, h2, g) 48 [(0, .ref 12), (1, .ref 38), (2, .int a), (3, .int b), (4, .int tw)] [.int (vX3_dayBy_n (h2 38) (h2 39) a b), .int b, .ref 39] Q
      try rw [e4 38 (by decide)]
      try rw [e4 39 (by decide)]
      refine rr_iastore dX3_tieLace_48 lo_39 sh_39 (by first | assumption | exact vp_in_nI (by omega) (by decide) | decide | omega | exact jj_inL rfl) ?_
      rw [jj_rs_set0 (B := h2) (o := 39) (r := (h 39)) (e4 39 (by decide))]
      refine rr_aload_n 1 rfl rfl dX3_tieLace_49 ?_
      refine rr_getR dX3_tieLace_50 fX3_76 lo_38 sh_38 rfl ?_
      refine rr_iload_n 3 rfl rfl dX3_tieLace_53 ?_
      refine rr_iconst 1 rfl dX3_tieLace_54 ?_
      refine rr_iload 4 rfl dX3_tieLace_55 ?_
      refine rr_iadd dX3_tieLace_57 ?_
      refine rr_iastore dX3_tieLace_58 lo_40 sh_40 (by first | assumption | exact vp_in_nI (by omega) (by decide) | decide | omega | exact jj_inL rfl) ?_
      rw [jj_rs_set (B := h2) (L := [(39, (upd (h 39) ((b : Int32).toNatClampNeg) (vX3_dayBy_n (h 38) (h 39) a b)))]) (L2 := [(39, (upd (h 39) ((b : Int32).toNatClampNeg) (vX3_dayBy_n (h 38) (h 39) a b))), (40, (upd (h 40) ((b : Int32).toNatClampNeg) (1 + tw)))]) (r := (h 40)) ((show jj_rs h2 [(39, (upd (h 39) ((b : Int32).toNatClampNeg) (vX3_dayBy_n (h 38) (h 39) a b)))] 40 = h2 40 from rfl).trans (e4 40 (by decide))) rfl]
      refine rr_aload_n 1 rfl rfl dX3_tieLace_59 ?_
      refine rr_getR dX3_tieLace_60 fX3_79 lo_38 sh_38 rfl ?_
      refine rr_iload_n 3 rfl rfl dX3_tieLace_63 ?_
      refine rr_iload_n 2 rfl rfl dX3_tieLace_64 ?_
      refine rr_iastore dX3_tieLace_65 lo_42 sh_42 (by first | assumption | exact vp_in_nI (by omega) (by decide) | decide | omega | exact jj_inL rfl) ?_
      rw [jj_rs_set (B := h2) (L := [(39, (upd (h 39) ((b : Int32).toNatClampNeg) (vX3_dayBy_n (h 38) (h 39) a b))), (40, (upd (h 40) ((b : Int32).toNatClampNeg) (1 + tw)))]) (L2 := [(39, (upd (h 39) ((b : Int32).toNatClampNeg) (vX3_dayBy_n (h 38) (h 39) a b))), (40, (upd (h 40) ((b : Int32).toNatClampNeg) (1 + tw))), (42, (upd (h 42) ((b : Int32).toNatClampNeg) a))]) (r := (h 42)) ((show jj_rs h2 [(39, (upd (h 39) ((b : Int32).toNatClampNeg) (vX3_dayBy_n (h 38) (h 39) a b))), (40, (upd (h 40) ((b : Int32).toNatClampNeg) (1 + tw)))] 42 = h2 42 from rfl).trans (e4 42 (by decide))) rfl]
      refine rr_aload_n 1 rfl rfl dX3_tieLace_66 ?_
      refine rr_dup rfl dX3_tieLace_67 ?_
      refine rr_getI dX3_tieLace_68 fX3_82 lo_38 sh_38 rfl ?_
      rw [show (jj_rs h2 [(39, (upd (h 39) ((b : Int32).toNatClampNeg) (vX3_dayBy_n (h 38) (h 39) a b))), (40, (upd (h 40) ((b : Int32).toNatClampNeg) (1 + tw))), (42, (upd (h 42) ((b : Int32).toNatClampNeg) a))]) 38 = h2 38 from rfl]
      rw [e4 38 (by decide)]
      refine rr_iconst 1 rfl dX3_tieLace_71 ?_
      refine rr_iadd dX3_tieLace_72 ?_
      refine rr_putI dX3_tieLace_73 fX3_82 ni6_1 lo_38 sh_38 rfl ?_
      rw [jj_rs_set (B := h2) (L := [(39, (upd (h 39) ((b : Int32).toNatClampNeg) (vX3_dayBy_n (h 38) (h 39) a b))), (40, (upd (h 40) ((b : Int32).toNatClampNeg) (1 + tw))), (42, (upd (h 42) ((b : Int32).toNatClampNeg) a))]) (L2 := [(38, (upd (h 38) (1) (((h 38) 1) + 1))), (39, (upd (h 39) ((b : Int32).toNatClampNeg) (vX3_dayBy_n (h 38) (h 39) a b))), (40, (upd (h 40) ((b : Int32).toNatClampNeg) (1 + tw))), (42, (upd (h 42) ((b : Int32).toNatClampNeg) a))]) (r := (h 38)) ((show jj_rs h2 [(39, (upd (h 39) ((b : Int32).toNatClampNeg) (vX3_dayBy_n (h 38) (h 39) a b))), (40, (upd (h 40) ((b : Int32).toNatClampNeg) (1 + tw))), (42, (upd (h 42) ((b : Int32).toNatClampNeg) a))] 38 = h2 38 from rfl).trans (e4 38 (by decide))) rfl]
      refine rr_iconst 1 rfl dX3_tieLace_76 ?_
      refine rr_nreturn dX3_tieLace_77 rfl (by first | rfl | assumption) ?_
      rw [jj_rs_add (B := h2) (L := [(38, (upd (h 38) (1) (((h 38) 1) + 1))), (39, (upd (h 39) ((b : Int32).toNatClampNeg) (vX3_dayBy_n (h 38) (h 39) a b))), (40, (upd (h 40) ((b : Int32).toNatClampNeg) (1 + tw))), (42, (upd (h 42) ((b : Int32).toNatClampNeg) a))]) (L2 := [(38, (upd (h 38) (1) (((h 38) 1) + 1))), (39, (upd (h 39) ((b : Int32).toNatClampNeg) (vX3_dayBy_n (h 38) (h 39) a b))), (40, (upd (h 40) ((b : Int32).toNatClampNeg) (1 + tw))), (41, (h 41)), (42, (upd (h 42) ((b : Int32).toNatClampNeg) a))]) (o := 41) (r := (h 41)) ((show jj_rs h2 [(38, (upd (h 38) (1) (((h 38) 1) + 1))), (39, (upd (h 39) ((b : Int32).toNatClampNeg) (vX3_dayBy_n (h 38) (h 39) a b))), (40, (upd (h 40) ((b : Int32).toNatClampNeg) (1 + tw))), (42, (upd (h 42) ((b : Int32).toNatClampNeg) a))] 41 = h2 41 from rfl).trans (e4 41 (by decide))) rfl]
      simpa only [vX3_tieLace_n, rX3_tieLace_n_38, rX3_tieLace_n_39, rX3_tieLace_n_40, rX3_tieLace_n_41, rX3_tieLace_n_42, if_neg c1, if_pos c5] using kq h2 e4
    · skip
      refine rr_aload_n 1 rfl rfl dX3_tieLace_25 ?_
      refine rr_getR dX3_tieLace_26 fX3_43 lo_38 sh_38 rfl ?_
      refine rr_iload_n 3 rfl rfl dX3_tieLace_29 ?_
      refine rr_dup2 rfl rfl dX3_tieLace_30 ?_
      refine rr_iaload dX3_tieLace_31 lo_41 sh_41 (by first | assumption | exact vp_in_nI (by omega) (by decide) | decide | omega | exact jj_inL rfl) ?_
      rw [e4 41 (by decide)]
      refine rr_iconst 1 rfl dX3_tieLace_32 ?_
      refine rr_iadd dX3_tieLace_33 ?_
      refine rr_iastore dX3_tieLace_34 lo_41 sh_41 (by first | assumption | exact vp_in_nI (by omega) (by decide) | decide | omega | exact jj_inL rfl) ?_
      rw [jj_rs_set0 (B := h2) (o := 41) (r := (h 41)) (e4 41 (by decide))]
      refine rr_iconst 1 rfl dX3_tieLace_35 ?_
      refine rr_nreturn dX3_tieLace_36 rfl (by first | rfl | assumption) ?_
      rw [jj_rs_add (B := h2) (L := [(41, (upd (h 41) ((b : Int32).toNatClampNeg) (((h 41) (b : Int32).toNatClampNeg) + 1)))]) (L2 := [(38, (h 38)), (41, (upd (h 41) ((b : Int32).toNatClampNeg) (((h 41) (b : Int32).toNatClampNeg) + 1)))]) (o := 38) (r := (h 38)) ((show jj_rs h2 [(41, (upd (h 41) ((b : Int32).toNatClampNeg) (((h 41) (b : Int32).toNatClampNeg) + 1)))] 38 = h2 38 from rfl).trans (e4 38 (by decide))) rfl]
      rw [jj_rs_add (B := h2) (L := [(38, (h 38)), (41, (upd (h 41) ((b : Int32).toNatClampNeg) (((h 41) (b : Int32).toNatClampNeg) + 1)))]) (L2 := [(38, (h 38)), (39, (h 39)), (41, (upd (h 41) ((b : Int32).toNatClampNeg) (((h 41) (b : Int32).toNatClampNeg) + 1)))]) (o := 39) (r := (h 39)) ((show jj_rs h2 [(38, (h 38)), (41, (upd (h 41) ((b : Int32).toNatClampNeg) (((h 41) (b : Int32).toNatClampNeg) + 1)))] 39 = h2 39 from rfl).trans (e4 39 (by decide))) rfl]
      rw [jj_rs_add (B := h2) (L := [(38, (h 38)), (39, (h 39)), (41, (upd (h 41) ((b : Int32).toNatClampNeg) (((h 41) (b : Int32).toNatClampNeg) + 1)))]) (L2 := [(38, (h 38)), (39, (h 39)), (40, (h 40)), (41, (upd (h 41) ((b : Int32).toNatClampNeg) (((h 41) (b : Int32).toNatClampNeg) + 1)))]) (o := 40) (r := (h 40)) ((show jj_rs h2 [(38, (h 38)), (39, (h 39)), (41, (upd (h 41) ((b : Int32).toNatClampNeg) (((h 41) (b : Int32).toNatClampNeg) + 1)))] 40 = h2 40 from rfl).trans (e4 40 (by decide))) rfl]
      rw [jj_rs_add (B := h2) (L := [(38, (h 38)), (39, (h 39)), (40, (h 40)), (41, (upd (h 41) ((b : Int32).toNatClampNeg) (((h 41) (b : Int32).toNatClampNeg) + 1)))]) (L2 := [(38, (h 38)), (39, (h 39)), (40, (h 40)), (41, (upd (h 41) ((b : Int32).toNatClampNeg) (((h 41) (b : Int32).toNatClampNeg) + 1))), (42, (h 42))]) (o := 42) (r := (h 42)) ((show jj_rs h2 [(38, (h 38)), (39, (h 39)), (40, (h 40)), (41, (upd (h 41) ((b : Int32).toNatClampNeg) (((h 41) (b : Int32).toNatClampNeg) + 1)))] 42 = h2 42 from rfl).trans (e4 42 (by decide))) rfl]
      simpa only [vX3_tieLace_n, rX3_tieLace_n_38, rX3_tieLace_n_39, rX3_tieLace_n_40, rX3_tieLace_n_41, rX3_tieLace_n_42, if_neg c1, if_neg c5] using kq h2 e4
  · skip
    refine rr_iconst 0 rfl dX3_tieLace_9 ?_
    refine rr_nreturn dX3_tieLace_10 rfl (by first | rfl | assumption) ?_
    rw [jj_addr (B := h) (o := 38) (r := (h 38)) rfl]
    rw [jj_rs_add (B := h) (L := [(38, (h 38))]) (L2 := [(38, (h 38)), (39, (h 39))]) (o := 39) (r := (h 39)) rfl rfl]
    rw [jj_rs_add (B := h) (L := [(38, (h 38)), (39, (h 39))]) (L2 := [(38, (h 38)), (39, (h 39)), (40, (h 40))]) (o := 40) (r := (h 40)) rfl rfl]
    rw [jj_rs_add (B := h) (L := [(38, (h 38)), (39, (h 39)), (40, (h 40))]) (L2 := [(38, (h 38)), (39, (h 39)), (40, (h 40)), (41, (h 41))]) (o := 41) (r := (h 41)) rfl rfl]
    rw [jj_rs_add (B := h) (L := [(38, (h 38)), (39, (h 39)), (40, (h 40)), (41, (h 41))]) (L2 := [(38, (h 38)), (39, (h 39)), (40, (h 40)), (41, (h 41)), (42, (h 42))]) (o := 42) (r := (h 42)) rfl rfl]
    simpa only [vX3_tieLace_n, rX3_tieLace_n_38, rX3_tieLace_n_39, rX3_tieLace_n_40, rX3_tieLace_n_41, rX3_tieLace_n_42, if_pos c1] using kq h jj_eq.rf
def vX3_wouldTie_t (r2 : Nat → Int32) (r3 : Nat → Int32) (r6 : Nat → Int32) (r8 : Nat → Int32) (r43 : Nat → Int32) (r44 : Nat → Int32) (r45 : Nat → Int32) (r46 : Nat → Int32) (m : Nat) (a : Int32) (b : Int32) : Int32 := (if (vX6_mayTie_t r43 r45 a b) = 0 then 0 else (if (vX3_holdOf_t r2 r3 r6 r8 r43 r44 r46 m a b 0) < 10 then 0 else 1))
set_option maxHeartbeats 1000000 in
theorem sp_X3_wouldTie_t {d kc ks : Nat} {h : Nat → Nat → Int32} {g : Nat → Nat → Int64} {Q : jj_Rs → jj_St → Prop} {m : Nat} {a : Int32} {b : Int32} (ha : vp_in a 8) (hb : vp_in b 8) (hm : h 7 1 = nI m) (hm2 : m ≤ 150) (kq : ∀ h9, jj_eq [10, 11] h h9 → Q (.inl (some (.int (vX3_wouldTie_t (h 2) (h 3) (h 6) (h 8) (h 43) (h 44) (h 45) (h 46) m a b)))) (jj_S, 782, h9, g)) : jj_R mX3_wouldTie (d + 4) kc ks (jj_S, 782, h, g) 0 [(0, .ref 12), (1, .ref 43), (2, .int a), (3, .int b)] [] Q := by
  refine rr_aload_n 1 rfl rfl dX3_wouldTie_0 ?_
  refine rr_iload_n 2 rfl rfl dX3_wouldTie_1 ?_
  refine rr_iload_n 3 rfl rfl dX3_wouldTie_2 ?_
  refine rr_callV (As := [.int a, .int b]) (rest := []) (kc2 := 0) (ks2 := 0) dX3_wouldTie_3 okX6_mayTie lX3_54 lo_43 sh_43 rfl rfl (Nat.le_of_ble_eq_true rfl) (Nat.le_of_ble_eq_true rfl) rfl (by omega) (by simp [jj_rk]) (by simp [jj_rk]) ?_
  refine sp_X6_mayTie_t (by first | assumption | exact vp_in_nI (by omega) (by decide) | decide | omega | exact jj_inL rfl) (by first | assumption | exact vp_in_nI (by omega) (by decide) | decide | omega | exact jj_inL rfl) ?_
  show jj_R _ _ kc ks (jj_S, 782, h, g) 6 [(0, .ref 12), (1, .ref 43), (2, .int a), (3, .int b)] [.int (vX6_mayTie_t (h 43) (h 45) a b)] Q
  refine rr_if_eq dX3_wouldTie_6 (fun c1 => ?_) (fun c1 => ?_)
  · skip
    refine rr_iconst 0 rfl dX3_wouldTie_26 ?_
    refine rr_nreturn dX3_wouldTie_27 rfl (by first | rfl | assumption) ?_
    simpa only [vX3_wouldTie_t, if_pos c1] using kq h jj_eq.rf
  · skip
    refine rr_aload_n 0 rfl rfl dX3_wouldTie_9 ?_
    refine rr_aload_n 1 rfl rfl dX3_wouldTie_10 ?_
    refine rr_iload_n 2 rfl rfl dX3_wouldTie_11 ?_
    refine rr_iload_n 3 rfl rfl dX3_wouldTie_12 ?_
    refine rr_iconst 0 rfl dX3_wouldTie_13 ?_
    refine rr_callV (As := [.ref 43, .int a, .int b, .int 0]) (rest := []) (kc2 := 0) (ks2 := 0) dX3_wouldTie_14 okX3_holdOf lX3_58 lo_12 sh_12 rfl rfl (Nat.le_of_ble_eq_true rfl) (Nat.le_of_ble_eq_true rfl) rfl (by omega) (by simp [jj_rk]) (by simp [jj_rk]) ?_
    refine sp_X3_holdOf_t (by first | assumption | exact vp_in_nI (by omega) (by decide) | decide | omega | exact jj_inL rfl) (by first | assumption | exact vp_in_nI (by omega) (by decide) | decide | omega | exact jj_inL rfl) (by first | assumption | exact vp_in_nI (by omega) (by decide) | decide | omega | exact jj_inL rfl) (by first | assumption | exact vp_in_nI (by omega) (by decide) | decide | omega | exact jj_inL rfl) (fun h2 e3 => ?_)
    have e4 := jj_lo0 (X := [10, 11]) (jj_eq.rf (X := [10, 11])) e3 (by decide)
    show jj_R _ _ kc ks (jj_S, 782, h2, g) 17 [(0, .ref 12), (1, .ref 43), (2, .int a), (3, .int b)] [.int (vX3_holdOf_t (h 2) (h 3) (h 6) (h 8) (h 43) (h 44) (h 46) m a b 0)] Q
    refine rr_bipush 10 rfl dX3_wouldTie_17 ?_
    refine rr_icmp_lt dX3_wouldTie_19 (fun c5 => ?_) (fun c5 => ?_)
    · skip
      refine rr_iconst 0 rfl dX3_wouldTie_26 ?_
      refine rr_nreturn dX3_wouldTie_27 rfl (by first | rfl | assumption) ?_
      simpa only [vX3_wouldTie_t, if_neg c1, if_pos c5] using kq h2 e4
    · skip
      refine rr_iconst 1 rfl dX3_wouldTie_22 ?_
      refine rr_goto dX3_wouldTie_23 ?_
      refine rr_nreturn dX3_wouldTie_27 rfl (by first | rfl | assumption) ?_
      simpa only [vX3_wouldTie_t, if_neg c1, if_neg c5] using kq h2 e4
def vX3_tieLace_t (r2 : Nat → Int32) (r3 : Nat → Int32) (r6 : Nat → Int32) (r8 : Nat → Int32) (r43 : Nat → Int32) (r44 : Nat → Int32) (r45 : Nat → Int32) (r46 : Nat → Int32) (r47 : Nat → Int32) (m : Nat) (a : Int32) (b : Int32) (tw : Int32) : Int32 := (if (vX6_mayTie_t r43 r45 a b) = 0 then 0 else 1)
def rX3_tieLace_t_43 (r2 : Nat → Int32) (r3 : Nat → Int32) (r6 : Nat → Int32) (r8 : Nat → Int32) (r43 : Nat → Int32) (r44 : Nat → Int32) (r45 : Nat → Int32) (r46 : Nat → Int32) (r47 : Nat → Int32) (m : Nat) (a : Int32) (b : Int32) (tw : Int32) : Nat → Int32 := (if (vX6_mayTie_t r43 r45 a b) = 0 then r43 else (if 10 ≤ (vX3_holdOf_t r2 r3 r6 r8 r43 r44 r46 m a b tw) then (upd r43 (1) ((r43 1) + 1)) else r43))
def rX3_tieLace_t_44 (r2 : Nat → Int32) (r3 : Nat → Int32) (r6 : Nat → Int32) (r8 : Nat → Int32) (r43 : Nat → Int32) (r44 : Nat → Int32) (r45 : Nat → Int32) (r46 : Nat → Int32) (r47 : Nat → Int32) (m : Nat) (a : Int32) (b : Int32) (tw : Int32) : Nat → Int32 := (if (vX6_mayTie_t r43 r45 a b) = 0 then r44 else (if 10 ≤ (vX3_holdOf_t r2 r3 r6 r8 r43 r44 r46 m a b tw) then (upd r44 ((b : Int32).toNatClampNeg) (vX3_dayBy_t r43 r44 a b)) else r44))
def rX3_tieLace_t_45 (r2 : Nat → Int32) (r3 : Nat → Int32) (r6 : Nat → Int32) (r8 : Nat → Int32) (r43 : Nat → Int32) (r44 : Nat → Int32) (r45 : Nat → Int32) (r46 : Nat → Int32) (r47 : Nat → Int32) (m : Nat) (a : Int32) (b : Int32) (tw : Int32) : Nat → Int32 := (if (vX6_mayTie_t r43 r45 a b) = 0 then r45 else (if 10 ≤ (vX3_holdOf_t r2 r3 r6 r8 r43 r44 r46 m a b tw) then (upd r45 ((b : Int32).toNatClampNeg) (1 + tw)) else r45))
def rX3_tieLace_t_46 (r2 : Nat → Int32) (r3 : Nat → Int32) (r6 : Nat → Int32) (r8 : Nat → Int32) (r43 : Nat → Int32) (r44 : Nat → Int32) (r45 : Nat → Int32) (r46 : Nat → Int32) (r47 : Nat → Int32) (m : Nat) (a : Int32) (b : Int32) (tw : Int32) : Nat → Int32 := (if (vX6_mayTie_t r43 r45 a b) = 0 then r46 else (if 10 ≤ (vX3_holdOf_t r2 r3 r6 r8 r43 r44 r46 m a b tw) then r46 else (upd r46 ((b : Int32).toNatClampNeg) ((r46 (b : Int32).toNatClampNeg) + 1))))
def rX3_tieLace_t_47 (r2 : Nat → Int32) (r3 : Nat → Int32) (r6 : Nat → Int32) (r8 : Nat → Int32) (r43 : Nat → Int32) (r44 : Nat → Int32) (r45 : Nat → Int32) (r46 : Nat → Int32) (r47 : Nat → Int32) (m : Nat) (a : Int32) (b : Int32) (tw : Int32) : Nat → Int32 := (if (vX6_mayTie_t r43 r45 a b) = 0 then r47 else (if 10 ≤ (vX3_holdOf_t r2 r3 r6 r8 r43 r44 r46 m a b tw) then (upd r47 ((b : Int32).toNatClampNeg) a) else r47))
set_option maxHeartbeats 1000000 in
theorem sp_X3_tieLace_t {d kc ks : Nat} {h : Nat → Nat → Int32} {g : Nat → Nat → Int64} {Q : jj_Rs → jj_St → Prop} {m : Nat} {a : Int32} {b : Int32} {tw : Int32} (ha : vp_in a 8) (hb : vp_in b 8) (hm : h 7 1 = nI m) (hm2 : m ≤ 150) (kq : ∀ h9, jj_eq [10, 11] h h9 → Q (.inl (some (.int (vX3_tieLace_t (h 2) (h 3) (h 6) (h 8) (h 43) (h 44) (h 45) (h 46) (h 47) m a b tw)))) (jj_S, 782, (jj_rs h9 [(43, (rX3_tieLace_t_43 (h 2) (h 3) (h 6) (h 8) (h 43) (h 44) (h 45) (h 46) (h 47) m a b tw)), (44, (rX3_tieLace_t_44 (h 2) (h 3) (h 6) (h 8) (h 43) (h 44) (h 45) (h 46) (h 47) m a b tw)), (45, (rX3_tieLace_t_45 (h 2) (h 3) (h 6) (h 8) (h 43) (h 44) (h 45) (h 46) (h 47) m a b tw)), (46, (rX3_tieLace_t_46 (h 2) (h 3) (h 6) (h 8) (h 43) (h 44) (h 45) (h 46) (h 47) m a b tw)), (47, (rX3_tieLace_t_47 (h 2) (h 3) (h 6) (h 8) (h 43) (h 44) (h 45) (h 46) (h 47) m a b tw))]), g)) : jj_R mX3_tieLace (d + 4) kc ks (jj_S, 782, h, g) 0 [(0, .ref 12), (1, .ref 43), (2, .int a), (3, .int b), (4, .int tw)] [] Q := by
  refine rr_aload_n 1 rfl rfl dX3_tieLace_0 ?_
  refine rr_iload_n 2 rfl rfl dX3_tieLace_1 ?_
  refine rr_iload_n 3 rfl rfl dX3_tieLace_2 ?_
  refine rr_callV (As := [.int a, .int b]) (rest := []) (kc2 := 0) (ks2 := 0) dX3_tieLace_3 okX6_mayTie lX3_54 lo_43 sh_43 rfl rfl (Nat.le_of_ble_eq_true rfl) (Nat.le_of_ble_eq_true rfl) rfl (by omega) (by simp [jj_rk]) (by simp [jj_rk]) ?_
  refine sp_X6_mayTie_t (by first | assumption | exact vp_in_nI (by omega) (by decide) | decide | omega | exact jj_inL rfl) (by first | assumption | exact vp_in_nI (by omega) (by decide) | decide | omega | exact jj_inL rfl) ?_
  show jj_R _ _ kc ks (jj_S, 782, h, g) 6 [(0, .ref 12), (1, .ref 43), (2, .int a), (3, .int b), (4, .int tw)] [.int (vX6_mayTie_t (h 43) (h 45) a b)] Q
  refine rr_if_ne dX3_tieLace_6 (fun c1 => ?_) (fun c1 => ?_)
  · skip
    refine rr_aload_n 0 rfl rfl dX3_tieLace_11 ?_
    refine rr_aload_n 1 rfl rfl dX3_tieLace_12 ?_
    refine rr_iload_n 2 rfl rfl dX3_tieLace_13 ?_
    refine rr_iload_n 3 rfl rfl dX3_tieLace_14 ?_
    refine rr_iload 4 rfl dX3_tieLace_15 ?_
    refine rr_callV (As := [.ref 43, .int a, .int b, .int tw]) (rest := []) (kc2 := 0) (ks2 := 0) dX3_tieLace_17 okX3_holdOf lX3_58 lo_12 sh_12 rfl rfl (Nat.le_of_ble_eq_true rfl) (Nat.le_of_ble_eq_true rfl) rfl (by omega) (by simp [jj_rk]) (by simp [jj_rk]) ?_
    refine sp_X3_holdOf_t (by first | assumption | exact vp_in_nI (by omega) (by decide) | decide | omega | exact jj_inL rfl) (by first | assumption | exact vp_in_nI (by omega) (by decide) | decide | omega | exact jj_inL rfl) (by first | assumption | exact vp_in_nI (by omega) (by decide) | decide | omega | exact jj_inL rfl) (by first | assumption | exact vp_in_nI (by omega) (by decide) | decide | omega | exact jj_inL rfl) (fun h2 e3 => ?_)
    have e4 := jj_lo0 (X := [10, 11]) (jj_eq.rf (X := [10, 11])) e3 (by decide)
    show jj_R _ _ kc ks (jj_S, 782, h2, g) 20 [(0, .ref 12), (1, .ref 43), (2, .int a), (3, .int b), (4, .int tw)] [.int (vX3_holdOf_t (h 2) (h 3) (h 6) (h 8) (h 43) (h 44) (h 46) m a b tw)] Q
    refine rr_bipush 10 rfl dX3_tieLace_20 ?_
    refine rr_icmp_ge dX3_tieLace_22 (fun c5 => ?_) (fun c5 => ?_)
    · skip
      refine rr_aload_n 1 rfl rfl dX3_tieLace_37 ?_
      refine rr_getR dX3_tieLace_38 fX3_69 lo_43 sh_43 rfl ?_
      refine rr_iload_n 3 rfl rfl dX3_tieLace_41 ?_
      refine rr_aload_n 1 rfl rfl dX3_tieLace_42 ?_
      refine rr_iload_n 2 rfl rfl dX3_tieLace_43 ?_
      refine rr_iload_n 3 rfl rfl dX3_tieLace_44 ?_
      refine rr_callS (As := [.ref 43, .int a, .int b]) (rest := [.int b, .ref 44]) (kc2 := 0) (ks2 := 0) dX3_tieLace_45 okX3_dayBy lX3_72 rfl (Nat.le_of_ble_eq_true rfl) (Nat.le_of_ble_eq_true rfl) rfl (by omega) (by simp [jj_rk]) (by simp [jj_rk]) ?_
      refine sp_X3_dayBy_t (by first | assumption | (rw [e4 7 (by decide)]; assumption) | (rw [e4 1 (by decide)]; assumption) | exact vp_in_nI (by omega) (by decide) | decide | omega | exact jj_inL rfl) ?_
      show jj_R _ _ kc ks (jj_S, 782, h2, g) 48 [(0, .ref 12), (1, .ref 43), (2, .int a), (3, .int b), (4, .int tw)] [.int (vX3_dayBy_t (h2 43) (h2 44) a b), .int b, .ref 44] Q
      try rw [e4 43 (by decide)]
      try rw [e4 44 (by decide)]
      refine rr_iastore dX3_tieLace_48 lo_44 sh_44 (by first | assumption | exact vp_in_nI (by omega) (by decide) | decide | omega | exact jj_inL rfl) ?_
      rw [jj_rs_set0 (B := h2) (o := 44) (r := (h 44)) (e4 44 (by decide))]
      refine rr_aload_n 1 rfl rfl dX3_tieLace_49 ?_
      refine rr_getR dX3_tieLace_50 fX3_76 lo_43 sh_43 rfl ?_
      refine rr_iload_n 3 rfl rfl dX3_tieLace_53 ?_
      refine rr_iconst 1 rfl dX3_tieLace_54 ?_
      refine rr_iload 4 rfl dX3_tieLace_55 ?_
      refine rr_iadd dX3_tieLace_57 ?_
      refine rr_iastore dX3_tieLace_58 lo_45 sh_45 (by first | assumption | exact vp_in_nI (by omega) (by decide) | decide | omega | exact jj_inL rfl) ?_
      rw [jj_rs_set (B := h2) (L := [(44, (upd (h 44) ((b : Int32).toNatClampNeg) (vX3_dayBy_t (h 43) (h 44) a b)))]) (L2 := [(44, (upd (h 44) ((b : Int32).toNatClampNeg) (vX3_dayBy_t (h 43) (h 44) a b))), (45, (upd (h 45) ((b : Int32).toNatClampNeg) (1 + tw)))]) (r := (h 45)) ((show jj_rs h2 [(44, (upd (h 44) ((b : Int32).toNatClampNeg) (vX3_dayBy_t (h 43) (h 44) a b)))] 45 = h2 45 from rfl).trans (e4 45 (by decide))) rfl]
      refine rr_aload_n 1 rfl rfl dX3_tieLace_59 ?_
      refine rr_getR dX3_tieLace_60 fX3_79 lo_43 sh_43 rfl ?_
      refine rr_iload_n 3 rfl rfl dX3_tieLace_63 ?_
      refine rr_iload_n 2 rfl rfl dX3_tieLace_64 ?_
      refine rr_iastore dX3_tieLace_65 lo_47 sh_47 (by first | assumption | exact vp_in_nI (by omega) (by decide) | decide | omega | exact jj_inL rfl) ?_
      rw [jj_rs_set (B := h2) (L := [(44, (upd (h 44) ((b : Int32).toNatClampNeg) (vX3_dayBy_t (h 43) (h 44) a b))), (45, (upd (h 45) ((b : Int32).toNatClampNeg) (1 + tw)))]) (L2 := [(44, (upd (h 44) ((b : Int32).toNatClampNeg) (vX3_dayBy_t (h 43) (h 44) a b))), (45, (upd (h 45) ((b : Int32).toNatClampNeg) (1 + tw))), (47, (upd (h 47) ((b : Int32).toNatClampNeg) a))]) (r := (h 47)) ((show jj_rs h2 [(44, (upd (h 44) ((b : Int32).toNatClampNeg) (vX3_dayBy_t (h 43) (h 44) a b))), (45, (upd (h 45) ((b : Int32).toNatClampNeg) (1 + tw)))] 47 = h2 47 from rfl).trans (e4 47 (by decide))) rfl]
      refine rr_aload_n 1 rfl rfl dX3_tieLace_66 ?_
      refine rr_dup rfl dX3_tieLace_67 ?_
      refine rr_getI dX3_tieLace_68 fX3_82 lo_43 sh_43 rfl ?_
      rw [show (jj_rs h2 [(44, (upd (h 44) ((b : Int32).toNatClampNeg) (vX3_dayBy_t (h 43) (h 44) a b))), (45, (upd (h 45) ((b : Int32).toNatClampNeg) (1 + tw))), (47, (upd (h 47) ((b : Int32).toNatClampNeg) a))]) 43 = h2 43 from rfl]
      rw [e4 43 (by decide)]
      refine rr_iconst 1 rfl dX3_tieLace_71 ?_
      refine rr_iadd dX3_tieLace_72 ?_
      refine rr_putI dX3_tieLace_73 fX3_82 ni6_1 lo_43 sh_43 rfl ?_
      rw [jj_rs_set (B := h2) (L := [(44, (upd (h 44) ((b : Int32).toNatClampNeg) (vX3_dayBy_t (h 43) (h 44) a b))), (45, (upd (h 45) ((b : Int32).toNatClampNeg) (1 + tw))), (47, (upd (h 47) ((b : Int32).toNatClampNeg) a))]) (L2 := [(43, (upd (h 43) (1) (((h 43) 1) + 1))), (44, (upd (h 44) ((b : Int32).toNatClampNeg) (vX3_dayBy_t (h 43) (h 44) a b))), (45, (upd (h 45) ((b : Int32).toNatClampNeg) (1 + tw))), (47, (upd (h 47) ((b : Int32).toNatClampNeg) a))]) (r := (h 43)) ((show jj_rs h2 [(44, (upd (h 44) ((b : Int32).toNatClampNeg) (vX3_dayBy_t (h 43) (h 44) a b))), (45, (upd (h 45) ((b : Int32).toNatClampNeg) (1 + tw))), (47, (upd (h 47) ((b : Int32).toNatClampNeg) a))] 43 = h2 43 from rfl).trans (e4 43 (by decide))) rfl]
      refine rr_iconst 1 rfl dX3_tieLace_76 ?_
      refine rr_nreturn dX3_tieLace_77 rfl (by first | rfl | assumption) ?_
      rw [jj_rs_add (B := h2) (L := [(43, (upd (h 43) (1) (((h 43) 1) + 1))), (44, (upd (h 44) ((b : Int32).toNatClampNeg) (vX3_dayBy_t (h 43) (h 44) a b))), (45, (upd (h 45) ((b : Int32).toNatClampNeg) (1 + tw))), (47, (upd (h 47) ((b : Int32).toNatClampNeg) a))]) (L2 := [(43, (upd (h 43) (1) (((h 43) 1) + 1))), (44, (upd (h 44) ((b : Int32).toNatClampNeg) (vX3_dayBy_t (h 43) (h 44) a b))), (45, (upd (h 45) ((b : Int32).toNatClampNeg) (1 + tw))), (46, (h 46)), (47, (upd (h 47) ((b : Int32).toNatClampNeg) a))]) (o := 46) (r := (h 46)) ((show jj_rs h2 [(43, (upd (h 43) (1) (((h 43) 1) + 1))), (44, (upd (h 44) ((b : Int32).toNatClampNeg) (vX3_dayBy_t (h 43) (h 44) a b))), (45, (upd (h 45) ((b : Int32).toNatClampNeg) (1 + tw))), (47, (upd (h 47) ((b : Int32).toNatClampNeg) a))] 46 = h2 46 from rfl).trans (e4 46 (by decide))) rfl]
      simpa only [vX3_tieLace_t, rX3_tieLace_t_43, rX3_tieLace_t_44, rX3_tieLace_t_45, rX3_tieLace_t_46, rX3_tieLace_t_47, if_neg c1, if_pos c5] using kq h2 e4
    · skip
      refine rr_aload_n 1 rfl rfl dX3_tieLace_25 ?_
      refine rr_getR dX3_tieLace_26 fX3_43 lo_43 sh_43 rfl ?_
      refine rr_iload_n 3 rfl rfl dX3_tieLace_29 ?_
      refine rr_dup2 rfl rfl dX3_tieLace_30 ?_
      refine rr_iaload dX3_tieLace_31 lo_46 sh_46 (by first | assumption | exact vp_in_nI (by omega) (by decide) | decide | omega | exact jj_inL rfl) ?_
      rw [e4 46 (by decide)]
      refine rr_iconst 1 rfl dX3_tieLace_32 ?_
      refine rr_iadd dX3_tieLace_33 ?_
      refine rr_iastore dX3_tieLace_34 lo_46 sh_46 (by first | assumption | exact vp_in_nI (by omega) (by decide) | decide | omega | exact jj_inL rfl) ?_
      rw [jj_rs_set0 (B := h2) (o := 46) (r := (h 46)) (e4 46 (by decide))]
      refine rr_iconst 1 rfl dX3_tieLace_35 ?_
      refine rr_nreturn dX3_tieLace_36 rfl (by first | rfl | assumption) ?_
      rw [jj_rs_add (B := h2) (L := [(46, (upd (h 46) ((b : Int32).toNatClampNeg) (((h 46) (b : Int32).toNatClampNeg) + 1)))]) (L2 := [(43, (h 43)), (46, (upd (h 46) ((b : Int32).toNatClampNeg) (((h 46) (b : Int32).toNatClampNeg) + 1)))]) (o := 43) (r := (h 43)) ((show jj_rs h2 [(46, (upd (h 46) ((b : Int32).toNatClampNeg) (((h 46) (b : Int32).toNatClampNeg) + 1)))] 43 = h2 43 from rfl).trans (e4 43 (by decide))) rfl]
      rw [jj_rs_add (B := h2) (L := [(43, (h 43)), (46, (upd (h 46) ((b : Int32).toNatClampNeg) (((h 46) (b : Int32).toNatClampNeg) + 1)))]) (L2 := [(43, (h 43)), (44, (h 44)), (46, (upd (h 46) ((b : Int32).toNatClampNeg) (((h 46) (b : Int32).toNatClampNeg) + 1)))]) (o := 44) (r := (h 44)) ((show jj_rs h2 [(43, (h 43)), (46, (upd (h 46) ((b : Int32).toNatClampNeg) (((h 46) (b : Int32).toNatClampNeg) + 1)))] 44 = h2 44 from rfl).trans (e4 44 (by decide))) rfl]
      rw [jj_rs_add (B := h2) (L := [(43, (h 43)), (44, (h 44)), (46, (upd (h 46) ((b : Int32).toNatClampNeg) (((h 46) (b : Int32).toNatClampNeg) + 1)))]) (L2 := [(43, (h 43)), (44, (h 44)), (45, (h 45)), (46, (upd (h 46) ((b : Int32).toNatClampNeg) (((h 46) (b : Int32).toNatClampNeg) + 1)))]) (o := 45) (r := (h 45)) ((show jj_rs h2 [(43, (h 43)), (44, (h 44)), (46, (upd (h 46) ((b : Int32).toNatClampNeg) (((h 46) (b : Int32).toNatClampNeg) + 1)))] 45 = h2 45 from rfl).trans (e4 45 (by decide))) rfl]
      rw [jj_rs_add (B := h2) (L := [(43, (h 43)), (44, (h 44)), (45, (h 45)), (46, (upd (h 46) ((b : Int32).toNatClampNeg) (((h 46) (b : Int32).toNatClampNeg) + 1)))]) (L2 := [(43, (h 43)), (44, (h 44)), (45, (h 45)), (46, (upd (h 46) ((b : Int32).toNatClampNeg) (((h 46) (b : Int32).toNatClampNeg) + 1))), (47, (h 47))]) (o := 47) (r := (h 47)) ((show jj_rs h2 [(43, (h 43)), (44, (h 44)), (45, (h 45)), (46, (upd (h 46) ((b : Int32).toNatClampNeg) (((h 46) (b : Int32).toNatClampNeg) + 1)))] 47 = h2 47 from rfl).trans (e4 47 (by decide))) rfl]
      simpa only [vX3_tieLace_t, rX3_tieLace_t_43, rX3_tieLace_t_44, rX3_tieLace_t_45, rX3_tieLace_t_46, rX3_tieLace_t_47, if_neg c1, if_neg c5] using kq h2 e4
  · skip
    refine rr_iconst 0 rfl dX3_tieLace_9 ?_
    refine rr_nreturn dX3_tieLace_10 rfl (by first | rfl | assumption) ?_
    rw [jj_addr (B := h) (o := 43) (r := (h 43)) rfl]
    rw [jj_rs_add (B := h) (L := [(43, (h 43))]) (L2 := [(43, (h 43)), (44, (h 44))]) (o := 44) (r := (h 44)) rfl rfl]
    rw [jj_rs_add (B := h) (L := [(43, (h 43)), (44, (h 44))]) (L2 := [(43, (h 43)), (44, (h 44)), (45, (h 45))]) (o := 45) (r := (h 45)) rfl rfl]
    rw [jj_rs_add (B := h) (L := [(43, (h 43)), (44, (h 44)), (45, (h 45))]) (L2 := [(43, (h 43)), (44, (h 44)), (45, (h 45)), (46, (h 46))]) (o := 46) (r := (h 46)) rfl rfl]
    rw [jj_rs_add (B := h) (L := [(43, (h 43)), (44, (h 44)), (45, (h 45)), (46, (h 46))]) (L2 := [(43, (h 43)), (44, (h 44)), (45, (h 45)), (46, (h 46)), (47, (h 47))]) (o := 47) (r := (h 47)) rfl rfl]
    simpa only [vX3_tieLace_t, rX3_tieLace_t_43, rX3_tieLace_t_44, rX3_tieLace_t_45, rX3_tieLace_t_46, rX3_tieLace_t_47, if_pos c1] using kq h jj_eq.rf
def vX3_helperBits (r2 : Nat → Int32) (r3 : Nat → Int32) (r6 : Nat → Int32) (r8 : Nat → Int32) (r38 : Nat → Int32) (r39 : Nat → Int32) (r40 : Nat → Int32) (r41 : Nat → Int32) (n : Nat) (m : Nat) (b : Int32) : Int32 := (jj_fo (fun k1 a1 => (if (vX3_wouldTie_n r2 r3 r6 r8 r38 r39 r40 r41 m (nI k1) b) = 0 then (a1 ||| 0) else (a1 ||| (1 <<< ((nI k1) &&& 31))))) n 0)
set_option maxHeartbeats 1000000 in
theorem sp_X3_helperBits {d kc ks : Nat} {h : Nat → Nat → Int32} {g : Nat → Nat → Int64} {Q : jj_Rs → jj_St → Prop} {n : Nat} {m : Nat} {b : Int32} (hb : vp_in b 8) (hm : h 7 1 = nI m) (hm2 : m ≤ 150) (hP : h 1 0 = nI n) (hn : n ≤ 8) (kq : ∀ h9, jj_eq [10, 11] h h9 → Q (.inl (some (.int (vX3_helperBits (h 2) (h 3) (h 6) (h 8) (h 38) (h 39) (h 40) (h 41) n m b)))) (jj_S, 782, h9, g)) : jj_R mX3_helperBits (d + 5) kc ks (jj_S, 782, h, g) 0 [(0, .ref 12), (1, .ref 38), (2, .int b)] [] Q := by
  refine rr_iconst 0 rfl dX3_helperBits_0 ?_
  refine rr_istore_n [(0, .ref 12), (1, .ref 38), (2, .int b), (3, .int 0)] dX3_helperBits_1 rfl (by decide) rfl ?_
  refine rr_iconst 0 rfl dX3_helperBits_2 ?_
  refine rr_istore [(0, .ref 12), (1, .ref 38), (2, .int b), (3, .int 0), (4, .int 0)] dX3_helperBits_3 (by decide) rfl ?_
  refine jj_for (fun k1 (a1 : Int32) => ∀ hc1, jj_eq [10, 11] h hc1 → jj_R _ _ kc ks (jj_S, 782, hc1, g) 5 [(0, .ref 12), (1, .ref 38), (2, .int b), (3, .int a1), (4, .int (nI k1))] [] Q) (fun k1 a1 => (if (vX3_wouldTie_n (h 2) (h 3) (h 6) (h 8) (h 38) (h 39) (h 40) (h 41) m (nI k1) b) = 0 then (a1 ||| 0) else (a1 ||| (1 <<< ((nI k1) &&& 31))))) n 0 ?_ ?_ h jj_eq.rf
  · intro k1 hk1 ih1 hc1 ec1
    generalize jj_fo _ k1 _ = a1 at ih1 ⊢
    try dsimp only at ih1 ⊢
    refine rr_iload 4 rfl dX3_helperBits_5 ?_
    refine rr_aload_n 0 rfl rfl dX3_helperBits_7 ?_
    refine rr_getR dX3_helperBits_8 fX3_9 lo_12 sh_12 rfl ?_
    refine rr_getI dX3_helperBits_11 fX3_62 lo_1 sh_1 rfl ?_
    rw [ec1 1 (by decide)]
    refine rr_icmp_ge dX3_helperBits_14 (fun c => absurd c (by rw [hP]; exact nI_ge (a := k1) (b := n) (by omega) (by omega))) (fun _ => ?_)
    refine rr_iload_n 3 rfl rfl dX3_helperBits_17 ?_
    refine rr_aload_n 0 rfl rfl dX3_helperBits_18 ?_
    refine rr_aload_n 1 rfl rfl dX3_helperBits_19 ?_
    refine rr_iload 4 rfl dX3_helperBits_20 ?_
    refine rr_iload_n 2 rfl rfl dX3_helperBits_22 ?_
    refine rr_callV (As := [.ref 38, .int (nI k1), .int b]) (rest := [.int a1]) (kc2 := 0) (ks2 := 0) dX3_helperBits_23 okX3_wouldTie lX3_65 lo_12 sh_12 rfl rfl (Nat.le_of_ble_eq_true rfl) (Nat.le_of_ble_eq_true rfl) rfl (by omega) (by simp [jj_rk]) (by simp [jj_rk]) ?_
    refine sp_X3_wouldTie_n (by first | assumption | (rw [ec1 7 (by decide)]; assumption) | (rw [ec1 1 (by decide)]; assumption) | exact vp_in_nI (by omega) (by decide) | decide | omega | exact jj_inL rfl) (by first | assumption | (rw [ec1 7 (by decide)]; assumption) | (rw [ec1 1 (by decide)]; assumption) | exact vp_in_nI (by omega) (by decide) | decide | omega | exact jj_inL rfl) (by first | assumption | (rw [ec1 7 (by decide)]; assumption) | (rw [ec1 1 (by decide)]; assumption) | exact vp_in_nI (by omega) (by decide) | decide | omega | exact jj_inL rfl) (by first | assumption | (rw [ec1 7 (by decide)]; assumption) | (rw [ec1 1 (by decide)]; assumption) | exact vp_in_nI (by omega) (by decide) | decide | omega | exact jj_inL rfl) (fun h1 e2 => ?_)
    have e3 := jj_lo0 (X := [10, 11]) ec1 e2 (by decide)
    show jj_R _ _ kc ks (jj_S, 782, h1, g) 26 [(0, .ref 12), (1, .ref 38), (2, .int b), (3, .int a1), (4, .int (nI k1))] [.int (vX3_wouldTie_n (hc1 2) (hc1 3) (hc1 6) (hc1 8) (hc1 38) (hc1 39) (hc1 40) (hc1 41) m (nI k1) b), .int a1] Q
    try rw [ec1 2 (by decide)]
    try rw [ec1 3 (by decide)]
    try rw [ec1 6 (by decide)]
    try rw [ec1 8 (by decide)]
    try rw [ec1 38 (by decide)]
    try rw [ec1 39 (by decide)]
    try rw [ec1 40 (by decide)]
    try rw [ec1 41 (by decide)]
    refine rr_if_eq dX3_helperBits_26 (fun c4 => ?_) (fun c4 => ?_)
    · skip
      refine rr_iconst 0 rfl dX3_helperBits_36 ?_
      refine rr_ior dX3_helperBits_37 ?_
      refine rr_istore_n [(0, .ref 12), (1, .ref 38), (2, .int b), (3, .int (a1 ||| 0)), (4, .int (nI k1))] dX3_helperBits_38 rfl (by decide) rfl ?_
      refine rr_iinc 4 1 [(0, .ref 12), (1, .ref 38), (2, .int b), (3, .int (a1 ||| 0)), (4, .int ((nI k1) + 1))] dX3_helperBits_39 rfl rfl (by decide) rfl ?_
      refine rr_goto dX3_helperBits_42 ?_
      try simp only [(nI_clamp (show k1 < 2 ^ 31 by omega))] at c4
      simpa only [nI_1, (nI_clamp (show k1 < 2 ^ 31 by omega)), if_pos c4] using ih1 h1 e3
    · skip
      refine rr_iconst 1 rfl dX3_helperBits_29 ?_
      refine rr_iload 4 rfl dX3_helperBits_30 ?_
      refine rr_ishl dX3_helperBits_32 ?_
      refine rr_goto dX3_helperBits_33 ?_
      refine rr_ior dX3_helperBits_37 ?_
      refine rr_istore_n [(0, .ref 12), (1, .ref 38), (2, .int b), (3, .int (a1 ||| (1 <<< ((nI k1) &&& 31)))), (4, .int (nI k1))] dX3_helperBits_38 rfl (by decide) rfl ?_
      refine rr_iinc 4 1 [(0, .ref 12), (1, .ref 38), (2, .int b), (3, .int (a1 ||| (1 <<< ((nI k1) &&& 31)))), (4, .int ((nI k1) + 1))] dX3_helperBits_39 rfl rfl (by decide) rfl ?_
      refine rr_goto dX3_helperBits_42 ?_
      try simp only [(nI_clamp (show k1 < 2 ^ 31 by omega))] at c4
      simpa only [nI_1, (nI_clamp (show k1 < 2 ^ 31 by omega)), if_neg c4] using ih1 h1 e3
  · try dsimp only
    intro hc1 ec1
    refine rr_iload 4 rfl dX3_helperBits_5 ?_
    refine rr_aload_n 0 rfl rfl dX3_helperBits_7 ?_
    refine rr_getR dX3_helperBits_8 fX3_9 lo_12 sh_12 rfl ?_
    refine rr_getI dX3_helperBits_11 fX3_62 lo_1 sh_1 rfl ?_
    rw [ec1 1 (by decide)]
    refine rr_icmp_ge dX3_helperBits_14 (fun _ => ?_) (fun c => absurd (by rw [hP]; exact jj_le_rf _) c)
    refine rr_iload_n 3 rfl rfl dX3_helperBits_45 ?_
    refine rr_ireturn dX3_helperBits_46 rfl ?_
    simpa only [vX3_helperBits] using kq hc1 ec1
def vX3_drawnBy (r12 : Nat → Int32) (k : Int32) : Int32 := (if k ≤ 0 then 0 else ((((((upd r12 (2) (((r12 2) * 1103515245) + 12345)) 2)).toUInt32 >>> ((16 : Int32).toUInt32 &&& Int32.toUInt32 31)).toInt32 &&& 32767) - (((((upd r12 (2) (((r12 2) * 1103515245) + 12345)) 2)).toUInt32 >>> ((16 : Int32).toUInt32 &&& Int32.toUInt32 31)).toInt32 &&& 32767) / k * k))
def rX3_drawnBy_12 (r12 : Nat → Int32) (k : Int32) : Nat → Int32 := (upd r12 (2) (((r12 2) * 1103515245) + 12345))
set_option maxHeartbeats 1000000 in
theorem sp_X3_drawnBy {d kc ks : Nat} {h : Nat → Nat → Int32} {g : Nat → Nat → Int64} {Q : jj_Rs → jj_St → Prop} {k : Int32} (kq : Q (.inl (some (.int (vX3_drawnBy (h 12) k)))) (jj_S, 782, (jj_rs h [(12, (rX3_drawnBy_12 (h 12) k))]), g)) : jj_R mX3_drawnBy (d + 0) kc ks (jj_S, 782, h, g) 0 [(0, .ref 12), (1, .int k)] [] Q := by
  refine rr_aload_n 0 rfl rfl dX3_drawnBy_0 ?_
  refine rr_aload_n 0 rfl rfl dX3_drawnBy_1 ?_
  refine rr_getI dX3_drawnBy_2 fX3_89 lo_12 sh_12 rfl ?_
  refine rr_ldc kX3_103 dX3_drawnBy_5 ?_
  refine rr_imul dX3_drawnBy_7 ?_
  refine rr_sipush 12345 rfl dX3_drawnBy_8 ?_
  refine rr_iadd dX3_drawnBy_11 ?_
  refine rr_putI dX3_drawnBy_12 fX3_89 ni3_2 lo_12 sh_12 rfl ?_
  rw [jj_rs_set0 (B := h) (o := 12) (r := (h 12)) rfl]
  refine rr_iload_n 1 rfl rfl dX3_drawnBy_15 ?_
  refine rr_if_le dX3_drawnBy_16 (fun c1 => ?_) (fun c1 => ?_)
  · skip
    refine rr_iconst 0 rfl dX3_drawnBy_35 ?_
    refine rr_ireturn dX3_drawnBy_36 rfl ?_
    simpa only [vX3_drawnBy, rX3_drawnBy_12, if_pos c1] using kq
  · skip
    refine rr_aload_n 0 rfl rfl dX3_drawnBy_19 ?_
    refine rr_getI dX3_drawnBy_20 fX3_89 lo_12 sh_12 rfl ?_
    rw [show (jj_rs h [(12, (upd (h 12) (2) ((((h 12) 2) * 1103515245) + 12345)))]) 12 = (upd (h 12) (2) ((((h 12) 2) * 1103515245) + 12345)) from rfl]
    refine rr_bipush 16 rfl dX3_drawnBy_23 ?_
    refine rr_iushr dX3_drawnBy_25 ?_
    refine rr_sipush 32767 rfl dX3_drawnBy_26 ?_
    refine rr_iand dX3_drawnBy_29 ?_
    refine rr_iload_n 1 rfl rfl dX3_drawnBy_30 ?_
    refine rr_irem (fun q => c1 (by rw [q]; decide)) dX3_drawnBy_31 ?_
    refine rr_goto dX3_drawnBy_32 ?_
    refine rr_ireturn dX3_drawnBy_36 rfl ?_
    simpa only [vX3_drawnBy, rX3_drawnBy_12, if_neg c1] using kq
