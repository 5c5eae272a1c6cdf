/-! ===== the reference's LAW, and the class's beside it ===== -/
/-- how high the row of the LAW's stack stands ahead of cell k -/
def lw_ht (r8 : Nat → Int32) (k : Nat) : Nat := jj_fo (fun k a => if r8 k ≤ 2000 then a + 1 else a - 1) k 0
/-- the class's cells and the reference's codes are of one LAW, and it is well made -/
def lawok (r8 : Nat → Int32) (g : Nat → Nat → Int32) (m : Nat) : Prop := ∀ k, k < m →
  (∃ v : Nat, v ≤ 999 ∧ r8 k = nI v ∧ g k 0 = 0 ∧ g k 1 = nI v) ∨ (∃ j : Nat, j < 8 ∧ r8 k = nI (1000 + j) ∧ g k 0 = 1 ∧ g k 1 = nI j) ∨ (∃ o : Nat, 2 ≤ o ∧ o ≤ 8 ∧ r8 k = nI (1999 + o) ∧ g k 0 = nI o ∧ 2 ≤ lw_ht r8 k)
theorem lw_le {r8 : Nat → Int32} : ∀ k, lw_ht r8 k ≤ k
  | 0 => Nat.le_refl _
  | k + 1 => by
    have h := lw_le (r8 := r8) k
    show (if r8 k ≤ 2000 then lw_ht r8 k + 1 else lw_ht r8 k - 1) ≤ k + 1
    split <;> omega
theorem lw_num {r8 : Nat → Int32} {g : Nat → Nat → Int32} {m k : Nat} (hw : lawok r8 g m) (hk : k < m) : (g k 0 < 2 ↔ r8 k ≤ 2000) ∧ (¬ g k 0 < 2 → 2 ≤ lw_ht r8 k) ∧ (g k 0 < 2 → ¬ g k 0 = 0 → vp_in (g k 1) 8) := by
  rcases hw k hk with ⟨v, hv, e1, e2, e3⟩ | ⟨j, hj, e1, e2, e3⟩ | ⟨o, ho, ho2, e1, e2, e3⟩
  · rw [e1, e2]
    refine ⟨⟨fun _ => (nI_leI (b := 2000) (by omega) (by decide)).mpr (by omega), fun _ => by decide⟩, fun c => absurd (by decide) c, fun _ c => absurd rfl c⟩
  · rw [e1, e2, e3]
    refine ⟨⟨fun _ => (nI_leI (b := 2000) (by omega) (by decide)).mpr (by omega), fun _ => by decide⟩, fun c => absurd (by decide) c, fun _ _ => vp_in_nI hj (by decide)⟩
  · rw [e1, e2]
    have q : ¬ nI o < 2 := fun c => absurd ((nI_ltI (b := 2) (by omega) (by decide)).mp c) (by omega)
    refine ⟨⟨fun c => absurd c q, fun c => absurd ((nI_leI (b := 2000) (by omega) (by decide)).mp c) (by omega)⟩, fun _ => e3, fun c => absurd c q⟩
theorem lw_nlt {x : Int32} (c : ¬ 2 ≤ x) : x < 2 := by
  rw [Int32.le_iff_toInt_le] at c
  rw [Int32.lt_iff_toInt_lt]; omega
theorem lw_ge {x : Int32} (c : 2 ≤ x) : ¬ x < 2 := by
  rw [Int32.le_iff_toInt_le] at c
  rw [Int32.lt_iff_toInt_lt]; omega
theorem lw_kn {r8 : Nat → Int32} {g : Nat → Nat → Int32} {m k : Nat} (hw : lawok r8 g m) (hk : k < m) (hm : m ≤ 150) (c1 : ¬ 2 ≤ g (nI k).toNatClampNeg 0) (c2 : ¬ g (nI k).toNatClampNeg 0 = 0) : vp_in (g (nI k).toNatClampNeg 1) 8 := by
  rw [nI_clamp (by omega)] at c1 c2 ⊢
  exact (lw_num hw hk).2.2 (lw_nlt c1) c2
theorem lw_psh {r8 : Nat → Int32} {m k : Nat} {a : Int32} (hk : k < m) (hm : m ≤ 150) (hi : a = nI (lw_ht r8 k)) : vp_in a 160 := by
  rw [hi]
  have := lw_le (r8 := r8) k
  exact vp_in_nI (by omega) (by decide)
theorem lw_pop {r8 : Nat → Int32} {g : Nat → Nat → Int32} {m k : Nat} {a : Int32} (hw : lawok r8 g m) (hk : k < m) (hm : m ≤ 150) (hi : a = nI (lw_ht r8 k)) (c1 : 2 ≤ g (nI k).toNatClampNeg 0) : vp_in (a + (-1)) 160 ∧ vp_in (a + (-1) - 1) 160 := by
  rw [nI_clamp (by omega)] at c1
  have h2 := (lw_num hw hk).2.1 (lw_ge c1)
  have := lw_le (r8 := r8) k
  rw [hi]
  refine ⟨?_, ?_⟩
  · rw [jj_m1 (by omega)]; exact vp_in_nI (by omega) (by decide)
  · rw [jj_m2 (by omega)]; exact vp_in_nI (by omega) (by decide)
theorem lw_up {r8 : Nat → Int32} {g : Nat → Nat → Int32} {m k : Nat} {a : Int32} (hw : lawok r8 g m) (hk : k < m) (hm : m ≤ 150) (hi : a = nI (lw_ht r8 k)) (c1 : ¬ 2 ≤ g (nI k).toNatClampNeg 0) : a + 1 = nI (lw_ht r8 (k + 1)) := by
  rw [nI_clamp (by omega)] at c1
  have h2 := (lw_num hw hk).1.mp (lw_nlt c1)
  rw [show lw_ht r8 (k + 1) = lw_ht r8 k + 1 from if_pos h2, hi, nI_1]
theorem lw_dn {r8 : Nat → Int32} {g : Nat → Nat → Int32} {m k : Nat} {a : Int32} (hw : lawok r8 g m) (hk : k < m) (hm : m ≤ 150) (hi : a = nI (lw_ht r8 k)) (c1 : 2 ≤ g (nI k).toNatClampNeg 0) : a + (-1) = nI (lw_ht r8 (k + 1)) := by
  rw [nI_clamp (by omega)] at c1
  have h2 := (lw_num hw hk).2.1 (lw_ge c1)
  have h3 : ¬ r8 k ≤ 2000 := fun q => lw_ge c1 ((lw_num hw hk).1.mpr q)
  rw [show lw_ht r8 (k + 1) = lw_ht r8 k - 1 from if_neg h3, hi, jj_m1 (by omega)]
theorem lw_to {r8 s8 : Nat → Int32} {g k : Nat → Nat → Int32} {m : Nat} (e : k = g) (e8 : s8 = r8) (hw : lawok r8 g m) : lawok s8 k m := by
  subst e; subst e8; exact hw
def fX10_byLaw_1 (r415 : Nat → Int32) (g75 : Nat → Nat → Int32) (k1 : Nat) (a1 : Int32 × (Nat → Int32)) : Int32 × (Nat → Int32) := (if 2 ≤ (g75 k1 0) then ((a1.1 + (-1)), (upd a1.2 ((((a1.1 + (-1)) - 1) : Int32).toNatClampNeg) (vX10_by (g75 k1 0) (a1.2 (((a1.1 + (-1)) - 1) : Int32).toNatClampNeg) (a1.2 ((a1.1 + (-1)) : Int32).toNatClampNeg)))) else (if (g75 k1 0) = 0 then ((a1.1 + 1), (upd a1.2 ((a1.1 : Int32).toNatClampNeg) (g75 k1 1))) else ((a1.1 + 1), (upd a1.2 ((a1.1 : Int32).toNatClampNeg) (r415 ((g75 k1 1) : Int32).toNatClampNeg)))))
def vX10_byLaw (r414 : Nat → Int32) (r415 : Nat → Int32) (g75 : Nat → Nat → Int32) (m : Nat) : Int32 := (vX10_less 99 (vX10_more 0 ((jj_fo (fX10_byLaw_1 r415 g75) m (0, (upd r414 (0) (((((5 : Int32) * (r415 0)) + ((20 : Int32) * (r415 3))) - ((2 : Int32) * (r415 1))) - (r415 2))))).2 0)))
def rX10_byLaw_414 (r414 : Nat → Int32) (r415 : Nat → Int32) (g75 : Nat → Nat → Int32) (m : Nat) : Nat → Int32 := (jj_fo (fX10_byLaw_1 r415 g75) m (0, (upd r414 (0) (((((5 : Int32) * (r415 0)) + ((20 : Int32) * (r415 3))) - ((2 : Int32) * (r415 1))) - (r415 2))))).2
set_option maxHeartbeats 1000000 in
theorem sp_X10_byLaw {d kc ks : Nat} {h : Nat → Nat → Int32} {g : Nat → Nat → Int64} {Q : jj_Rs → jj_St → Prop} {m : Nat} (hM : h 49 17 = nI m) (hm2 : m ≤ 150) (hw : lawok (h 8) (jj_gd h 75 160) m) (kq : Q (.inl (some (.int (vX10_byLaw (h 414) (h 415) (jj_gd h 75 160) m)))) (jj_S, 782, (jj_rs h [(414, (rX10_byLaw_414 (h 414) (h 415) (jj_gd h 75 160) m))]), g)) : jj_R mX10_byLaw (d + 2) kc ks (jj_S, 782, h, g) 0 [(0, .ref 49)] [] Q := by
  refine rr_iconst 0 rfl dX10_byLaw_0 ?_
  refine rr_istore_n [(0, .ref 49), (1, .int 0)] dX10_byLaw_1 rfl (by decide) rfl ?_
  refine rr_aload_n 0 rfl rfl dX10_byLaw_2 ?_
  refine rr_getR dX10_byLaw_3 fX10_52 lo_49 sh_49 rfl ?_
  refine rr_iconst 0 rfl dX10_byLaw_6 ?_
  refine rr_iconst 5 rfl dX10_byLaw_7 ?_
  refine rr_aload_n 0 rfl rfl dX10_byLaw_8 ?_
  refine rr_getR dX10_byLaw_9 fX10_55 lo_49 sh_49 rfl ?_
  refine rr_iconst 0 rfl dX10_byLaw_12 ?_
  refine rr_iaload dX10_byLaw_13 lo_415 sh_415 (jj_inL rfl) ?_
  rw [show (h 415) (0 : Int32).toNatClampNeg = (h 415) 0 from rfl]
  refine rr_imul dX10_byLaw_14 ?_
  refine rr_bipush 20 rfl dX10_byLaw_15 ?_
  refine rr_aload_n 0 rfl rfl dX10_byLaw_17 ?_
  refine rr_getR dX10_byLaw_18 fX10_55 lo_49 sh_49 rfl ?_
  refine rr_iconst 3 rfl dX10_byLaw_21 ?_
  refine rr_iaload dX10_byLaw_22 lo_415 sh_415 (jj_inL rfl) ?_
  rw [show (h 415) (3 : Int32).toNatClampNeg = (h 415) 3 from rfl]
  refine rr_imul dX10_byLaw_23 ?_
  refine rr_iadd dX10_byLaw_24 ?_
  refine rr_iconst 2 rfl dX10_byLaw_25 ?_
  refine rr_aload_n 0 rfl rfl dX10_byLaw_26 ?_
  refine rr_getR dX10_byLaw_27 fX10_55 lo_49 sh_49 rfl ?_
  refine rr_iconst 1 rfl dX10_byLaw_30 ?_
  refine rr_iaload dX10_byLaw_31 lo_415 sh_415 (jj_inL rfl) ?_
  rw [show (h 415) (1 : Int32).toNatClampNeg = (h 415) 1 from rfl]
  refine rr_imul dX10_byLaw_32 ?_
  refine rr_isub dX10_byLaw_33 ?_
  refine rr_aload_n 0 rfl rfl dX10_byLaw_34 ?_
  refine rr_getR dX10_byLaw_35 fX10_55 lo_49 sh_49 rfl ?_
  refine rr_iconst 2 rfl dX10_byLaw_38 ?_
  refine rr_iaload dX10_byLaw_39 lo_415 sh_415 (jj_inL rfl) ?_
  rw [show (h 415) (2 : Int32).toNatClampNeg = (h 415) 2 from rfl]
  refine rr_isub dX10_byLaw_40 ?_
  refine rr_iastore dX10_byLaw_41 lo_414 sh_414 (jj_inL rfl) ?_
  rw [show (0 : Int32).toNatClampNeg = 0 from rfl]
  rw [jj_rs_set0 (B := h) (o := 414) (r := (h 414)) rfl]
  refine rr_iconst 0 rfl dX10_byLaw_42 ?_
  refine rr_istore_n [(0, .ref 49), (1, .int 0), (2, .int 0)] dX10_byLaw_43 rfl (by decide) rfl ?_
  refine jj_for (fun k1 (a1 : Int32 × (Nat → Int32)) => (a1.1 = nI (lw_ht (h 8) k1)) → jj_R _ _ kc ks (jj_S, 782, (jj_rs h [(414, a1.2)]), g) 44 [(0, .ref 49), (1, .int a1.1), (2, .int (nI k1))] [] Q) (fX10_byLaw_1 (h 415) (jj_gd h 75 160)) m (0, (upd (h 414) (0) (((((5 : Int32) * ((h 415) 0)) + ((20 : Int32) * ((h 415) 3))) - ((2 : Int32) * ((h 415) 1))) - ((h 415) 2)))) ?_ ?_ rfl
  · intro k1 hk1 ih1
    generalize jj_fo _ k1 _ = a1 at ih1 ⊢
    try dsimp only at ih1 ⊢
    intro hi1
    refine rr_iload_n 2 rfl rfl dX10_byLaw_44 ?_
    refine rr_aload_n 0 rfl rfl dX10_byLaw_45 ?_
    refine rr_getI dX10_byLaw_46 fX10_188 lo_49 sh_49 rfl ?_
    rw [show (jj_rs h [(414, a1.2)]) 49 = h 49 from rfl]
    rw [show (h 49) 17 = (nI m) from hM]
    refine rr_icmp_ge dX10_byLaw_49 (fun c => absurd c (nI_ge (a := k1) (b := m) (by omega) (by omega))) (fun _ => ?_)
    refine rr_aload_n 0 rfl rfl dX10_byLaw_52 ?_
    refine rr_getR dX10_byLaw_53 fX10_40 lo_49 sh_49 rfl ?_
    refine rr_iload_n 2 rfl rfl dX10_byLaw_56 ?_
    refine rr_aaload dX10_byLaw_57 lo_74 sh_74 (vp_in_nI (by omega) (by decide)) ?_
    refine rr_iconst 0 rfl dX10_byLaw_58 ?_
    refine rr_iaload dX10_byLaw_59 (lr_74 (jj_ink (i := (nI k1)) (vp_in_nI (by omega) (by decide)))) (sr_74 (jj_ink (i := (nI k1)) (vp_in_nI (by omega) (by decide)))) (jj_inL rfl) ?_
    rw [show (jj_rs h [(414, a1.2)]) (75 + ((nI k1) : Int32).toNatClampNeg) = jj_gd h 75 160 ((nI k1) : Int32).toNatClampNeg from ((jj_gd_at (jj_ink (i := (nI k1)) (vp_in_nI (by omega) (by decide)))).trans (congrFun (jj_gd_rs (B := h) (L := [(414, a1.2)]) (b := 75) (len := 160) rfl) _))]
    rw [show jj_gd h 75 160 ((nI k1) : Int32).toNatClampNeg (0 : Int32).toNatClampNeg = jj_gd h 75 160 ((nI k1) : Int32).toNatClampNeg 0 from rfl]
    refine rr_iconst 2 rfl dX10_byLaw_60 ?_
    refine rr_icmp_ge dX10_byLaw_61 (fun c1 => ?_) (fun c1 => ?_)
    · skip
      refine rr_iinc 1 (-1) [(0, .ref 49), (1, .int (a1.1 + (-1))), (2, .int (nI k1))] dX10_byLaw_111 rfl rfl (by decide) rfl ?_
      refine rr_aload_n 0 rfl rfl dX10_byLaw_114 ?_
      refine rr_getR dX10_byLaw_115 fX10_52 lo_49 sh_49 rfl ?_
      refine rr_iload_n 1 rfl rfl dX10_byLaw_118 ?_
      refine rr_iconst 1 rfl dX10_byLaw_119 ?_
      refine rr_isub dX10_byLaw_120 ?_
      refine rr_aload_n 0 rfl rfl dX10_byLaw_121 ?_
      refine rr_getR dX10_byLaw_122 fX10_40 lo_49 sh_49 rfl ?_
      refine rr_iload_n 2 rfl rfl dX10_byLaw_125 ?_
      refine rr_aaload dX10_byLaw_126 lo_74 sh_74 (vp_in_nI (by omega) (by decide)) ?_
      refine rr_iconst 0 rfl dX10_byLaw_127 ?_
      refine rr_iaload dX10_byLaw_128 (lr_74 (jj_ink (i := (nI k1)) (vp_in_nI (by omega) (by decide)))) (sr_74 (jj_ink (i := (nI k1)) (vp_in_nI (by omega) (by decide)))) (jj_inL rfl) ?_
      rw [show (jj_rs h [(414, a1.2)]) (75 + ((nI k1) : Int32).toNatClampNeg) = jj_gd h 75 160 ((nI k1) : Int32).toNatClampNeg from ((jj_gd_at (jj_ink (i := (nI k1)) (vp_in_nI (by omega) (by decide)))).trans (congrFun (jj_gd_rs (B := h) (L := [(414, a1.2)]) (b := 75) (len := 160) rfl) _))]
      rw [show jj_gd h 75 160 ((nI k1) : Int32).toNatClampNeg (0 : Int32).toNatClampNeg = jj_gd h 75 160 ((nI k1) : Int32).toNatClampNeg 0 from rfl]
      refine rr_aload_n 0 rfl rfl dX10_byLaw_129 ?_
      refine rr_getR dX10_byLaw_130 fX10_52 lo_49 sh_49 rfl ?_
      refine rr_iload_n 1 rfl rfl dX10_byLaw_133 ?_
      refine rr_iconst 1 rfl dX10_byLaw_134 ?_
      refine rr_isub dX10_byLaw_135 ?_
      refine rr_iaload dX10_byLaw_136 lo_414 sh_414 (lw_pop hw hk1 hm2 hi1 (by assumption)).2 ?_
      rw [show (jj_rs h [(414, a1.2)]) 414 = a1.2 from rfl]
      refine rr_aload_n 0 rfl rfl dX10_byLaw_137 ?_
      refine rr_getR dX10_byLaw_138 fX10_52 lo_49 sh_49 rfl ?_
      refine rr_iload_n 1 rfl rfl dX10_byLaw_141 ?_
      refine rr_iaload dX10_byLaw_142 lo_414 sh_414 (lw_pop hw hk1 hm2 hi1 (by assumption)).1 ?_
      rw [show (jj_rs h [(414, a1.2)]) 414 = a1.2 from rfl]
      refine rr_callS (As := [.int ((jj_gd h 75 160) ((nI k1) : Int32).toNatClampNeg 0), .int (a1.2 (((a1.1 + (-1)) - 1) : Int32).toNatClampNeg), .int (a1.2 ((a1.1 + (-1)) : Int32).toNatClampNeg)]) (rest := [.int ((a1.1 + (-1)) - 1), .ref 414]) (kc2 := 0) (ks2 := 0) dX10_byLaw_143 okX10_by lX10_241 rfl (Nat.le_of_ble_eq_true rfl) (Nat.le_of_ble_eq_true rfl) rfl (by omega) (by simp [jj_rk]) (by simp [jj_rk]) ?_
      refine sp_X10_by  ?_
      show jj_R _ _ kc ks (jj_S, 782, (jj_rs h [(414, a1.2)]), g) 146 [(0, .ref 49), (1, .int (a1.1 + (-1))), (2, .int (nI k1))] [.int (vX10_by ((jj_gd h 75 160) ((nI k1) : Int32).toNatClampNeg 0) (a1.2 (((a1.1 + (-1)) - 1) : Int32).toNatClampNeg) (a1.2 ((a1.1 + (-1)) : Int32).toNatClampNeg)), .int ((a1.1 + (-1)) - 1), .ref 414] Q
      refine rr_iastore dX10_byLaw_146 lo_414 sh_414 (lw_pop hw hk1 hm2 hi1 (by assumption)).2 ?_
      rw [jj_rs_set (B := h) (L := [(414, a1.2)]) (L2 := [(414, (upd a1.2 ((((a1.1 + (-1)) - 1) : Int32).toNatClampNeg) (vX10_by ((jj_gd h 75 160) ((nI k1) : Int32).toNatClampNeg 0) (a1.2 (((a1.1 + (-1)) - 1) : Int32).toNatClampNeg) (a1.2 ((a1.1 + (-1)) : Int32).toNatClampNeg))))]) (r := a1.2) rfl rfl]
      refine rr_iinc 2 1 [(0, .ref 49), (1, .int (a1.1 + (-1))), (2, .int ((nI k1) + 1))] dX10_byLaw_147 rfl rfl (by decide) rfl ?_
      refine rr_goto dX10_byLaw_150 ?_
      try simp only [(nI_clamp (show k1 < 2 ^ 31 by omega))] at c1
      simp only [(nI_clamp (show k1 < 2 ^ 31 by omega)), fX10_byLaw_1, if_pos c1] at ih1
      simpa only [nI_1, (nI_clamp (show k1 < 2 ^ 31 by omega)), fX10_byLaw_1, if_pos c1] using ih1 (lw_dn hw hk1 hm2 hi1 (by rw [nI_clamp (show k1 < 2 ^ 31 by omega)]; assumption))
    · skip
      refine rr_aload_n 0 rfl rfl dX10_byLaw_64 ?_
      refine rr_getR dX10_byLaw_65 fX10_52 lo_49 sh_49 rfl ?_
      refine rr_iload_n 1 rfl rfl dX10_byLaw_68 ?_
      refine rr_aload_n 0 rfl rfl dX10_byLaw_69 ?_
      refine rr_getR dX10_byLaw_70 fX10_40 lo_49 sh_49 rfl ?_
      refine rr_iload_n 2 rfl rfl dX10_byLaw_73 ?_
      refine rr_aaload dX10_byLaw_74 lo_74 sh_74 (vp_in_nI (by omega) (by decide)) ?_
      refine rr_iconst 0 rfl dX10_byLaw_75 ?_
      refine rr_iaload dX10_byLaw_76 (lr_74 (jj_ink (i := (nI k1)) (vp_in_nI (by omega) (by decide)))) (sr_74 (jj_ink (i := (nI k1)) (vp_in_nI (by omega) (by decide)))) (jj_inL rfl) ?_
      rw [show (jj_rs h [(414, a1.2)]) (75 + ((nI k1) : Int32).toNatClampNeg) = jj_gd h 75 160 ((nI k1) : Int32).toNatClampNeg from ((jj_gd_at (jj_ink (i := (nI k1)) (vp_in_nI (by omega) (by decide)))).trans (congrFun (jj_gd_rs (B := h) (L := [(414, a1.2)]) (b := 75) (len := 160) rfl) _))]
      rw [show jj_gd h 75 160 ((nI k1) : Int32).toNatClampNeg (0 : Int32).toNatClampNeg = jj_gd h 75 160 ((nI k1) : Int32).toNatClampNeg 0 from rfl]
      refine rr_if_ne dX10_byLaw_77 (fun c2 => ?_) (fun c2 => ?_)
      · skip
        refine rr_aload_n 0 rfl rfl dX10_byLaw_91 ?_
        refine rr_getR dX10_byLaw_92 fX10_55 lo_49 sh_49 rfl ?_
        refine rr_aload_n 0 rfl rfl dX10_byLaw_95 ?_
        refine rr_getR dX10_byLaw_96 fX10_40 lo_49 sh_49 rfl ?_
        refine rr_iload_n 2 rfl rfl dX10_byLaw_99 ?_
        refine rr_aaload dX10_byLaw_100 lo_74 sh_74 (vp_in_nI (by omega) (by decide)) ?_
        refine rr_iconst 1 rfl dX10_byLaw_101 ?_
        refine rr_iaload dX10_byLaw_102 (lr_74 (jj_ink (i := (nI k1)) (vp_in_nI (by omega) (by decide)))) (sr_74 (jj_ink (i := (nI k1)) (vp_in_nI (by omega) (by decide)))) (jj_inL rfl) ?_
        rw [show (jj_rs h [(414, a1.2)]) (75 + ((nI k1) : Int32).toNatClampNeg) = jj_gd h 75 160 ((nI k1) : Int32).toNatClampNeg from ((jj_gd_at (jj_ink (i := (nI k1)) (vp_in_nI (by omega) (by decide)))).trans (congrFun (jj_gd_rs (B := h) (L := [(414, a1.2)]) (b := 75) (len := 160) rfl) _))]
        rw [show jj_gd h 75 160 ((nI k1) : Int32).toNatClampNeg (1 : Int32).toNatClampNeg = jj_gd h 75 160 ((nI k1) : Int32).toNatClampNeg 1 from rfl]
        refine rr_iaload dX10_byLaw_103 lo_415 sh_415 (lw_kn hw hk1 hm2 (by assumption) (by assumption)) ?_
        rw [show (jj_rs h [(414, a1.2)]) 415 = h 415 from rfl]
        refine rr_iastore dX10_byLaw_104 lo_414 sh_414 (lw_psh hk1 hm2 hi1) ?_
        rw [jj_rs_set (B := h) (L := [(414, a1.2)]) (L2 := [(414, (upd a1.2 ((a1.1 : Int32).toNatClampNeg) ((h 415) (((jj_gd h 75 160) ((nI k1) : Int32).toNatClampNeg 1) : Int32).toNatClampNeg)))]) (r := a1.2) rfl rfl]
        refine rr_iinc 1 1 [(0, .ref 49), (1, .int (a1.1 + 1)), (2, .int (nI k1))] dX10_byLaw_105 rfl rfl (by decide) rfl ?_
        refine rr_goto dX10_byLaw_108 ?_
        refine rr_iinc 2 1 [(0, .ref 49), (1, .int (a1.1 + 1)), (2, .int ((nI k1) + 1))] dX10_byLaw_147 rfl rfl (by decide) rfl ?_
        refine rr_goto dX10_byLaw_150 ?_
        try simp only [(nI_clamp (show k1 < 2 ^ 31 by omega))] at c1
        try simp only [(nI_clamp (show k1 < 2 ^ 31 by omega))] at c2
        simp only [(nI_clamp (show k1 < 2 ^ 31 by omega)), fX10_byLaw_1, if_neg c1, if_neg c2] at ih1
        simpa only [nI_1, (nI_clamp (show k1 < 2 ^ 31 by omega)), fX10_byLaw_1, if_neg c1, if_neg c2] using ih1 (lw_up hw hk1 hm2 hi1 (by rw [nI_clamp (show k1 < 2 ^ 31 by omega)]; assumption))
      · skip
        refine rr_aload_n 0 rfl rfl dX10_byLaw_80 ?_
        refine rr_getR dX10_byLaw_81 fX10_40 lo_49 sh_49 rfl ?_
        refine rr_iload_n 2 rfl rfl dX10_byLaw_84 ?_
        refine rr_aaload dX10_byLaw_85 lo_74 sh_74 (vp_in_nI (by omega) (by decide)) ?_
        refine rr_iconst 1 rfl dX10_byLaw_86 ?_
        refine rr_iaload dX10_byLaw_87 (lr_74 (jj_ink (i := (nI k1)) (vp_in_nI (by omega) (by decide)))) (sr_74 (jj_ink (i := (nI k1)) (vp_in_nI (by omega) (by decide)))) (jj_inL rfl) ?_
        rw [show (jj_rs h [(414, a1.2)]) (75 + ((nI k1) : Int32).toNatClampNeg) = jj_gd h 75 160 ((nI k1) : Int32).toNatClampNeg from ((jj_gd_at (jj_ink (i := (nI k1)) (vp_in_nI (by omega) (by decide)))).trans (congrFun (jj_gd_rs (B := h) (L := [(414, a1.2)]) (b := 75) (len := 160) rfl) _))]
        rw [show jj_gd h 75 160 ((nI k1) : Int32).toNatClampNeg (1 : Int32).toNatClampNeg = jj_gd h 75 160 ((nI k1) : Int32).toNatClampNeg 1 from rfl]
        refine rr_goto dX10_byLaw_88 ?_
        refine rr_iastore dX10_byLaw_104 lo_414 sh_414 (lw_psh hk1 hm2 hi1) ?_
        rw [jj_rs_set (B := h) (L := [(414, a1.2)]) (L2 := [(414, (upd a1.2 ((a1.1 : Int32).toNatClampNeg) ((jj_gd h 75 160) ((nI k1) : Int32).toNatClampNeg 1)))]) (r := a1.2) rfl rfl]
        refine rr_iinc 1 1 [(0, .ref 49), (1, .int (a1.1 + 1)), (2, .int (nI k1))] dX10_byLaw_105 rfl rfl (by decide) rfl ?_
        refine rr_goto dX10_byLaw_108 ?_
        refine rr_iinc 2 1 [(0, .ref 49), (1, .int (a1.1 + 1)), (2, .int ((nI k1) + 1))] dX10_byLaw_147 rfl rfl (by decide) rfl ?_
        refine rr_goto dX10_byLaw_150 ?_
        try simp only [(nI_clamp (show k1 < 2 ^ 31 by omega))] at c1
        try simp only [(nI_clamp (show k1 < 2 ^ 31 by omega))] at c2
        simp only [(nI_clamp (show k1 < 2 ^ 31 by omega)), fX10_byLaw_1, if_neg c1, if_pos c2] at ih1
        simpa only [nI_1, (nI_clamp (show k1 < 2 ^ 31 by omega)), fX10_byLaw_1, if_neg c1, if_pos c2] using ih1 (lw_up hw hk1 hm2 hi1 (by rw [nI_clamp (show k1 < 2 ^ 31 by omega)]; assumption))
  · try dsimp only
    intro hi1
    refine rr_iload_n 2 rfl rfl dX10_byLaw_44 ?_
    refine rr_aload_n 0 rfl rfl dX10_byLaw_45 ?_
    refine rr_getI dX10_byLaw_46 fX10_188 lo_49 sh_49 rfl ?_
    rw [show (jj_rs h [(414, (jj_fo (fX10_byLaw_1 (h 415) (jj_gd h 75 160)) m (0, (upd (h 414) (0) (((((5 : Int32) * ((h 415) 0)) + ((20 : Int32) * ((h 415) 3))) - ((2 : Int32) * ((h 415) 1))) - ((h 415) 2))))).2)]) 49 = h 49 from rfl]
    rw [show (h 49) 17 = (nI m) from hM]
    refine rr_icmp_ge dX10_byLaw_49 (fun _ => ?_) (fun c => absurd (jj_le_rf _) c)
    refine rr_bipush 99 rfl dX10_byLaw_153 ?_
    refine rr_iconst 0 rfl dX10_byLaw_155 ?_
    refine rr_aload_n 0 rfl rfl dX10_byLaw_156 ?_
    refine rr_getR dX10_byLaw_157 fX10_52 lo_49 sh_49 rfl ?_
    refine rr_iconst 0 rfl dX10_byLaw_160 ?_
    refine rr_iaload dX10_byLaw_161 lo_414 sh_414 (jj_inL rfl) ?_
    rw [show (jj_rs h [(414, (jj_fo (fX10_byLaw_1 (h 415) (jj_gd h 75 160)) m (0, (upd (h 414) (0) (((((5 : Int32) * ((h 415) 0)) + ((20 : Int32) * ((h 415) 3))) - ((2 : Int32) * ((h 415) 1))) - ((h 415) 2))))).2)]) 414 = (jj_fo (fX10_byLaw_1 (h 415) (jj_gd h 75 160)) m (0, (upd (h 414) (0) (((((5 : Int32) * ((h 415) 0)) + ((20 : Int32) * ((h 415) 3))) - ((2 : Int32) * ((h 415) 1))) - ((h 415) 2))))).2 from rfl]
    rw [show (jj_fo (fX10_byLaw_1 (h 415) (jj_gd h 75 160)) m (0, (upd (h 414) (0) (((((5 : Int32) * ((h 415) 0)) + ((20 : Int32) * ((h 415) 3))) - ((2 : Int32) * ((h 415) 1))) - ((h 415) 2))))).2 (0 : Int32).toNatClampNeg = (jj_fo (fX10_byLaw_1 (h 415) (jj_gd h 75 160)) m (0, (upd (h 414) (0) (((((5 : Int32) * ((h 415) 0)) + ((20 : Int32) * ((h 415) 3))) - ((2 : Int32) * ((h 415) 1))) - ((h 415) 2))))).2 0 from rfl]
    refine rr_callS (As := [.int 0, .int ((jj_fo (fX10_byLaw_1 (h 415) (jj_gd h 75 160)) m (0, (upd (h 414) (0) (((((5 : Int32) * ((h 415) 0)) + ((20 : Int32) * ((h 415) 3))) - ((2 : Int32) * ((h 415) 1))) - ((h 415) 2))))).2 0)]) (rest := [.int 99]) (kc2 := 0) (ks2 := 0) dX10_byLaw_162 okX10_more lX10_238 rfl (Nat.le_of_ble_eq_true rfl) (Nat.le_of_ble_eq_true rfl) rfl (by omega) (by simp [jj_rk]) (by simp [jj_rk]) ?_
    refine sp_X10_more  ?_
    show jj_R _ _ kc ks (jj_S, 782, (jj_rs h [(414, (jj_fo (fX10_byLaw_1 (h 415) (jj_gd h 75 160)) m (0, (upd (h 414) (0) (((((5 : Int32) * ((h 415) 0)) + ((20 : Int32) * ((h 415) 3))) - ((2 : Int32) * ((h 415) 1))) - ((h 415) 2))))).2)]), g) 165 [(0, .ref 49), (1, .int (jj_fo (fX10_byLaw_1 (h 415) (jj_gd h 75 160)) m (0, (upd (h 414) (0) (((((5 : Int32) * ((h 415) 0)) + ((20 : Int32) * ((h 415) 3))) - ((2 : Int32) * ((h 415) 1))) - ((h 415) 2))))).1), (2, .int (nI m))] [.int (vX10_more 0 ((jj_fo (fX10_byLaw_1 (h 415) (jj_gd h 75 160)) m (0, (upd (h 414) (0) (((((5 : Int32) * ((h 415) 0)) + ((20 : Int32) * ((h 415) 3))) - ((2 : Int32) * ((h 415) 1))) - ((h 415) 2))))).2 0)), .int 99] Q
    refine rr_callS (As := [.int 99, .int (vX10_more 0 ((jj_fo (fX10_byLaw_1 (h 415) (jj_gd h 75 160)) m (0, (upd (h 414) (0) (((((5 : Int32) * ((h 415) 0)) + ((20 : Int32) * ((h 415) 3))) - ((2 : Int32) * ((h 415) 1))) - ((h 415) 2))))).2 0))]) (rest := []) (kc2 := 0) (ks2 := 0) dX10_byLaw_165 okX10_less lX10_235 rfl (Nat.le_of_ble_eq_true rfl) (Nat.le_of_ble_eq_true rfl) rfl (by omega) (by simp [jj_rk]) (by simp [jj_rk]) ?_
    refine sp_X10_less  ?_
    show jj_R _ _ kc ks (jj_S, 782, (jj_rs h [(414, (jj_fo (fX10_byLaw_1 (h 415) (jj_gd h 75 160)) m (0, (upd (h 414) (0) (((((5 : Int32) * ((h 415) 0)) + ((20 : Int32) * ((h 415) 3))) - ((2 : Int32) * ((h 415) 1))) - ((h 415) 2))))).2)]), g) 168 [(0, .ref 49), (1, .int (jj_fo (fX10_byLaw_1 (h 415) (jj_gd h 75 160)) m (0, (upd (h 414) (0) (((((5 : Int32) * ((h 415) 0)) + ((20 : Int32) * ((h 415) 3))) - ((2 : Int32) * ((h 415) 1))) - ((h 415) 2))))).1), (2, .int (nI m))] [.int (vX10_less 99 (vX10_more 0 ((jj_fo (fX10_byLaw_1 (h 415) (jj_gd h 75 160)) m (0, (upd (h 414) (0) (((((5 : Int32) * ((h 415) 0)) + ((20 : Int32) * ((h 415) 3))) - ((2 : Int32) * ((h 415) 1))) - ((h 415) 2))))).2 0)))] Q
    refine rr_ireturn dX10_byLaw_168 rfl ?_
    simpa only [vX10_byLaw, rX10_byLaw_414] using kq
theorem lw_clip (x : Int32) : vX10_less 99 (vX10_more 0 x) = wo_clip x := by
  unfold vX10_less vX10_more wo_clip
  by_cases c : 0 ≤ x
  · rw [if_pos c, if_pos c]
  · rw [if_neg c, if_neg c]; rfl
theorem lw_divm (x : Int32) : x / (-1) = -x := by
  apply Int32.toInt_inj.mp
  rw [Int32.toInt_div, show (-1 : Int32).toInt = -1 from rfl, Int32.toInt_neg, Int.tdiv_neg, Int.tdiv_one]
theorem lw_remm (x : Int32) : x - x / (-1) * (-1) = 0 := by
  rw [lw_divm, Int32.neg_mul_neg, Int32.mul_one, Int32.sub_self]
theorem lw_by {o : Nat} {x y : Int32} (h2 : 2 ≤ o) (h8 : o ≤ 8) : vX10_by (nI o) x y = vX4_joined (nI (1999 + o)) x y := by
  have L : vX10_less x y = if y < x then y else x := by
    unfold vX10_less
    by_cases c : y < x
    · rw [if_pos c, if_pos (Int32.le_of_lt c)]
    · rw [if_neg c]
      by_cases q : y ≤ x
      · rw [if_pos q]; exact Int32.le_antisymm q (Int32.not_lt.mp c)
      · rw [if_neg q]
  have M : vX10_more x y = if x < y then y else x := by
    unfold vX10_more
    by_cases c : x < y
    · rw [if_pos c, if_pos (Int32.le_of_lt c)]
    · rw [if_neg c]
      by_cases q : x ≤ y
      · rw [if_pos q]; exact Int32.le_antisymm (Int32.not_lt.mp c) q
      · rw [if_neg q]
  unfold vX10_by vX4_joined
  rcases (show o = 2 ∨ o = 3 ∨ o = 4 ∨ o = 5 ∨ o = 6 ∨ o = 7 ∨ o = 8 by omega) with rfl | rfl | rfl | rfl | rfl | rfl | rfl
  · rw [if_pos (show nI 2 = 2 from rfl), if_pos (show nI (1999 + 2) = 2001 from rfl)]
  · rw [if_neg (show ¬ nI 3 = 2 by decide +kernel), if_pos (show nI 3 = 3 from rfl), if_neg (show ¬ nI (1999 + 3) = 2001 by decide +kernel), if_pos (show nI (1999 + 3) = 2002 from rfl)]
  · rw [if_neg (show ¬ nI 4 = 2 by decide +kernel), if_neg (show ¬ nI 4 = 3 by decide +kernel), if_pos (show nI 4 = 4 from rfl), if_neg (show ¬ nI (1999 + 4) = 2001 by decide +kernel), if_neg (show ¬ nI (1999 + 4) = 2002 by decide +kernel), if_pos (show nI (1999 + 4) = 2003 from rfl)]
  · rw [if_neg (show ¬ nI 5 = 2 by decide +kernel), if_neg (show ¬ nI 5 = 3 by decide +kernel), if_neg (show ¬ nI 5 = 4 by decide +kernel), if_pos (show nI 5 = 5 from rfl), if_neg (show ¬ nI (1999 + 5) = 2001 by decide +kernel), if_neg (show ¬ nI (1999 + 5) = 2002 by decide +kernel), if_neg (show ¬ nI (1999 + 5) = 2003 by decide +kernel), if_pos (show nI (1999 + 5) = 2004 from rfl)]
    by_cases c : y = -1
    · rw [if_pos c, c, lw_divm]
    · rw [if_neg c]
  · rw [if_neg (show ¬ nI 6 = 2 by decide +kernel), if_neg (show ¬ nI 6 = 3 by decide +kernel), if_neg (show ¬ nI 6 = 4 by decide +kernel), if_neg (show ¬ nI 6 = 5 by decide +kernel), if_pos (show nI 6 = 6 from rfl), if_neg (show ¬ nI (1999 + 6) = 2001 by decide +kernel), if_neg (show ¬ nI (1999 + 6) = 2002 by decide +kernel), if_neg (show ¬ nI (1999 + 6) = 2003 by decide +kernel), if_neg (show ¬ nI (1999 + 6) = 2004 by decide +kernel), if_pos (show nI (1999 + 6) = 2005 from rfl)]
    by_cases c : y = -1
    · rw [if_pos c, c, lw_remm]
    · rw [if_neg c]
  · rw [if_neg (show ¬ nI 7 = 2 by decide +kernel), if_neg (show ¬ nI 7 = 3 by decide +kernel), if_neg (show ¬ nI 7 = 4 by decide +kernel), if_neg (show ¬ nI 7 = 5 by decide +kernel), if_neg (show ¬ nI 7 = 6 by decide +kernel), if_pos (show nI 7 = 7 from rfl), if_neg (show ¬ nI (1999 + 7) = 2001 by decide +kernel), if_neg (show ¬ nI (1999 + 7) = 2002 by decide +kernel), if_neg (show ¬ nI (1999 + 7) = 2003 by decide +kernel), if_neg (show ¬ nI (1999 + 7) = 2004 by decide +kernel), if_neg (show ¬ nI (1999 + 7) = 2005 by decide +kernel), if_pos (show nI (1999 + 7) = 2006 from rfl)]
    exact L
  · rw [if_neg (show ¬ nI 8 = 2 by decide +kernel), if_neg (show ¬ nI 8 = 3 by decide +kernel), if_neg (show ¬ nI 8 = 4 by decide +kernel), if_neg (show ¬ nI 8 = 5 by decide +kernel), if_neg (show ¬ nI 8 = 6 by decide +kernel), if_neg (show ¬ nI 8 = 7 by decide +kernel), if_neg (show ¬ nI (1999 + 8) = 2001 by decide +kernel), if_neg (show ¬ nI (1999 + 8) = 2002 by decide +kernel), if_neg (show ¬ nI (1999 + 8) = 2003 by decide +kernel), if_neg (show ¬ nI (1999 + 8) = 2004 by decide +kernel), if_neg (show ¬ nI (1999 + 8) = 2005 by decide +kernel), if_neg (show ¬ nI (1999 + 8) = 2006 by decide +kernel)]
    exact M
/-- the two stacks run alike -/
theorem lw_run {r8 r414 vs : Nat → Int32} {g : Nat → Nat → Int32} {m : Nat} {D : Int32} (hw : lawok r8 g m) (hm : m ≤ 150) : ∀ k, k ≤ m →
    (jj_fo (fX10_byLaw_1 vs g) k (0, upd r414 0 D)).1 = nI (lw_ht r8 k) ∧ (wo_run r8 vs (fun _ => 0) k).1 = lw_ht r8 k ∧ (∀ j, j < lw_ht r8 k → (jj_fo (fX10_byLaw_1 vs g) k (0, upd r414 0 D)).2 j = (wo_run r8 vs (fun _ => 0) k).2 j) ∧ (lw_ht r8 k = 0 → (jj_fo (fX10_byLaw_1 vs g) k (0, upd r414 0 D)).2 0 = D)
  | 0, _ => ⟨rfl, rfl, fun j hj => absurd hj (Nat.not_lt_zero j), fun _ => rfl⟩
  | k + 1, hk => by
    obtain ⟨h1, h2, h3, h4⟩ := lw_run (r414 := r414) (vs := vs) (D := D) hw hm k (by omega)
    have e1 : jj_fo (fX10_byLaw_1 vs g) (k + 1) (0, upd r414 0 D) = fX10_byLaw_1 vs g k (jj_fo (fX10_byLaw_1 vs g) k (0, upd r414 0 D)) := rfl
    have e2 : wo_run r8 vs (fun _ => 0) (k + 1) = wo_st vs (r8 k) (wo_run r8 vs (fun _ => 0) k) := rfl
    have e3 : lw_ht r8 (k + 1) = if r8 k ≤ 2000 then lw_ht r8 k + 1 else lw_ht r8 k - 1 := rfl
    rw [e1, e2, e3]
    have hl := lw_le (r8 := r8) k
    generalize jj_fo (fX10_byLaw_1 vs g) k (0, upd r414 0 D) = a at h1 h3 h4 ⊢
    generalize wo_run r8 vs (fun _ => 0) k = b at h2 h3 ⊢
    obtain ⟨t, f⟩ := a
    obtain ⟨u, s⟩ := b
    dsimp only at h1 h2 h3 h4
    subst h2
    subst h1
    have hnum := lw_num hw (show k < m by omega)
    rcases hw k (by omega) with ⟨v, hv, q1, q2, q3⟩ | ⟨j, hj, q1, q2, q3⟩ | ⟨o, ho, ho2, q1, q2, q3⟩
    · have c1 : r8 k ≤ 2000 := hnum.1.mp (by rw [q2]; decide)
      have c2 : r8 k < 1000 := by rw [q1]; exact nI_lt (b := 1000) (by omega) (by decide)
      unfold fX10_byLaw_1 wo_st
      dsimp only
      rw [if_pos c1, if_pos c1, if_neg (show ¬ 150 ≤ lw_ht r8 k by omega), if_pos c2, q2, q3, q1]
      rw [if_neg (show ¬ (2 : Int32) ≤ 0 by decide), if_pos (show (0 : Int32) = 0 from rfl), nI_clamp (show lw_ht r8 k < 2 ^ 31 by omega)]
      refine ⟨nI_1 _, rfl, fun j hj => ?_, fun q => absurd q (by omega)⟩
      dsimp only
      by_cases e : j = lw_ht r8 k
      · rw [e]; simp [upd]
      · simp only [upd, if_neg e]; exact h3 j (by omega)
    · have c1 : r8 k ≤ 2000 := hnum.1.mp (by rw [q2]; decide)
      have c2 : ¬ r8 k < 1000 := by rw [q1]; exact nI_nlt (b := 1000) (by omega) (by omega)
      unfold fX10_byLaw_1 wo_st
      dsimp only
      rw [if_pos c1, if_pos c1, if_neg (show ¬ 150 ≤ lw_ht r8 k by omega), if_neg c2, q2, q3, q1]
      rw [if_neg (show ¬ (2 : Int32) ≤ 1 by decide), if_neg (show ¬ (1 : Int32) = 0 by decide), nI_clamp (show lw_ht r8 k < 2 ^ 31 by omega)]
      have e7 : ((nI (1000 + j) - 1000 : Int32) &&& 7).toNatClampNeg = (nI j).toNatClampNeg := by
        rcases (show j = 0 ∨ j = 1 ∨ j = 2 ∨ j = 3 ∨ j = 4 ∨ j = 5 ∨ j = 6 ∨ j = 7 by omega) with rfl | rfl | rfl | rfl | rfl | rfl | rfl | rfl <;> decide +kernel
      rw [e7]
      refine ⟨nI_1 _, rfl, fun j2 hj2 => ?_, fun q => absurd q (by omega)⟩
      dsimp only
      by_cases e : j2 = lw_ht r8 k
      · rw [e]; simp [upd]
      · simp only [upd, if_neg e]; exact h3 j2 (by omega)
    · have c0 : ¬ g k 0 < 2 := by rw [q2]; exact nI_nlt (b := 2) ho (by omega)
      have c1 : ¬ r8 k ≤ 2000 := fun q => c0 (hnum.1.mpr q)
      have c2 : (2 : Int32) ≤ g k 0 := Int32.not_lt.mp c0
      unfold fX10_byLaw_1 wo_st
      dsimp only
      rw [if_pos c2, if_neg c1, if_neg c1, if_neg (show ¬ lw_ht r8 k < 2 by omega), q2, q1, jj_m1 (show 1 ≤ lw_ht r8 k by omega)]
      have e5 : nI (lw_ht r8 k - 1) - 1 = nI (lw_ht r8 k - 2) := by
        have := pk_sub (a := lw_ht r8 k - 1) (b := 1) (by omega)
        exact this
      rw [e5, nI_clamp (show lw_ht r8 k - 1 < 2 ^ 31 by omega), nI_clamp (show lw_ht r8 k - 2 < 2 ^ 31 by omega), lw_by ho ho2, h3 (lw_ht r8 k - 2) (by omega), h3 (lw_ht r8 k - 1) (by omega)]
      refine ⟨rfl, rfl, fun j2 hj2 => ?_, fun q => absurd q (by omega)⟩
      dsimp only at hj2 ⊢
      by_cases e : j2 = lw_ht r8 k - 2
      · rw [e]; simp [upd]
      · simp only [upd, if_neg e]; exact h3 j2 (by omega)
theorem lw_val {r8 r414 vs : Nat → Int32} {g : Nat → Nat → Int32} {m : Nat} (hw : lawok r8 g m) (hm : m ≤ 150) : vX10_byLaw r414 vs g m = hd_val r8 m vs := by
  unfold vX10_byLaw hd_val
  rw [lw_clip]
  obtain ⟨h1, h2, h3, h4⟩ := lw_run (r414 := r414) (vs := vs) (D := ((((5 : Int32) * (vs 0)) + ((20 : Int32) * (vs 3))) - ((2 : Int32) * (vs 1))) - (vs 2)) hw hm m (Nat.le_refl _)
  congr 1
  rw [h2]
  by_cases e : lw_ht r8 m = 0
  · rw [if_pos e, h4 e, Int32.mul_comm 5, Int32.mul_comm 20, Int32.mul_comm 2]
  · rw [if_neg e, h3 0 (by omega)]
def vX10_holdBy (r414 : Nat → Int32) (r415 : Nat → Int32) (g75 : Nat → Nat → Int32) (m : Nat) (a0 : Int32) (a1 : Int32) (a2 : Int32) (a3 : Int32) (a4 : Int32) (a5 : Int32) (a6 : Int32) (a7 : Int32) : Int32 := (vX10_byLaw r414 (upd (upd (upd (upd (upd (upd (upd (upd r415 (0) a0) (1) a1) (2) a2) (3) a3) (4) a4) (5) a5) (6) a6) (7) a7) g75 m)
def rX10_holdBy_414 (r414 : Nat → Int32) (r415 : Nat → Int32) (g75 : Nat → Nat → Int32) (m : Nat) (a0 : Int32) (a1 : Int32) (a2 : Int32) (a3 : Int32) (a4 : Int32) (a5 : Int32) (a6 : Int32) (a7 : Int32) : Nat → Int32 := (rX10_byLaw_414 r414 (upd (upd (upd (upd (upd (upd (upd (upd r415 (0) a0) (1) a1) (2) a2) (3) a3) (4) a4) (5) a5) (6) a6) (7) a7) g75 m)
def rX10_holdBy_415 (r414 : Nat → Int32) (r415 : Nat → Int32) (g75 : Nat → Nat → Int32) (m : Nat) (a0 : Int32) (a1 : Int32) (a2 : Int32) (a3 : Int32) (a4 : Int32) (a5 : Int32) (a6 : Int32) (a7 : Int32) : Nat → Int32 := (upd (upd (upd (upd (upd (upd (upd (upd r415 (0) a0) (1) a1) (2) a2) (3) a3) (4) a4) (5) a5) (6) a6) (7) a7)
set_option maxHeartbeats 1000000 in
theorem sp_X10_holdBy {d kc ks : Nat} {h : Nat → Nat → Int32} {g : Nat → Nat → Int64} {Q : jj_Rs → jj_St → Prop} {m : Nat} {a0 : Int32} {a1 : Int32} {a2 : Int32} {a3 : Int32} {a4 : Int32} {a5 : Int32} {a6 : Int32} {a7 : Int32} (hM : h 49 17 = nI m) (hm2 : m ≤ 150) (hw : lawok (h 8) (jj_gd h 75 160) m) (kq : Q (.inl (some (.int (vX10_holdBy (h 414) (h 415) (jj_gd h 75 160) m a0 a1 a2 a3 a4 a5 a6 a7)))) (jj_S, 782, (jj_rs h [(414, (rX10_holdBy_414 (h 414) (h 415) (jj_gd h 75 160) m a0 a1 a2 a3 a4 a5 a6 a7)), (415, (rX10_holdBy_415 (h 414) (h 415) (jj_gd h 75 160) m a0 a1 a2 a3 a4 a5 a6 a7))]), g)) : jj_R mX10_holdBy (d + 3) kc ks (jj_S, 782, h, g) 0 [(0, .ref 49), (1, .int a0), (2, .int a1), (3, .int a2), (4, .int a3), (5, .int a4), (6, .int a5), (7, .int a6), (8, .int a7)] [] Q := by
  refine rr_aload_n 0 rfl rfl dX10_holdBy_0 ?_
  refine rr_getR dX10_holdBy_1 fX10_55 lo_49 sh_49 rfl ?_
  refine rr_iconst 0 rfl dX10_holdBy_4 ?_
  refine rr_iload_n 1 rfl rfl dX10_holdBy_5 ?_
  refine rr_iastore dX10_holdBy_6 lo_415 sh_415 (jj_inL rfl) ?_
  rw [show (0 : Int32).toNatClampNeg = 0 from rfl]
  rw [jj_rs_set0 (B := h) (o := 415) (r := (h 415)) rfl]
  refine rr_aload_n 0 rfl rfl dX10_holdBy_7 ?_
  refine rr_getR dX10_holdBy_8 fX10_55 lo_49 sh_49 rfl ?_
  refine rr_iconst 1 rfl dX10_holdBy_11 ?_
  refine rr_iload_n 2 rfl rfl dX10_holdBy_12 ?_
  refine rr_iastore dX10_holdBy_13 lo_415 sh_415 (jj_inL rfl) ?_
  rw [show (1 : Int32).toNatClampNeg = 1 from rfl]
  rw [jj_rs_set (B := h) (L := [(415, (upd (h 415) (0) a0))]) (L2 := [(415, (upd (upd (h 415) (0) a0) (1) a1))]) (r := (upd (h 415) (0) a0)) rfl rfl]
  refine rr_aload_n 0 rfl rfl dX10_holdBy_14 ?_
  refine rr_getR dX10_holdBy_15 fX10_55 lo_49 sh_49 rfl ?_
  refine rr_iconst 2 rfl dX10_holdBy_18 ?_
  refine rr_iload_n 3 rfl rfl dX10_holdBy_19 ?_
  refine rr_iastore dX10_holdBy_20 lo_415 sh_415 (jj_inL rfl) ?_
  rw [show (2 : Int32).toNatClampNeg = 2 from rfl]
  rw [jj_rs_set (B := h) (L := [(415, (upd (upd (h 415) (0) a0) (1) a1))]) (L2 := [(415, (upd (upd (upd (h 415) (0) a0) (1) a1) (2) a2))]) (r := (upd (upd (h 415) (0) a0) (1) a1)) rfl rfl]
  refine rr_aload_n 0 rfl rfl dX10_holdBy_21 ?_
  refine rr_getR dX10_holdBy_22 fX10_55 lo_49 sh_49 rfl ?_
  refine rr_iconst 3 rfl dX10_holdBy_25 ?_
  refine rr_iload 4 rfl dX10_holdBy_26 ?_
  refine rr_iastore dX10_holdBy_28 lo_415 sh_415 (jj_inL rfl) ?_
  rw [show (3 : Int32).toNatClampNeg = 3 from rfl]
  rw [jj_rs_set (B := h) (L := [(415, (upd (upd (upd (h 415) (0) a0) (1) a1) (2) a2))]) (L2 := [(415, (upd (upd (upd (upd (h 415) (0) a0) (1) a1) (2) a2) (3) a3))]) (r := (upd (upd (upd (h 415) (0) a0) (1) a1) (2) a2)) rfl rfl]
  refine rr_aload_n 0 rfl rfl dX10_holdBy_29 ?_
  refine rr_getR dX10_holdBy_30 fX10_55 lo_49 sh_49 rfl ?_
  refine rr_iconst 4 rfl dX10_holdBy_33 ?_
  refine rr_iload 5 rfl dX10_holdBy_34 ?_
  refine rr_iastore dX10_holdBy_36 lo_415 sh_415 (jj_inL rfl) ?_
  rw [show (4 : Int32).toNatClampNeg = 4 from rfl]
  rw [jj_rs_set (B := h) (L := [(415, (upd (upd (upd (upd (h 415) (0) a0) (1) a1) (2) a2) (3) a3))]) (L2 := [(415, (upd (upd (upd (upd (upd (h 415) (0) a0) (1) a1) (2) a2) (3) a3) (4) a4))]) (r := (upd (upd (upd (upd (h 415) (0) a0) (1) a1) (2) a2) (3) a3)) rfl rfl]
  refine rr_aload_n 0 rfl rfl dX10_holdBy_37 ?_
  refine rr_getR dX10_holdBy_38 fX10_55 lo_49 sh_49 rfl ?_
  refine rr_iconst 5 rfl dX10_holdBy_41 ?_
  refine rr_iload 6 rfl dX10_holdBy_42 ?_
  refine rr_iastore dX10_holdBy_44 lo_415 sh_415 (jj_inL rfl) ?_
  rw [show (5 : Int32).toNatClampNeg = 5 from rfl]
  rw [jj_rs_set (B := h) (L := [(415, (upd (upd (upd (upd (upd (h 415) (0) a0) (1) a1) (2) a2) (3) a3) (4) a4))]) (L2 := [(415, (upd (upd (upd (upd (upd (upd (h 415) (0) a0) (1) a1) (2) a2) (3) a3) (4) a4) (5) a5))]) (r := (upd (upd (upd (upd (upd (h 415) (0) a0) (1) a1) (2) a2) (3) a3) (4) a4)) rfl rfl]
  refine rr_aload_n 0 rfl rfl dX10_holdBy_45 ?_
  refine rr_getR dX10_holdBy_46 fX10_55 lo_49 sh_49 rfl ?_
  refine rr_bipush 6 rfl dX10_holdBy_49 ?_
  refine rr_iload 7 rfl dX10_holdBy_51 ?_
  refine rr_iastore dX10_holdBy_53 lo_415 sh_415 (jj_inL rfl) ?_
  rw [show (6 : Int32).toNatClampNeg = 6 from rfl]
  rw [jj_rs_set (B := h) (L := [(415, (upd (upd (upd (upd (upd (upd (h 415) (0) a0) (1) a1) (2) a2) (3) a3) (4) a4) (5) a5))]) (L2 := [(415, (upd (upd (upd (upd (upd (upd (upd (h 415) (0) a0) (1) a1) (2) a2) (3) a3) (4) a4) (5) a5) (6) a6))]) (r := (upd (upd (upd (upd (upd (upd (h 415) (0) a0) (1) a1) (2) a2) (3) a3) (4) a4) (5) a5)) rfl rfl]
  refine rr_aload_n 0 rfl rfl dX10_holdBy_54 ?_
  refine rr_getR dX10_holdBy_55 fX10_55 lo_49 sh_49 rfl ?_
  refine rr_bipush 7 rfl dX10_holdBy_58 ?_
  refine rr_iload 8 rfl dX10_holdBy_60 ?_
  refine rr_iastore dX10_holdBy_62 lo_415 sh_415 (jj_inL rfl) ?_
  rw [show (7 : Int32).toNatClampNeg = 7 from rfl]
  rw [jj_rs_set (B := h) (L := [(415, (upd (upd (upd (upd (upd (upd (upd (h 415) (0) a0) (1) a1) (2) a2) (3) a3) (4) a4) (5) a5) (6) a6))]) (L2 := [(415, (upd (upd (upd (upd (upd (upd (upd (upd (h 415) (0) a0) (1) a1) (2) a2) (3) a3) (4) a4) (5) a5) (6) a6) (7) a7))]) (r := (upd (upd (upd (upd (upd (upd (upd (h 415) (0) a0) (1) a1) (2) a2) (3) a3) (4) a4) (5) a5) (6) a6)) rfl rfl]
  refine rr_aload_n 0 rfl rfl dX10_holdBy_63 ?_
  refine rr_callV (As := []) (rest := []) (kc2 := 0) (ks2 := 0) dX10_holdBy_64 okX10_byLaw lX10_257 lo_49 sh_49 rfl rfl (Nat.le_of_ble_eq_true rfl) (Nat.le_of_ble_eq_true rfl) rfl (by omega) (by simp [jj_rk]) (by simp [jj_rk]) ?_
  refine sp_X10_byLaw (by first | exact hM | exact (congrFun (jj_eq.rf 49 (by decide)) 17).trans hM | assumption) hm2 (lw_to (jj_gd_rs (B := h) (L := [(415, (upd (upd (upd (upd (upd (upd (upd (upd (h 415) (0) a0) (1) a1) (2) a2) (3) a3) (4) a4) (5) a5) (6) a6) (7) a7))]) (b := 75) (len := 160) rfl) (show (jj_rs h [(415, (upd (upd (upd (upd (upd (upd (upd (upd (h 415) (0) a0) (1) a1) (2) a2) (3) a3) (4) a4) (5) a5) (6) a6) (7) a7))]) 8 = h 8 from rfl) hw) ?_
  show jj_R _ _ kc ks (jj_S, 782, (jj_rs (jj_rs h [(415, (upd (upd (upd (upd (upd (upd (upd (upd (h 415) (0) a0) (1) a1) (2) a2) (3) a3) (4) a4) (5) a5) (6) a6) (7) a7))]) [(414, (rX10_byLaw_414 (h 414) (upd (upd (upd (upd (upd (upd (upd (upd (h 415) (0) a0) (1) a1) (2) a2) (3) a3) (4) a4) (5) a5) (6) a6) (7) a7) (jj_gd (jj_rs h [(415, (upd (upd (upd (upd (upd (upd (upd (upd (h 415) (0) a0) (1) a1) (2) a2) (3) a3) (4) a4) (5) a5) (6) a6) (7) a7))]) 75 160) m))]), g) 67 [(0, .ref 49), (1, .int a0), (2, .int a1), (3, .int a2), (4, .int a3), (5, .int a4), (6, .int a5), (7, .int a6), (8, .int a7)] [.int (vX10_byLaw (h 414) (upd (upd (upd (upd (upd (upd (upd (upd (h 415) (0) a0) (1) a1) (2) a2) (3) a3) (4) a4) (5) a5) (6) a6) (7) a7) (jj_gd (jj_rs h [(415, (upd (upd (upd (upd (upd (upd (upd (upd (h 415) (0) a0) (1) a1) (2) a2) (3) a3) (4) a4) (5) a5) (6) a6) (7) a7))]) 75 160) m)] Q
  rw [jj_rs_rs (B := h) (L := [(415, (upd (upd (upd (upd (upd (upd (upd (upd (h 415) (0) a0) (1) a1) (2) a2) (3) a3) (4) a4) (5) a5) (6) a6) (7) a7))]) (M := [(414, (rX10_byLaw_414 (h 414) (upd (upd (upd (upd (upd (upd (upd (upd (h 415) (0) a0) (1) a1) (2) a2) (3) a3) (4) a4) (5) a5) (6) a6) (7) a7) (jj_gd (jj_rs h [(415, (upd (upd (upd (upd (upd (upd (upd (upd (h 415) (0) a0) (1) a1) (2) a2) (3) a3) (4) a4) (5) a5) (6) a6) (7) a7))]) 75 160) m))]) (L2 := [(414, (rX10_byLaw_414 (h 414) (upd (upd (upd (upd (upd (upd (upd (upd (h 415) (0) a0) (1) a1) (2) a2) (3) a3) (4) a4) (5) a5) (6) a6) (7) a7) (jj_gd (jj_rs h [(415, (upd (upd (upd (upd (upd (upd (upd (upd (h 415) (0) a0) (1) a1) (2) a2) (3) a3) (4) a4) (5) a5) (6) a6) (7) a7))]) 75 160) m)), (415, (upd (upd (upd (upd (upd (upd (upd (upd (h 415) (0) a0) (1) a1) (2) a2) (3) a3) (4) a4) (5) a5) (6) a6) (7) a7))]) rfl]
  try rw [show jj_gd (jj_rs h [(415, (upd (upd (upd (upd (upd (upd (upd (upd (h 415) (0) a0) (1) a1) (2) a2) (3) a3) (4) a4) (5) a5) (6) a6) (7) a7))]) 75 160 = jj_gd h 75 160 from (jj_gd_rs (B := h) (L := [(415, (upd (upd (upd (upd (upd (upd (upd (upd (h 415) (0) a0) (1) a1) (2) a2) (3) a3) (4) a4) (5) a5) (6) a6) (7) a7))]) (b := 75) (len := 160) rfl)]
  refine rr_ireturn dX10_holdBy_67 rfl ?_
  simpa only [vX10_holdBy, rX10_holdBy_414, rX10_holdBy_415] using kq
theorem sp_X10_holdByL {d kc ks : Nat} {h : Nat → Nat → Int32} {g : Nat → Nat → Int64} {Q : jj_Rs → jj_St → Prop} {m : Nat} {a0 a1 a2 a3 a4 a5 a6 a7 : Int32} (hM : h 49 17 = nI m) (hm2 : m ≤ 150) (hw : lawok (h 8) (jj_gd h 75 160) m) (kq : ∀ h9, jj_eq [414, 415] h h9 → Q (.inl (some (.int (hd_val (h 8) m (hd_vals a0 a1 a2 a3 a4 a5 a6 a7))))) (jj_S, 782, h9, g)) : jj_R mX10_holdBy (d + 3) kc ks (jj_S, 782, h, g) 0 [(0, .ref 49), (1, .int a0), (2, .int a1), (3, .int a2), (4, .int a3), (5, .int a4), (6, .int a5), (7, .int a6), (8, .int a7)] [] Q := by
  refine sp_X10_holdBy hM hm2 hw ?_
  have hv : vX10_holdBy (h 414) (h 415) (jj_gd h 75 160) m a0 a1 a2 a3 a4 a5 a6 a7 = hd_val (h 8) m (hd_vals a0 a1 a2 a3 a4 a5 a6 a7) := by
    unfold vX10_holdBy
    rw [lw_val hw hm2]
    refine hd_congr (fun j hj => ?_)
    rcases (show j = 0 ∨ j = 1 ∨ j = 2 ∨ j = 3 ∨ j = 4 ∨ j = 5 ∨ j = 6 ∨ j = 7 by omega) with rfl | rfl | rfl | rfl | rfl | rfl | rfl | rfl <;> rfl
  rw [hv]
  refine kq _ (fun o ho => ?_)
  have n1 : (o == 414) = false := by
    rw [beq_eq_false_iff_ne]; exact fun q => ho (by rw [q]; decide)
  have n2 : (o == 415) = false := by
    rw [beq_eq_false_iff_ne]; exact fun q => ho (by rw [q]; decide)
  simp only [jj_rs, List.lookup, n1, n2]
def vX10_holdOf_n (r8 : Nat → Int32) (r73 : Nat → Int32) (r497 : Nat → Int32) (g64 : Nat → Nat → Int32) (m : Nat) (a : Int32) (b : Int32) (tw : Int32) : Int32 := (if a = b then (hd_val r8 m (hd_vals (g64 (a : Int32).toNatClampNeg 0) (g64 (b : Int32).toNatClampNeg 1) (vX10_behind_n r497 b) tw (((r73 (a : Int32).toNatClampNeg) >>> (b &&& 31)) &&& 1) 1 (r497 (((16 : Int32) + b) : Int32).toNatClampNeg) (r497 33))) else (hd_val r8 m (hd_vals (g64 (a : Int32).toNatClampNeg 0) (g64 (b : Int32).toNatClampNeg 1) (vX10_behind_n r497 b) tw (((r73 (a : Int32).toNatClampNeg) >>> (b &&& 31)) &&& 1) 0 (r497 (((16 : Int32) + b) : Int32).toNatClampNeg) (r497 33))))
set_option maxHeartbeats 1000000 in
theorem sp_X10_holdOf_n {d kc ks : Nat} {h : Nat → Nat → Int32} {g : Nat → Nat → Int64} {Q : jj_Rs → jj_St → Prop} {m : Nat} {a : Int32} {b : Int32} {tw : Int32} (ha : vp_in a 8) (hb : vp_in b 8) (hM : h 49 17 = nI m) (hm2 : m ≤ 150) (hw : lawok (h 8) (jj_gd h 75 160) m) (kq : ∀ h9, jj_eq [414, 415] h h9 → Q (.inl (some (.int (vX10_holdOf_n (h 8) (h 73) (h 497) (jj_gd h 64 8) m a b tw)))) (jj_S, 782, h9, g)) : jj_R mX10_holdOf (d + 4) kc ks (jj_S, 782, h, g) 0 [(0, .ref 49), (1, .ref 497), (2, .int a), (3, .int b), (4, .int tw)] [] Q := by
  refine rr_aload_n 0 rfl rfl dX10_holdOf_0 ?_
  refine rr_aload_n 0 rfl rfl dX10_holdOf_1 ?_
  refine rr_getR dX10_holdOf_2 fX10_31 lo_49 sh_49 rfl ?_
  refine rr_iload_n 2 rfl rfl dX10_holdOf_5 ?_
  refine rr_aaload dX10_holdOf_6 lo_63 sh_63 (by first | assumption | exact jj_pM hn (by assumption) | exact jj_pM hn (jj_two (by assumption)).1 | exact jj_pM hn (jj_two (by assumption)).2 | decide | omega) ?_
  refine rr_iconst 0 rfl dX10_holdOf_7 ?_
  refine rr_iaload dX10_holdOf_8 (lr_63 (jj_ink (i := a) (by first | assumption | exact jj_pM hn (by assumption) | exact jj_pM hn (jj_two (by assumption)).1 | exact jj_pM hn (jj_two (by assumption)).2 | decide | omega))) (sr_63 (jj_ink (i := a) (by first | assumption | exact jj_pM hn (by assumption) | exact jj_pM hn (jj_two (by assumption)).1 | exact jj_pM hn (jj_two (by assumption)).2 | decide | omega))) (jj_inL rfl) ?_
  rw [show h (64 + (a : Int32).toNatClampNeg) = jj_gd h 64 8 (a : Int32).toNatClampNeg from (jj_gd_at (jj_ink (i := a) (by first | assumption | exact jj_pM hn (by assumption) | exact jj_pM hn (jj_two (by assumption)).1 | exact jj_pM hn (jj_two (by assumption)).2 | decide | omega)))]
  rw [show jj_gd h 64 8 (a : Int32).toNatClampNeg (0 : Int32).toNatClampNeg = jj_gd h 64 8 (a : Int32).toNatClampNeg 0 from rfl]
  refine rr_aload_n 0 rfl rfl dX10_holdOf_9 ?_
  refine rr_getR dX10_holdOf_10 fX10_31 lo_49 sh_49 rfl ?_
  refine rr_iload_n 3 rfl rfl dX10_holdOf_13 ?_
  refine rr_aaload dX10_holdOf_14 lo_63 sh_63 (by first | assumption | exact jj_pM hn (by assumption) | exact jj_pM hn (jj_two (by assumption)).1 | exact jj_pM hn (jj_two (by assumption)).2 | decide | omega) ?_
  refine rr_iconst 1 rfl dX10_holdOf_15 ?_
  refine rr_iaload dX10_holdOf_16 (lr_63 (jj_ink (i := b) (by first | assumption | exact jj_pM hn (by assumption) | exact jj_pM hn (jj_two (by assumption)).1 | exact jj_pM hn (jj_two (by assumption)).2 | decide | omega))) (sr_63 (jj_ink (i := b) (by first | assumption | exact jj_pM hn (by assumption) | exact jj_pM hn (jj_two (by assumption)).1 | exact jj_pM hn (jj_two (by assumption)).2 | decide | omega))) (jj_inL rfl) ?_
  rw [show h (64 + (b : Int32).toNatClampNeg) = jj_gd h 64 8 (b : Int32).toNatClampNeg from (jj_gd_at (jj_ink (i := b) (by first | assumption | exact jj_pM hn (by assumption) | exact jj_pM hn (jj_two (by assumption)).1 | exact jj_pM hn (jj_two (by assumption)).2 | decide | omega)))]
  rw [show jj_gd h 64 8 (b : Int32).toNatClampNeg (1 : Int32).toNatClampNeg = jj_gd h 64 8 (b : Int32).toNatClampNeg 1 from rfl]
  refine rr_aload_n 1 rfl rfl dX10_holdOf_17 ?_
  refine rr_iload_n 3 rfl rfl dX10_holdOf_18 ?_
  refine rr_callS (As := [.ref 497, .int b]) (rest := [.int ((jj_gd h 64 8) (b : Int32).toNatClampNeg 1), .int ((jj_gd h 64 8) (a : Int32).toNatClampNeg 0), .ref 49]) (kc2 := 0) (ks2 := 0) dX10_holdOf_19 okX10_behind lX10_260 rfl (Nat.le_of_ble_eq_true rfl) (Nat.le_of_ble_eq_true rfl) rfl (by omega) (by simp [jj_rk]) (by simp [jj_rk]) ?_
  refine sp_X10_behind_n (by first | assumption | exact jj_pM hn (by assumption) | exact jj_pM hn (jj_two (by assumption)).1 | exact jj_pM hn (jj_two (by assumption)).2 | decide | omega) ?_
  show jj_R _ _ kc ks (jj_S, 782, h, g) 22 [(0, .ref 49), (1, .ref 497), (2, .int a), (3, .int b), (4, .int tw)] [.int (vX10_behind_n (h 497) b), .int ((jj_gd h 64 8) (b : Int32).toNatClampNeg 1), .int ((jj_gd h 64 8) (a : Int32).toNatClampNeg 0), .ref 49] Q
  refine rr_iload 4 rfl dX10_holdOf_22 ?_
  refine rr_aload_n 0 rfl rfl dX10_holdOf_24 ?_
  refine rr_getR dX10_holdOf_25 fX10_37 lo_49 sh_49 rfl ?_
  refine rr_iload_n 2 rfl rfl dX10_holdOf_28 ?_
  refine rr_iaload dX10_holdOf_29 lo_73 sh_73 (by first | assumption | exact jj_pM hn (by assumption) | exact jj_pM hn (jj_two (by assumption)).1 | exact jj_pM hn (jj_two (by assumption)).2 | decide | omega) ?_
  refine rr_iload_n 3 rfl rfl dX10_holdOf_30 ?_
  refine rr_ishr dX10_holdOf_31 ?_
  refine rr_iconst 1 rfl dX10_holdOf_32 ?_
  refine rr_iand dX10_holdOf_33 ?_
  refine rr_iload_n 2 rfl rfl dX10_holdOf_34 ?_
  refine rr_iload_n 3 rfl rfl dX10_holdOf_35 ?_
  refine rr_icmp_ne dX10_holdOf_36 (fun c1 => ?_) (fun c1 => ?_)
  · skip
    refine rr_iconst 0 rfl dX10_holdOf_43 ?_
    refine rr_aload_n 1 rfl rfl dX10_holdOf_44 ?_
    refine rr_bipush 16 rfl dX10_holdOf_45 ?_
    refine rr_iload_n 3 rfl rfl dX10_holdOf_47 ?_
    refine rr_iadd dX10_holdOf_48 ?_
    refine rr_iaload dX10_holdOf_49 lo_497 sh_497 (jj_rowin (n := 8) (o := 16) (by first | assumption | exact jj_pM hn (by assumption) | exact jj_pM hn (jj_two (by assumption)).1 | exact jj_pM hn (jj_two (by assumption)).2 | decide | omega) (by decide) (by decide)) ?_
    refine rr_aload_n 1 rfl rfl dX10_holdOf_50 ?_
    refine rr_bipush 33 rfl dX10_holdOf_51 ?_
    refine rr_iaload dX10_holdOf_53 lo_497 sh_497 (jj_inL rfl) ?_
    rw [show (h 497) (33 : Int32).toNatClampNeg = (h 497) 33 from rfl]
    refine rr_callV (As := [.int ((jj_gd h 64 8) (a : Int32).toNatClampNeg 0), .int ((jj_gd h 64 8) (b : Int32).toNatClampNeg 1), .int (vX10_behind_n (h 497) b), .int tw, .int ((((h 73) (a : Int32).toNatClampNeg) >>> (b &&& 31)) &&& 1), .int 0, .int ((h 497) (((16 : Int32) + b) : Int32).toNatClampNeg), .int ((h 497) 33)]) (rest := []) (kc2 := 0) (ks2 := 0) dX10_holdOf_54 okX10_holdBy lX10_264 lo_49 sh_49 rfl rfl (Nat.le_of_ble_eq_true rfl) (Nat.le_of_ble_eq_true rfl) rfl (by omega) (by simp [jj_rk]) (by simp [jj_rk]) ?_
    refine sp_X10_holdByL (by first | exact hM | exact (congrFun (jj_eq.rf 49 (by decide)) 17).trans hM | assumption) hm2 (lw_to rfl (show h 8 = h 8 from rfl) hw) (fun h2 e3 => ?_)
    have e4 := jj_lo0 (X := [414, 415]) (jj_eq.rf (X := [414, 415])) e3 (by decide)
    show jj_R _ _ kc ks (jj_S, 782, h2, g) 57 [(0, .ref 49), (1, .ref 497), (2, .int a), (3, .int b), (4, .int tw)] [.int (hd_val (h 8) m (hd_vals ((jj_gd h 64 8) (a : Int32).toNatClampNeg 0) ((jj_gd h 64 8) (b : Int32).toNatClampNeg 1) (vX10_behind_n (h 497) b) tw ((((h 73) (a : Int32).toNatClampNeg) >>> (b &&& 31)) &&& 1) 0 ((h 497) (((16 : Int32) + b) : Int32).toNatClampNeg) ((h 497) 33)))] Q
    refine rr_ireturn dX10_holdOf_57 rfl ?_
    simpa only [vX10_holdOf_n, if_neg c1] using kq h2 e4
  · skip
    refine rr_iconst 1 rfl dX10_holdOf_39 ?_
    refine rr_goto dX10_holdOf_40 ?_
    refine rr_aload_n 1 rfl rfl dX10_holdOf_44 ?_
    refine rr_bipush 16 rfl dX10_holdOf_45 ?_
    refine rr_iload_n 3 rfl rfl dX10_holdOf_47 ?_
    refine rr_iadd dX10_holdOf_48 ?_
    refine rr_iaload dX10_holdOf_49 lo_497 sh_497 (jj_rowin (n := 8) (o := 16) (by first | assumption | exact jj_pM hn (by assumption) | exact jj_pM hn (jj_two (by assumption)).1 | exact jj_pM hn (jj_two (by assumption)).2 | decide | omega) (by decide) (by decide)) ?_
    refine rr_aload_n 1 rfl rfl dX10_holdOf_50 ?_
    refine rr_bipush 33 rfl dX10_holdOf_51 ?_
    refine rr_iaload dX10_holdOf_53 lo_497 sh_497 (jj_inL rfl) ?_
    rw [show (h 497) (33 : Int32).toNatClampNeg = (h 497) 33 from rfl]
    refine rr_callV (As := [.int ((jj_gd h 64 8) (a : Int32).toNatClampNeg 0), .int ((jj_gd h 64 8) (b : Int32).toNatClampNeg 1), .int (vX10_behind_n (h 497) b), .int tw, .int ((((h 73) (a : Int32).toNatClampNeg) >>> (b &&& 31)) &&& 1), .int 1, .int ((h 497) (((16 : Int32) + b) : Int32).toNatClampNeg), .int ((h 497) 33)]) (rest := []) (kc2 := 0) (ks2 := 0) dX10_holdOf_54 okX10_holdBy lX10_264 lo_49 sh_49 rfl rfl (Nat.le_of_ble_eq_true rfl) (Nat.le_of_ble_eq_true rfl) rfl (by omega) (by simp [jj_rk]) (by simp [jj_rk]) ?_
    refine sp_X10_holdByL (by first | exact hM | exact (congrFun (jj_eq.rf 49 (by decide)) 17).trans hM | assumption) hm2 (lw_to rfl (show h 8 = h 8 from rfl) hw) (fun h5 e6 => ?_)
    have e7 := jj_lo0 (X := [414, 415]) (jj_eq.rf (X := [414, 415])) e6 (by decide)
    show jj_R _ _ kc ks (jj_S, 782, h5, g) 57 [(0, .ref 49), (1, .ref 497), (2, .int a), (3, .int b), (4, .int tw)] [.int (hd_val (h 8) m (hd_vals ((jj_gd h 64 8) (a : Int32).toNatClampNeg 0) ((jj_gd h 64 8) (b : Int32).toNatClampNeg 1) (vX10_behind_n (h 497) b) tw ((((h 73) (a : Int32).toNatClampNeg) >>> (b &&& 31)) &&& 1) 1 ((h 497) (((16 : Int32) + b) : Int32).toNatClampNeg) ((h 497) 33)))] Q
    refine rr_ireturn dX10_holdOf_57 rfl ?_
    simpa only [vX10_holdOf_n, if_pos c1] using kq h5 e7
def vX10_ties_n (r8 : Nat → Int32) (r73 : Nat → Int32) (r497 : Nat → Int32) (g64 : Nat → Nat → Int32) (m : Nat) (a : Int32) (b : Int32) (tw : Int32) : Int32 := (if (vX10_isLoose_n r497 b) = 0 then 0 else (if (vX10_isHand_n r497 a b) = 0 then 0 else 1))
def rX10_ties_n_497 (r8 : Nat → Int32) (r73 : Nat → Int32) (r497 : Nat → Int32) (g64 : Nat → Nat → Int32) (m : Nat) (a : Int32) (b : Int32) (tw : Int32) : Nat → Int32 := (if (vX10_isLoose_n r497 b) = 0 then r497 else (if (vX10_isHand_n r497 a b) = 0 then r497 else (if 10 ≤ (vX10_holdOf_n r8 r73 r497 g64 m a b tw) then (if a = b then (upd (upd (upd (upd r497 ((((8 : Int32) + b) : Int32).toNatClampNeg) ((1 : Int32) + tw)) ((((24 : Int32) + b) : Int32).toNatClampNeg) a) ((((0 : Int32) + b) : Int32).toNatClampNeg) ((upd (upd r497 ((((8 : Int32) + b) : Int32).toNatClampNeg) ((1 : Int32) + tw)) ((((24 : Int32) + b) : Int32).toNatClampNeg) a) 33)) (34) (((upd (upd (upd r497 ((((8 : Int32) + b) : Int32).toNatClampNeg) ((1 : Int32) + tw)) ((((24 : Int32) + b) : Int32).toNatClampNeg) a) ((((0 : Int32) + b) : Int32).toNatClampNeg) ((upd (upd r497 ((((8 : Int32) + b) : Int32).toNatClampNeg) ((1 : Int32) + tw)) ((((24 : Int32) + b) : Int32).toNatClampNeg) a) 33)) 34) + 1)) else (upd (upd (upd (upd r497 ((((8 : Int32) + b) : Int32).toNatClampNeg) ((1 : Int32) + tw)) ((((24 : Int32) + b) : Int32).toNatClampNeg) a) ((((0 : Int32) + b) : Int32).toNatClampNeg) ((upd (upd r497 ((((8 : Int32) + b) : Int32).toNatClampNeg) ((1 : Int32) + tw)) ((((24 : Int32) + b) : Int32).toNatClampNeg) a) (((0 : Int32) + a) : Int32).toNatClampNeg)) (34) (((upd (upd (upd r497 ((((8 : Int32) + b) : Int32).toNatClampNeg) ((1 : Int32) + tw)) ((((24 : Int32) + b) : Int32).toNatClampNeg) a) ((((0 : Int32) + b) : Int32).toNatClampNeg) ((upd (upd r497 ((((8 : Int32) + b) : Int32).toNatClampNeg) ((1 : Int32) + tw)) ((((24 : Int32) + b) : Int32).toNatClampNeg) a) (((0 : Int32) + a) : Int32).toNatClampNeg)) 34) + 1))) else (upd r497 ((((16 : Int32) + b) : Int32).toNatClampNeg) ((r497 (((16 : Int32) + b) : Int32).toNatClampNeg) + 1)))))
set_option maxHeartbeats 1000000 in
theorem sp_X10_ties_n {d kc ks : Nat} {h : Nat → Nat → Int32} {g : Nat → Nat → Int64} {Q : jj_Rs → jj_St → Prop} {m : Nat} {a : Int32} {b : Int32} {tw : Int32} (ha : vp_in a 8) (hb : vp_in b 8) (hM : h 49 17 = nI m) (hm2 : m ≤ 150) (hw : lawok (h 8) (jj_gd h 75 160) m) (kq : ∀ h9, jj_eq [414, 415] h h9 → Q (.inl (some (.int (vX10_ties_n (h 8) (h 73) (h 497) (jj_gd h 64 8) m a b tw)))) (jj_S, 782, (jj_rs h9 [(497, (rX10_ties_n_497 (h 8) (h 73) (h 497) (jj_gd h 64 8) m a b tw))]), g)) : jj_R mX10_ties (d + 5) kc ks (jj_S, 782, h, g) 0 [(0, .ref 49), (1, .ref 497), (2, .int a), (3, .int b), (4, .int tw)] [] Q := by
  refine rr_aload_n 1 rfl rfl dX10_ties_0 ?_
  refine rr_iload_n 3 rfl rfl dX10_ties_1 ?_
  refine rr_callS (As := [.ref 497, .int b]) (rest := []) (kc2 := 0) (ks2 := 0) dX10_ties_2 okX10_isLoose lX10_268 rfl (Nat.le_of_ble_eq_true rfl) (Nat.le_of_ble_eq_true rfl) rfl (by omega) (by simp [jj_rk]) (by simp [jj_rk]) ?_
  refine sp_X10_isLoose_n (by first | assumption | exact jj_pM hn (by assumption) | exact jj_pM hn (jj_two (by assumption)).1 | exact jj_pM hn (jj_two (by assumption)).2 | decide | omega) ?_
  show jj_R _ _ kc ks (jj_S, 782, h, g) 5 [(0, .ref 49), (1, .ref 497), (2, .int a), (3, .int b), (4, .int tw)] [.int (vX10_isLoose_n (h 497) b)] Q
  refine rr_if_eq dX10_ties_5 (fun c1 => ?_) (fun c1 => ?_)
  · skip
    refine rr_iconst 0 rfl dX10_ties_17 ?_
    refine rr_nreturn dX10_ties_18 rfl (by first | rfl | assumption) ?_
    refine jj_Qh (jj_addr (B := h) (o := 497) (r := (h 497)) rfl) ?_
    simpa only [vX10_ties_n, rX10_ties_n_497, if_pos c1] using kq h jj_eq.rf
  · skip
    refine rr_aload_n 1 rfl rfl dX10_ties_8 ?_
    refine rr_iload_n 2 rfl rfl dX10_ties_9 ?_
    refine rr_iload_n 3 rfl rfl dX10_ties_10 ?_
    refine rr_callS (As := [.ref 497, .int a, .int b]) (rest := []) (kc2 := 0) (ks2 := 0) dX10_ties_11 okX10_isHand lX10_272 rfl (Nat.le_of_ble_eq_true rfl) (Nat.le_of_ble_eq_true rfl) rfl (by omega) (by simp [jj_rk]) (by simp [jj_rk]) ?_
    refine sp_X10_isHand_n (by first | assumption | exact jj_pM hn (by assumption) | exact jj_pM hn (jj_two (by assumption)).1 | exact jj_pM hn (jj_two (by assumption)).2 | decide | omega) (by first | assumption | exact jj_pM hn (by assumption) | exact jj_pM hn (jj_two (by assumption)).1 | exact jj_pM hn (jj_two (by assumption)).2 | decide | omega) ?_
    show jj_R _ _ kc ks (jj_S, 782, h, g) 14 [(0, .ref 49), (1, .ref 497), (2, .int a), (3, .int b), (4, .int tw)] [.int (vX10_isHand_n (h 497) a b)] Q
    refine rr_if_ne dX10_ties_14 (fun c2 => ?_) (fun c2 => ?_)
    · skip
      refine rr_aload_n 0 rfl rfl dX10_ties_19 ?_
      refine rr_aload_n 1 rfl rfl dX10_ties_20 ?_
      refine rr_iload_n 2 rfl rfl dX10_ties_21 ?_
      refine rr_iload_n 3 rfl rfl dX10_ties_22 ?_
      refine rr_iload 4 rfl dX10_ties_23 ?_
      refine rr_callV (As := [.ref 497, .int a, .int b, .int tw]) (rest := []) (kc2 := 0) (ks2 := 0) dX10_ties_25 okX10_holdOf lX10_276 lo_49 sh_49 rfl rfl (Nat.le_of_ble_eq_true rfl) (Nat.le_of_ble_eq_true rfl) rfl (by omega) (by simp [jj_rk]) (by simp [jj_rk]) ?_
      refine sp_X10_holdOf_n (by first | assumption | exact jj_pM hn (by assumption) | exact jj_pM hn (jj_two (by assumption)).1 | exact jj_pM hn (jj_two (by assumption)).2 | decide | omega) (by first | assumption | exact jj_pM hn (by assumption) | exact jj_pM hn (jj_two (by assumption)).1 | exact jj_pM hn (jj_two (by assumption)).2 | decide | omega) (by first | exact hM | exact (congrFun (jj_eq.rf 49 (by decide)) 17).trans hM | assumption) hm2 (lw_to rfl (show h 8 = h 8 from rfl) hw) (fun h3 e4 => ?_)
      have e5 := jj_lo0 (X := [414, 415]) (jj_eq.rf (X := [414, 415])) e4 (by decide)
      show jj_R _ _ kc ks (jj_S, 782, h3, g) 28 [(0, .ref 49), (1, .ref 497), (2, .int a), (3, .int b), (4, .int tw)] [.int (vX10_holdOf_n (h 8) (h 73) (h 497) (jj_gd h 64 8) m a b tw)] Q
      refine rr_bipush 10 rfl dX10_ties_28 ?_
      refine rr_icmp_ge dX10_ties_30 (fun c6 => ?_) (fun c6 => ?_)
      · skip
        refine rr_aload_n 1 rfl rfl dX10_ties_45 ?_
        refine rr_bipush 8 rfl dX10_ties_46 ?_
        refine rr_iload_n 3 rfl rfl dX10_ties_48 ?_
        refine rr_iadd dX10_ties_49 ?_
        refine rr_iconst 1 rfl dX10_ties_50 ?_
        refine rr_iload 4 rfl dX10_ties_51 ?_
        refine rr_iadd dX10_ties_53 ?_
        refine rr_iastore dX10_ties_54 lo_497 sh_497 (jj_rowin (n := 8) (o := 8) (by first | assumption | exact jj_pM hn (by assumption) | exact jj_pM hn (jj_two (by assumption)).1 | exact jj_pM hn (jj_two (by assumption)).2 | decide | omega) (by decide) (by decide)) ?_
        rw [jj_rs_set0 (B := h3) (o := 497) (r := (h 497)) (e5 497 (by decide))]
        refine rr_aload_n 1 rfl rfl dX10_ties_55 ?_
        refine rr_bipush 24 rfl dX10_ties_56 ?_
        refine rr_iload_n 3 rfl rfl dX10_ties_58 ?_
        refine rr_iadd dX10_ties_59 ?_
        refine rr_iload_n 2 rfl rfl dX10_ties_60 ?_
        refine rr_iastore dX10_ties_61 lo_497 sh_497 (jj_rowin (n := 8) (o := 24) (by first | assumption | exact jj_pM hn (by assumption) | exact jj_pM hn (jj_two (by assumption)).1 | exact jj_pM hn (jj_two (by assumption)).2 | decide | omega) (by decide) (by decide)) ?_
        rw [jj_rs_set (B := h3) (L := [(497, (upd (h 497) ((((8 : Int32) + b) : Int32).toNatClampNeg) ((1 : Int32) + tw)))]) (L2 := [(497, (upd (upd (h 497) ((((8 : Int32) + b) : Int32).toNatClampNeg) ((1 : Int32) + tw)) ((((24 : Int32) + b) : Int32).toNatClampNeg) a))]) (r := (upd (h 497) ((((8 : Int32) + b) : Int32).toNatClampNeg) ((1 : Int32) + tw))) rfl rfl]
        refine rr_aload_n 1 rfl rfl dX10_ties_62 ?_
        refine rr_iconst 0 rfl dX10_ties_63 ?_
        refine rr_iload_n 3 rfl rfl dX10_ties_64 ?_
        refine rr_iadd dX10_ties_65 ?_
        refine rr_iload_n 2 rfl rfl dX10_ties_66 ?_
        refine rr_iload_n 3 rfl rfl dX10_ties_67 ?_
        refine rr_icmp_ne dX10_ties_68 (fun c7 => ?_) (fun c7 => ?_)
        · skip
          refine rr_aload_n 1 rfl rfl dX10_ties_78 ?_
          refine rr_iconst 0 rfl dX10_ties_79 ?_
          refine rr_iload_n 2 rfl rfl dX10_ties_80 ?_
          refine rr_iadd dX10_ties_81 ?_
          refine rr_iaload dX10_ties_82 lo_497 sh_497 (jj_rowin (n := 8) (o := 0) (by first | assumption | exact jj_pM hn (by assumption) | exact jj_pM hn (jj_two (by assumption)).1 | exact jj_pM hn (jj_two (by assumption)).2 | decide | omega) (by decide) (by decide)) ?_
          rw [show (jj_rs h3 [(497, (upd (upd (h 497) ((((8 : Int32) + b) : Int32).toNatClampNeg) ((1 : Int32) + tw)) ((((24 : Int32) + b) : Int32).toNatClampNeg) a))]) 497 = (upd (upd (h 497) ((((8 : Int32) + b) : Int32).toNatClampNeg) ((1 : Int32) + tw)) ((((24 : Int32) + b) : Int32).toNatClampNeg) a) from rfl]
          refine rr_iastore dX10_ties_83 lo_497 sh_497 (jj_rowin (n := 8) (o := 0) (by first | assumption | exact jj_pM hn (by assumption) | exact jj_pM hn (jj_two (by assumption)).1 | exact jj_pM hn (jj_two (by assumption)).2 | decide | omega) (by decide) (by decide)) ?_
          rw [jj_rs_set (B := h3) (L := [(497, (upd (upd (h 497) ((((8 : Int32) + b) : Int32).toNatClampNeg) ((1 : Int32) + tw)) ((((24 : Int32) + b) : Int32).toNatClampNeg) a))]) (L2 := [(497, (upd (upd (upd (h 497) ((((8 : Int32) + b) : Int32).toNatClampNeg) ((1 : Int32) + tw)) ((((24 : Int32) + b) : Int32).toNatClampNeg) a) ((((0 : Int32) + b) : Int32).toNatClampNeg) ((upd (upd (h 497) ((((8 : Int32) + b) : Int32).toNatClampNeg) ((1 : Int32) + tw)) ((((24 : Int32) + b) : Int32).toNatClampNeg) a) (((0 : Int32) + a) : Int32).toNatClampNeg)))]) (r := (upd (upd (h 497) ((((8 : Int32) + b) : Int32).toNatClampNeg) ((1 : Int32) + tw)) ((((24 : Int32) + b) : Int32).toNatClampNeg) a)) rfl rfl]
          refine rr_aload_n 1 rfl rfl dX10_ties_84 ?_
          refine rr_bipush 34 rfl dX10_ties_85 ?_
          refine rr_dup2 rfl rfl dX10_ties_87 ?_
          refine rr_iaload dX10_ties_88 lo_497 sh_497 (jj_inL rfl) ?_
          rw [show (jj_rs h3 [(497, (upd (upd (upd (h 497) ((((8 : Int32) + b) : Int32).toNatClampNeg) ((1 : Int32) + tw)) ((((24 : Int32) + b) : Int32).toNatClampNeg) a) ((((0 : Int32) + b) : Int32).toNatClampNeg) ((upd (upd (h 497) ((((8 : Int32) + b) : Int32).toNatClampNeg) ((1 : Int32) + tw)) ((((24 : Int32) + b) : Int32).toNatClampNeg) a) (((0 : Int32) + a) : Int32).toNatClampNeg)))]) 497 = (upd (upd (upd (h 497) ((((8 : Int32) + b) : Int32).toNatClampNeg) ((1 : Int32) + tw)) ((((24 : Int32) + b) : Int32).toNatClampNeg) a) ((((0 : Int32) + b) : Int32).toNatClampNeg) ((upd (upd (h 497) ((((8 : Int32) + b) : Int32).toNatClampNeg) ((1 : Int32) + tw)) ((((24 : Int32) + b) : Int32).toNatClampNeg) a) (((0 : Int32) + a) : Int32).toNatClampNeg)) from rfl]
          rw [show (upd (upd (upd (h 497) ((((8 : Int32) + b) : Int32).toNatClampNeg) ((1 : Int32) + tw)) ((((24 : Int32) + b) : Int32).toNatClampNeg) a) ((((0 : Int32) + b) : Int32).toNatClampNeg) ((upd (upd (h 497) ((((8 : Int32) + b) : Int32).toNatClampNeg) ((1 : Int32) + tw)) ((((24 : Int32) + b) : Int32).toNatClampNeg) a) (((0 : Int32) + a) : Int32).toNatClampNeg)) (34 : Int32).toNatClampNeg = (upd (upd (upd (h 497) ((((8 : Int32) + b) : Int32).toNatClampNeg) ((1 : Int32) + tw)) ((((24 : Int32) + b) : Int32).toNatClampNeg) a) ((((0 : Int32) + b) : Int32).toNatClampNeg) ((upd (upd (h 497) ((((8 : Int32) + b) : Int32).toNatClampNeg) ((1 : Int32) + tw)) ((((24 : Int32) + b) : Int32).toNatClampNeg) a) (((0 : Int32) + a) : Int32).toNatClampNeg)) 34 from rfl]
          refine rr_iconst 1 rfl dX10_ties_89 ?_
          refine rr_iadd dX10_ties_90 ?_
          refine rr_iastore dX10_ties_91 lo_497 sh_497 (jj_inL rfl) ?_
          rw [show (34 : Int32).toNatClampNeg = 34 from rfl]
          rw [jj_rs_set (B := h3) (L := [(497, (upd (upd (upd (h 497) ((((8 : Int32) + b) : Int32).toNatClampNeg) ((1 : Int32) + tw)) ((((24 : Int32) + b) : Int32).toNatClampNeg) a) ((((0 : Int32) + b) : Int32).toNatClampNeg) ((upd (upd (h 497) ((((8 : Int32) + b) : Int32).toNatClampNeg) ((1 : Int32) + tw)) ((((24 : Int32) + b) : Int32).toNatClampNeg) a) (((0 : Int32) + a) : Int32).toNatClampNeg)))]) (L2 := [(497, (upd (upd (upd (upd (h 497) ((((8 : Int32) + b) : Int32).toNatClampNeg) ((1 : Int32) + tw)) ((((24 : Int32) + b) : Int32).toNatClampNeg) a) ((((0 : Int32) + b) : Int32).toNatClampNeg) ((upd (upd (h 497) ((((8 : Int32) + b) : Int32).toNatClampNeg) ((1 : Int32) + tw)) ((((24 : Int32) + b) : Int32).toNatClampNeg) a) (((0 : Int32) + a) : Int32).toNatClampNeg)) (34) (((upd (upd (upd (h 497) ((((8 : Int32) + b) : Int32).toNatClampNeg) ((1 : Int32) + tw)) ((((24 : Int32) + b) : Int32).toNatClampNeg) a) ((((0 : Int32) + b) : Int32).toNatClampNeg) ((upd (upd (h 497) ((((8 : Int32) + b) : Int32).toNatClampNeg) ((1 : Int32) + tw)) ((((24 : Int32) + b) : Int32).toNatClampNeg) a) (((0 : Int32) + a) : Int32).toNatClampNeg)) 34) + 1)))]) (r := (upd (upd (upd (h 497) ((((8 : Int32) + b) : Int32).toNatClampNeg) ((1 : Int32) + tw)) ((((24 : Int32) + b) : Int32).toNatClampNeg) a) ((((0 : Int32) + b) : Int32).toNatClampNeg) ((upd (upd (h 497) ((((8 : Int32) + b) : Int32).toNatClampNeg) ((1 : Int32) + tw)) ((((24 : Int32) + b) : Int32).toNatClampNeg) a) (((0 : Int32) + a) : Int32).toNatClampNeg))) rfl rfl]
          refine rr_iconst 1 rfl dX10_ties_92 ?_
          refine rr_nreturn dX10_ties_93 rfl (by first | rfl | assumption) ?_
          simpa only [vX10_ties_n, rX10_ties_n_497, if_neg c1, if_neg c2, if_pos c6, if_neg c7] using kq h3 e5
        · skip
          refine rr_aload_n 1 rfl rfl dX10_ties_71 ?_
          refine rr_bipush 33 rfl dX10_ties_72 ?_
          refine rr_iaload dX10_ties_74 lo_497 sh_497 (jj_inL rfl) ?_
          rw [show (jj_rs h3 [(497, (upd (upd (h 497) ((((8 : Int32) + b) : Int32).toNatClampNeg) ((1 : Int32) + tw)) ((((24 : Int32) + b) : Int32).toNatClampNeg) a))]) 497 = (upd (upd (h 497) ((((8 : Int32) + b) : Int32).toNatClampNeg) ((1 : Int32) + tw)) ((((24 : Int32) + b) : Int32).toNatClampNeg) a) from rfl]
          rw [show (upd (upd (h 497) ((((8 : Int32) + b) : Int32).toNatClampNeg) ((1 : Int32) + tw)) ((((24 : Int32) + b) : Int32).toNatClampNeg) a) (33 : Int32).toNatClampNeg = (upd (upd (h 497) ((((8 : Int32) + b) : Int32).toNatClampNeg) ((1 : Int32) + tw)) ((((24 : Int32) + b) : Int32).toNatClampNeg) a) 33 from rfl]
          refine rr_goto dX10_ties_75 ?_
          refine rr_iastore dX10_ties_83 lo_497 sh_497 (jj_rowin (n := 8) (o := 0) (by first | assumption | exact jj_pM hn (by assumption) | exact jj_pM hn (jj_two (by assumption)).1 | exact jj_pM hn (jj_two (by assumption)).2 | decide | omega) (by decide) (by decide)) ?_
          rw [jj_rs_set (B := h3) (L := [(497, (upd (upd (h 497) ((((8 : Int32) + b) : Int32).toNatClampNeg) ((1 : Int32) + tw)) ((((24 : Int32) + b) : Int32).toNatClampNeg) a))]) (L2 := [(497, (upd (upd (upd (h 497) ((((8 : Int32) + b) : Int32).toNatClampNeg) ((1 : Int32) + tw)) ((((24 : Int32) + b) : Int32).toNatClampNeg) a) ((((0 : Int32) + b) : Int32).toNatClampNeg) ((upd (upd (h 497) ((((8 : Int32) + b) : Int32).toNatClampNeg) ((1 : Int32) + tw)) ((((24 : Int32) + b) : Int32).toNatClampNeg) a) 33)))]) (r := (upd (upd (h 497) ((((8 : Int32) + b) : Int32).toNatClampNeg) ((1 : Int32) + tw)) ((((24 : Int32) + b) : Int32).toNatClampNeg) a)) rfl rfl]
          refine rr_aload_n 1 rfl rfl dX10_ties_84 ?_
          refine rr_bipush 34 rfl dX10_ties_85 ?_
          refine rr_dup2 rfl rfl dX10_ties_87 ?_
          refine rr_iaload dX10_ties_88 lo_497 sh_497 (jj_inL rfl) ?_
          rw [show (jj_rs h3 [(497, (upd (upd (upd (h 497) ((((8 : Int32) + b) : Int32).toNatClampNeg) ((1 : Int32) + tw)) ((((24 : Int32) + b) : Int32).toNatClampNeg) a) ((((0 : Int32) + b) : Int32).toNatClampNeg) ((upd (upd (h 497) ((((8 : Int32) + b) : Int32).toNatClampNeg) ((1 : Int32) + tw)) ((((24 : Int32) + b) : Int32).toNatClampNeg) a) 33)))]) 497 = (upd (upd (upd (h 497) ((((8 : Int32) + b) : Int32).toNatClampNeg) ((1 : Int32) + tw)) ((((24 : Int32) + b) : Int32).toNatClampNeg) a) ((((0 : Int32) + b) : Int32).toNatClampNeg) ((upd (upd (h 497) ((((8 : Int32) + b) : Int32).toNatClampNeg) ((1 : Int32) + tw)) ((((24 : Int32) + b) : Int32).toNatClampNeg) a) 33)) from rfl]
          rw [show (upd (upd (upd (h 497) ((((8 : Int32) + b) : Int32).toNatClampNeg) ((1 : Int32) + tw)) ((((24 : Int32) + b) : Int32).toNatClampNeg) a) ((((0 : Int32) + b) : Int32).toNatClampNeg) ((upd (upd (h 497) ((((8 : Int32) + b) : Int32).toNatClampNeg) ((1 : Int32) + tw)) ((((24 : Int32) + b) : Int32).toNatClampNeg) a) 33)) (34 : Int32).toNatClampNeg = (upd (upd (upd (h 497) ((((8 : Int32) + b) : Int32).toNatClampNeg) ((1 : Int32) + tw)) ((((24 : Int32) + b) : Int32).toNatClampNeg) a) ((((0 : Int32) + b) : Int32).toNatClampNeg) ((upd (upd (h 497) ((((8 : Int32) + b) : Int32).toNatClampNeg) ((1 : Int32) + tw)) ((((24 : Int32) + b) : Int32).toNatClampNeg) a) 33)) 34 from rfl]
          refine rr_iconst 1 rfl dX10_ties_89 ?_
          refine rr_iadd dX10_ties_90 ?_
          refine rr_iastore dX10_ties_91 lo_497 sh_497 (jj_inL rfl) ?_
          rw [show (34 : Int32).toNatClampNeg = 34 from rfl]
          rw [jj_rs_set (B := h3) (L := [(497, (upd (upd (upd (h 497) ((((8 : Int32) + b) : Int32).toNatClampNeg) ((1 : Int32) + tw)) ((((24 : Int32) + b) : Int32).toNatClampNeg) a) ((((0 : Int32) + b) : Int32).toNatClampNeg) ((upd (upd (h 497) ((((8 : Int32) + b) : Int32).toNatClampNeg) ((1 : Int32) + tw)) ((((24 : Int32) + b) : Int32).toNatClampNeg) a) 33)))]) (L2 := [(497, (upd (upd (upd (upd (h 497) ((((8 : Int32) + b) : Int32).toNatClampNeg) ((1 : Int32) + tw)) ((((24 : Int32) + b) : Int32).toNatClampNeg) a) ((((0 : Int32) + b) : Int32).toNatClampNeg) ((upd (upd (h 497) ((((8 : Int32) + b) : Int32).toNatClampNeg) ((1 : Int32) + tw)) ((((24 : Int32) + b) : Int32).toNatClampNeg) a) 33)) (34) (((upd (upd (upd (h 497) ((((8 : Int32) + b) : Int32).toNatClampNeg) ((1 : Int32) + tw)) ((((24 : Int32) + b) : Int32).toNatClampNeg) a) ((((0 : Int32) + b) : Int32).toNatClampNeg) ((upd (upd (h 497) ((((8 : Int32) + b) : Int32).toNatClampNeg) ((1 : Int32) + tw)) ((((24 : Int32) + b) : Int32).toNatClampNeg) a) 33)) 34) + 1)))]) (r := (upd (upd (upd (h 497) ((((8 : Int32) + b) : Int32).toNatClampNeg) ((1 : Int32) + tw)) ((((24 : Int32) + b) : Int32).toNatClampNeg) a) ((((0 : Int32) + b) : Int32).toNatClampNeg) ((upd (upd (h 497) ((((8 : Int32) + b) : Int32).toNatClampNeg) ((1 : Int32) + tw)) ((((24 : Int32) + b) : Int32).toNatClampNeg) a) 33))) rfl rfl]
          refine rr_iconst 1 rfl dX10_ties_92 ?_
          refine rr_nreturn dX10_ties_93 rfl (by first | rfl | assumption) ?_
          simpa only [vX10_ties_n, rX10_ties_n_497, if_neg c1, if_neg c2, if_pos c6, if_pos c7] using kq h3 e5
      · skip
        refine rr_aload_n 1 rfl rfl dX10_ties_33 ?_
        refine rr_bipush 16 rfl dX10_ties_34 ?_
        refine rr_iload_n 3 rfl rfl dX10_ties_36 ?_
        refine rr_iadd dX10_ties_37 ?_
        refine rr_dup2 rfl rfl dX10_ties_38 ?_
        refine rr_iaload dX10_ties_39 lo_497 sh_497 (jj_rowin (n := 8) (o := 16) (by first | assumption | exact jj_pM hn (by assumption) | exact jj_pM hn (jj_two (by assumption)).1 | exact jj_pM hn (jj_two (by assumption)).2 | decide | omega) (by decide) (by decide)) ?_
        rw [e5 497 (by decide)]
        refine rr_iconst 1 rfl dX10_ties_40 ?_
        refine rr_iadd dX10_ties_41 ?_
        refine rr_iastore dX10_ties_42 lo_497 sh_497 (jj_rowin (n := 8) (o := 16) (by first | assumption | exact jj_pM hn (by assumption) | exact jj_pM hn (jj_two (by assumption)).1 | exact jj_pM hn (jj_two (by assumption)).2 | decide | omega) (by decide) (by decide)) ?_
        rw [jj_rs_set0 (B := h3) (o := 497) (r := (h 497)) (e5 497 (by decide))]
        refine rr_iconst 1 rfl dX10_ties_43 ?_
        refine rr_nreturn dX10_ties_44 rfl (by first | rfl | assumption) ?_
        simpa only [vX10_ties_n, rX10_ties_n_497, if_neg c1, if_neg c2, if_neg c6] using kq h3 e5
    · skip
      refine rr_iconst 0 rfl dX10_ties_17 ?_
      refine rr_nreturn dX10_ties_18 rfl (by first | rfl | assumption) ?_
      refine jj_Qh (jj_addr (B := h) (o := 497) (r := (h 497)) rfl) ?_
      simpa only [vX10_ties_n, rX10_ties_n_497, if_neg c1, if_pos c2] using kq h jj_eq.rf
def vX10_holdOf_t (r8 : Nat → Int32) (r73 : Nat → Int32) (r498 : Nat → Int32) (g64 : Nat → Nat → Int32) (m : Nat) (a : Int32) (b : Int32) (tw : Int32) : Int32 := (if a = b then (hd_val r8 m (hd_vals (g64 (a : Int32).toNatClampNeg 0) (g64 (b : Int32).toNatClampNeg 1) (vX10_behind_t r498 b) tw (((r73 (a : Int32).toNatClampNeg) >>> (b &&& 31)) &&& 1) 1 (r498 (((16 : Int32) + b) : Int32).toNatClampNeg) (r498 33))) else (hd_val r8 m (hd_vals (g64 (a : Int32).toNatClampNeg 0) (g64 (b : Int32).toNatClampNeg 1) (vX10_behind_t r498 b) tw (((r73 (a : Int32).toNatClampNeg) >>> (b &&& 31)) &&& 1) 0 (r498 (((16 : Int32) + b) : Int32).toNatClampNeg) (r498 33))))
set_option maxHeartbeats 1000000 in
theorem sp_X10_holdOf_t {d kc ks : Nat} {h : Nat → Nat → Int32} {g : Nat → Nat → Int64} {Q : jj_Rs → jj_St → Prop} {m : Nat} {a : Int32} {b : Int32} {tw : Int32} (ha : vp_in a 8) (hb : vp_in b 8) (hM : h 49 17 = nI m) (hm2 : m ≤ 150) (hw : lawok (h 8) (jj_gd h 75 160) m) (kq : ∀ h9, jj_eq [414, 415] h h9 → Q (.inl (some (.int (vX10_holdOf_t (h 8) (h 73) (h 498) (jj_gd h 64 8) m a b tw)))) (jj_S, 782, h9, g)) : jj_R mX10_holdOf (d + 4) kc ks (jj_S, 782, h, g) 0 [(0, .ref 49), (1, .ref 498), (2, .int a), (3, .int b), (4, .int tw)] [] Q := by
  refine rr_aload_n 0 rfl rfl dX10_holdOf_0 ?_
  refine rr_aload_n 0 rfl rfl dX10_holdOf_1 ?_
  refine rr_getR dX10_holdOf_2 fX10_31 lo_49 sh_49 rfl ?_
  refine rr_iload_n 2 rfl rfl dX10_holdOf_5 ?_
  refine rr_aaload dX10_holdOf_6 lo_63 sh_63 (by first | assumption | exact jj_pM hn (by assumption) | exact jj_pM hn (jj_two (by assumption)).1 | exact jj_pM hn (jj_two (by assumption)).2 | decide | omega) ?_
  refine rr_iconst 0 rfl dX10_holdOf_7 ?_
  refine rr_iaload dX10_holdOf_8 (lr_63 (jj_ink (i := a) (by first | assumption | exact jj_pM hn (by assumption) | exact jj_pM hn (jj_two (by assumption)).1 | exact jj_pM hn (jj_two (by assumption)).2 | decide | omega))) (sr_63 (jj_ink (i := a) (by first | assumption | exact jj_pM hn (by assumption) | exact jj_pM hn (jj_two (by assumption)).1 | exact jj_pM hn (jj_two (by assumption)).2 | decide | omega))) (jj_inL rfl) ?_
  rw [show h (64 + (a : Int32).toNatClampNeg) = jj_gd h 64 8 (a : Int32).toNatClampNeg from (jj_gd_at (jj_ink (i := a) (by first | assumption | exact jj_pM hn (by assumption) | exact jj_pM hn (jj_two (by assumption)).1 | exact jj_pM hn (jj_two (by assumption)).2 | decide | omega)))]
  rw [show jj_gd h 64 8 (a : Int32).toNatClampNeg (0 : Int32).toNatClampNeg = jj_gd h 64 8 (a : Int32).toNatClampNeg 0 from rfl]
  refine rr_aload_n 0 rfl rfl dX10_holdOf_9 ?_
  refine rr_getR dX10_holdOf_10 fX10_31 lo_49 sh_49 rfl ?_
  refine rr_iload_n 3 rfl rfl dX10_holdOf_13 ?_
  refine rr_aaload dX10_holdOf_14 lo_63 sh_63 (by first | assumption | exact jj_pM hn (by assumption) | exact jj_pM hn (jj_two (by assumption)).1 | exact jj_pM hn (jj_two (by assumption)).2 | decide | omega) ?_
  refine rr_iconst 1 rfl dX10_holdOf_15 ?_
  refine rr_iaload dX10_holdOf_16 (lr_63 (jj_ink (i := b) (by first | assumption | exact jj_pM hn (by assumption) | exact jj_pM hn (jj_two (by assumption)).1 | exact jj_pM hn (jj_two (by assumption)).2 | decide | omega))) (sr_63 (jj_ink (i := b) (by first | assumption | exact jj_pM hn (by assumption) | exact jj_pM hn (jj_two (by assumption)).1 | exact jj_pM hn (jj_two (by assumption)).2 | decide | omega))) (jj_inL rfl) ?_
  rw [show h (64 + (b : Int32).toNatClampNeg) = jj_gd h 64 8 (b : Int32).toNatClampNeg from (jj_gd_at (jj_ink (i := b) (by first | assumption | exact jj_pM hn (by assumption) | exact jj_pM hn (jj_two (by assumption)).1 | exact jj_pM hn (jj_two (by assumption)).2 | decide | omega)))]
  rw [show jj_gd h 64 8 (b : Int32).toNatClampNeg (1 : Int32).toNatClampNeg = jj_gd h 64 8 (b : Int32).toNatClampNeg 1 from rfl]
  refine rr_aload_n 1 rfl rfl dX10_holdOf_17 ?_
  refine rr_iload_n 3 rfl rfl dX10_holdOf_18 ?_
  refine rr_callS (As := [.ref 498, .int b]) (rest := [.int ((jj_gd h 64 8) (b : Int32).toNatClampNeg 1), .int ((jj_gd h 64 8) (a : Int32).toNatClampNeg 0), .ref 49]) (kc2 := 0) (ks2 := 0) dX10_holdOf_19 okX10_behind lX10_260 rfl (Nat.le_of_ble_eq_true rfl) (Nat.le_of_ble_eq_true rfl) rfl (by omega) (by simp [jj_rk]) (by simp [jj_rk]) ?_
  refine sp_X10_behind_t (by first | assumption | exact jj_pM hn (by assumption) | exact jj_pM hn (jj_two (by assumption)).1 | exact jj_pM hn (jj_two (by assumption)).2 | decide | omega) ?_
  show jj_R _ _ kc ks (jj_S, 782, h, g) 22 [(0, .ref 49), (1, .ref 498), (2, .int a), (3, .int b), (4, .int tw)] [.int (vX10_behind_t (h 498) b), .int ((jj_gd h 64 8) (b : Int32).toNatClampNeg 1), .int ((jj_gd h 64 8) (a : Int32).toNatClampNeg 0), .ref 49] Q
  refine rr_iload 4 rfl dX10_holdOf_22 ?_
  refine rr_aload_n 0 rfl rfl dX10_holdOf_24 ?_
  refine rr_getR dX10_holdOf_25 fX10_37 lo_49 sh_49 rfl ?_
  refine rr_iload_n 2 rfl rfl dX10_holdOf_28 ?_
  refine rr_iaload dX10_holdOf_29 lo_73 sh_73 (by first | assumption | exact jj_pM hn (by assumption) | exact jj_pM hn (jj_two (by assumption)).1 | exact jj_pM hn (jj_two (by assumption)).2 | decide | omega) ?_
  refine rr_iload_n 3 rfl rfl dX10_holdOf_30 ?_
  refine rr_ishr dX10_holdOf_31 ?_
  refine rr_iconst 1 rfl dX10_holdOf_32 ?_
  refine rr_iand dX10_holdOf_33 ?_
  refine rr_iload_n 2 rfl rfl dX10_holdOf_34 ?_
  refine rr_iload_n 3 rfl rfl dX10_holdOf_35 ?_
  refine rr_icmp_ne dX10_holdOf_36 (fun c1 => ?_) (fun c1 => ?_)
  · skip
    refine rr_iconst 0 rfl dX10_holdOf_43 ?_
    refine rr_aload_n 1 rfl rfl dX10_holdOf_44 ?_
    refine rr_bipush 16 rfl dX10_holdOf_45 ?_
    refine rr_iload_n 3 rfl rfl dX10_holdOf_47 ?_
    refine rr_iadd dX10_holdOf_48 ?_
    refine rr_iaload dX10_holdOf_49 lo_498 sh_498 (jj_rowin (n := 8) (o := 16) (by first | assumption | exact jj_pM hn (by assumption) | exact jj_pM hn (jj_two (by assumption)).1 | exact jj_pM hn (jj_two (by assumption)).2 | decide | omega) (by decide) (by decide)) ?_
    refine rr_aload_n 1 rfl rfl dX10_holdOf_50 ?_
    refine rr_bipush 33 rfl dX10_holdOf_51 ?_
    refine rr_iaload dX10_holdOf_53 lo_498 sh_498 (jj_inL rfl) ?_
    rw [show (h 498) (33 : Int32).toNatClampNeg = (h 498) 33 from rfl]
    refine rr_callV (As := [.int ((jj_gd h 64 8) (a : Int32).toNatClampNeg 0), .int ((jj_gd h 64 8) (b : Int32).toNatClampNeg 1), .int (vX10_behind_t (h 498) b), .int tw, .int ((((h 73) (a : Int32).toNatClampNeg) >>> (b &&& 31)) &&& 1), .int 0, .int ((h 498) (((16 : Int32) + b) : Int32).toNatClampNeg), .int ((h 498) 33)]) (rest := []) (kc2 := 0) (ks2 := 0) dX10_holdOf_54 okX10_holdBy lX10_264 lo_49 sh_49 rfl rfl (Nat.le_of_ble_eq_true rfl) (Nat.le_of_ble_eq_true rfl) rfl (by omega) (by simp [jj_rk]) (by simp [jj_rk]) ?_
    refine sp_X10_holdByL (by first | exact hM | exact (congrFun (jj_eq.rf 49 (by decide)) 17).trans hM | assumption) hm2 (lw_to rfl (show h 8 = h 8 from rfl) hw) (fun h2 e3 => ?_)
    have e4 := jj_lo0 (X := [414, 415]) (jj_eq.rf (X := [414, 415])) e3 (by decide)
    show jj_R _ _ kc ks (jj_S, 782, h2, g) 57 [(0, .ref 49), (1, .ref 498), (2, .int a), (3, .int b), (4, .int tw)] [.int (hd_val (h 8) m (hd_vals ((jj_gd h 64 8) (a : Int32).toNatClampNeg 0) ((jj_gd h 64 8) (b : Int32).toNatClampNeg 1) (vX10_behind_t (h 498) b) tw ((((h 73) (a : Int32).toNatClampNeg) >>> (b &&& 31)) &&& 1) 0 ((h 498) (((16 : Int32) + b) : Int32).toNatClampNeg) ((h 498) 33)))] Q
    refine rr_ireturn dX10_holdOf_57 rfl ?_
    simpa only [vX10_holdOf_t, if_neg c1] using kq h2 e4
  · skip
    refine rr_iconst 1 rfl dX10_holdOf_39 ?_
    refine rr_goto dX10_holdOf_40 ?_
    refine rr_aload_n 1 rfl rfl dX10_holdOf_44 ?_
    refine rr_bipush 16 rfl dX10_holdOf_45 ?_
    refine rr_iload_n 3 rfl rfl dX10_holdOf_47 ?_
    refine rr_iadd dX10_holdOf_48 ?_
    refine rr_iaload dX10_holdOf_49 lo_498 sh_498 (jj_rowin (n := 8) (o := 16) (by first | assumption | exact jj_pM hn (by assumption) | exact jj_pM hn (jj_two (by assumption)).1 | exact jj_pM hn (jj_two (by assumption)).2 | decide | omega) (by decide) (by decide)) ?_
    refine rr_aload_n 1 rfl rfl dX10_holdOf_50 ?_
    refine rr_bipush 33 rfl dX10_holdOf_51 ?_
    refine rr_iaload dX10_holdOf_53 lo_498 sh_498 (jj_inL rfl) ?_
    rw [show (h 498) (33 : Int32).toNatClampNeg = (h 498) 33 from rfl]
    refine rr_callV (As := [.int ((jj_gd h 64 8) (a : Int32).toNatClampNeg 0), .int ((jj_gd h 64 8) (b : Int32).toNatClampNeg 1), .int (vX10_behind_t (h 498) b), .int tw, .int ((((h 73) (a : Int32).toNatClampNeg) >>> (b &&& 31)) &&& 1), .int 1, .int ((h 498) (((16 : Int32) + b) : Int32).toNatClampNeg), .int ((h 498) 33)]) (rest := []) (kc2 := 0) (ks2 := 0) dX10_holdOf_54 okX10_holdBy lX10_264 lo_49 sh_49 rfl rfl (Nat.le_of_ble_eq_true rfl) (Nat.le_of_ble_eq_true rfl) rfl (by omega) (by simp [jj_rk]) (by simp [jj_rk]) ?_
    refine sp_X10_holdByL (by first | exact hM | exact (congrFun (jj_eq.rf 49 (by decide)) 17).trans hM | assumption) hm2 (lw_to rfl (show h 8 = h 8 from rfl) hw) (fun h5 e6 => ?_)
    have e7 := jj_lo0 (X := [414, 415]) (jj_eq.rf (X := [414, 415])) e6 (by decide)
    show jj_R _ _ kc ks (jj_S, 782, h5, g) 57 [(0, .ref 49), (1, .ref 498), (2, .int a), (3, .int b), (4, .int tw)] [.int (hd_val (h 8) m (hd_vals ((jj_gd h 64 8) (a : Int32).toNatClampNeg 0) ((jj_gd h 64 8) (b : Int32).toNatClampNeg 1) (vX10_behind_t (h 498) b) tw ((((h 73) (a : Int32).toNatClampNeg) >>> (b &&& 31)) &&& 1) 1 ((h 498) (((16 : Int32) + b) : Int32).toNatClampNeg) ((h 498) 33)))] Q
    refine rr_ireturn dX10_holdOf_57 rfl ?_
    simpa only [vX10_holdOf_t, if_pos c1] using kq h5 e7
def vX10_ties_t (r8 : Nat → Int32) (r73 : Nat → Int32) (r498 : Nat → Int32) (g64 : Nat → Nat → Int32) (m : Nat) (a : Int32) (b : Int32) (tw : Int32) : Int32 := (if (vX10_isLoose_t r498 b) = 0 then 0 else (if (vX10_isHand_t r498 a b) = 0 then 0 else 1))
def rX10_ties_t_498 (r8 : Nat → Int32) (r73 : Nat → Int32) (r498 : Nat → Int32) (g64 : Nat → Nat → Int32) (m : Nat) (a : Int32) (b : Int32) (tw : Int32) : Nat → Int32 := (if (vX10_isLoose_t r498 b) = 0 then r498 else (if (vX10_isHand_t r498 a b) = 0 then r498 else (if 10 ≤ (vX10_holdOf_t r8 r73 r498 g64 m a b tw) then (if a = b then (upd (upd (upd (upd r498 ((((8 : Int32) + b) : Int32).toNatClampNeg) ((1 : Int32) + tw)) ((((24 : Int32) + b) : Int32).toNatClampNeg) a) ((((0 : Int32) + b) : Int32).toNatClampNeg) ((upd (upd r498 ((((8 : Int32) + b) : Int32).toNatClampNeg) ((1 : Int32) + tw)) ((((24 : Int32) + b) : Int32).toNatClampNeg) a) 33)) (34) (((upd (upd (upd r498 ((((8 : Int32) + b) : Int32).toNatClampNeg) ((1 : Int32) + tw)) ((((24 : Int32) + b) : Int32).toNatClampNeg) a) ((((0 : Int32) + b) : Int32).toNatClampNeg) ((upd (upd r498 ((((8 : Int32) + b) : Int32).toNatClampNeg) ((1 : Int32) + tw)) ((((24 : Int32) + b) : Int32).toNatClampNeg) a) 33)) 34) + 1)) else (upd (upd (upd (upd r498 ((((8 : Int32) + b) : Int32).toNatClampNeg) ((1 : Int32) + tw)) ((((24 : Int32) + b) : Int32).toNatClampNeg) a) ((((0 : Int32) + b) : Int32).toNatClampNeg) ((upd (upd r498 ((((8 : Int32) + b) : Int32).toNatClampNeg) ((1 : Int32) + tw)) ((((24 : Int32) + b) : Int32).toNatClampNeg) a) (((0 : Int32) + a) : Int32).toNatClampNeg)) (34) (((upd (upd (upd r498 ((((8 : Int32) + b) : Int32).toNatClampNeg) ((1 : Int32) + tw)) ((((24 : Int32) + b) : Int32).toNatClampNeg) a) ((((0 : Int32) + b) : Int32).toNatClampNeg) ((upd (upd r498 ((((8 : Int32) + b) : Int32).toNatClampNeg) ((1 : Int32) + tw)) ((((24 : Int32) + b) : Int32).toNatClampNeg) a) (((0 : Int32) + a) : Int32).toNatClampNeg)) 34) + 1))) else (upd r498 ((((16 : Int32) + b) : Int32).toNatClampNeg) ((r498 (((16 : Int32) + b) : Int32).toNatClampNeg) + 1)))))
set_option maxHeartbeats 1000000 in
theorem sp_X10_ties_t {d kc ks : Nat} {h : Nat → Nat → Int32} {g : Nat → Nat → Int64} {Q : jj_Rs → jj_St → Prop} {m : Nat} {a : Int32} {b : Int32} {tw : Int32} (ha : vp_in a 8) (hb : vp_in b 8) (hM : h 49 17 = nI m) (hm2 : m ≤ 150) (hw : lawok (h 8) (jj_gd h 75 160) m) (kq : ∀ h9, jj_eq [414, 415] h h9 → Q (.inl (some (.int (vX10_ties_t (h 8) (h 73) (h 498) (jj_gd h 64 8) m a b tw)))) (jj_S, 782, (jj_rs h9 [(498, (rX10_ties_t_498 (h 8) (h 73) (h 498) (jj_gd h 64 8) m a b tw))]), g)) : jj_R mX10_ties (d + 5) kc ks (jj_S, 782, h, g) 0 [(0, .ref 49), (1, .ref 498), (2, .int a), (3, .int b), (4, .int tw)] [] Q := by
  refine rr_aload_n 1 rfl rfl dX10_ties_0 ?_
  refine rr_iload_n 3 rfl rfl dX10_ties_1 ?_
  refine rr_callS (As := [.ref 498, .int b]) (rest := []) (kc2 := 0) (ks2 := 0) dX10_ties_2 okX10_isLoose lX10_268 rfl (Nat.le_of_ble_eq_true rfl) (Nat.le_of_ble_eq_true rfl) rfl (by omega) (by simp [jj_rk]) (by simp [jj_rk]) ?_
  refine sp_X10_isLoose_t (by first | assumption | exact jj_pM hn (by assumption) | exact jj_pM hn (jj_two (by assumption)).1 | exact jj_pM hn (jj_two (by assumption)).2 | decide | omega) ?_
  show jj_R _ _ kc ks (jj_S, 782, h, g) 5 [(0, .ref 49), (1, .ref 498), (2, .int a), (3, .int b), (4, .int tw)] [.int (vX10_isLoose_t (h 498) b)] Q
  refine rr_if_eq dX10_ties_5 (fun c1 => ?_) (fun c1 => ?_)
  · skip
    refine rr_iconst 0 rfl dX10_ties_17 ?_
    refine rr_nreturn dX10_ties_18 rfl (by first | rfl | assumption) ?_
    refine jj_Qh (jj_addr (B := h) (o := 498) (r := (h 498)) rfl) ?_
    simpa only [vX10_ties_t, rX10_ties_t_498, if_pos c1] using kq h jj_eq.rf
  · skip
    refine rr_aload_n 1 rfl rfl dX10_ties_8 ?_
    refine rr_iload_n 2 rfl rfl dX10_ties_9 ?_
    refine rr_iload_n 3 rfl rfl dX10_ties_10 ?_
    refine rr_callS (As := [.ref 498, .int a, .int b]) (rest := []) (kc2 := 0) (ks2 := 0) dX10_ties_11 okX10_isHand lX10_272 rfl (Nat.le_of_ble_eq_true rfl) (Nat.le_of_ble_eq_true rfl) rfl (by omega) (by simp [jj_rk]) (by simp [jj_rk]) ?_
    refine sp_X10_isHand_t (by first | assumption | exact jj_pM hn (by assumption) | exact jj_pM hn (jj_two (by assumption)).1 | exact jj_pM hn (jj_two (by assumption)).2 | decide | omega) (by first | assumption | exact jj_pM hn (by assumption) | exact jj_pM hn (jj_two (by assumption)).1 | exact jj_pM hn (jj_two (by assumption)).2 | decide | omega) ?_
    show jj_R _ _ kc ks (jj_S, 782, h, g) 14 [(0, .ref 49), (1, .ref 498), (2, .int a), (3, .int b), (4, .int tw)] [.int (vX10_isHand_t (h 498) a b)] Q
    refine rr_if_ne dX10_ties_14 (fun c2 => ?_) (fun c2 => ?_)
    · skip
      refine rr_aload_n 0 rfl rfl dX10_ties_19 ?_
      refine rr_aload_n 1 rfl rfl dX10_ties_20 ?_
      refine rr_iload_n 2 rfl rfl dX10_ties_21 ?_
      refine rr_iload_n 3 rfl rfl dX10_ties_22 ?_
      refine rr_iload 4 rfl dX10_ties_23 ?_
      refine rr_callV (As := [.ref 498, .int a, .int b, .int tw]) (rest := []) (kc2 := 0) (ks2 := 0) dX10_ties_25 okX10_holdOf lX10_276 lo_49 sh_49 rfl rfl (Nat.le_of_ble_eq_true rfl) (Nat.le_of_ble_eq_true rfl) rfl (by omega) (by simp [jj_rk]) (by simp [jj_rk]) ?_
      refine sp_X10_holdOf_t (by first | assumption | exact jj_pM hn (by assumption) | exact jj_pM hn (jj_two (by assumption)).1 | exact jj_pM hn (jj_two (by assumption)).2 | decide | omega) (by first | assumption | exact jj_pM hn (by assumption) | exact jj_pM hn (jj_two (by assumption)).1 | exact jj_pM hn (jj_two (by assumption)).2 | decide | omega) (by first | exact hM | exact (congrFun (jj_eq.rf 49 (by decide)) 17).trans hM | assumption) hm2 (lw_to rfl (show h 8 = h 8 from rfl) hw) (fun h3 e4 => ?_)
      have e5 := jj_lo0 (X := [414, 415]) (jj_eq.rf (X := [414, 415])) e4 (by decide)
      show jj_R _ _ kc ks (jj_S, 782, h3, g) 28 [(0, .ref 49), (1, .ref 498), (2, .int a), (3, .int b), (4, .int tw)] [.int (vX10_holdOf_t (h 8) (h 73) (h 498) (jj_gd h 64 8) m a b tw)] Q
      refine rr_bipush 10 rfl dX10_ties_28 ?_
      refine rr_icmp_ge dX10_ties_30 (fun c6 => ?_) (fun c6 => ?_)
      · skip
        refine rr_aload_n 1 rfl rfl dX10_ties_45 ?_
        refine rr_bipush 8 rfl dX10_ties_46 ?_
        refine rr_iload_n 3 rfl rfl dX10_ties_48 ?_
        refine rr_iadd dX10_ties_49 ?_
        refine rr_iconst 1 rfl dX10_ties_50 ?_
        refine rr_iload 4 rfl dX10_ties_51 ?_
        refine rr_iadd dX10_ties_53 ?_
        refine rr_iastore dX10_ties_54 lo_498 sh_498 (jj_rowin (n := 8) (o := 8) (by first | assumption | exact jj_pM hn (by assumption) | exact jj_pM hn (jj_two (by assumption)).1 | exact jj_pM hn (jj_two (by assumption)).2 | decide | omega) (by decide) (by decide)) ?_
        rw [jj_rs_set0 (B := h3) (o := 498) (r := (h 498)) (e5 498 (by decide))]
        refine rr_aload_n 1 rfl rfl dX10_ties_55 ?_
        refine rr_bipush 24 rfl dX10_ties_56 ?_
        refine rr_iload_n 3 rfl rfl dX10_ties_58 ?_
        refine rr_iadd dX10_ties_59 ?_
        refine rr_iload_n 2 rfl rfl dX10_ties_60 ?_
        refine rr_iastore dX10_ties_61 lo_498 sh_498 (jj_rowin (n := 8) (o := 24) (by first | assumption | exact jj_pM hn (by assumption) | exact jj_pM hn (jj_two (by assumption)).1 | exact jj_pM hn (jj_two (by assumption)).2 | decide | omega) (by decide) (by decide)) ?_
        rw [jj_rs_set (B := h3) (L := [(498, (upd (h 498) ((((8 : Int32) + b) : Int32).toNatClampNeg) ((1 : Int32) + tw)))]) (L2 := [(498, (upd (upd (h 498) ((((8 : Int32) + b) : Int32).toNatClampNeg) ((1 : Int32) + tw)) ((((24 : Int32) + b) : Int32).toNatClampNeg) a))]) (r := (upd (h 498) ((((8 : Int32) + b) : Int32).toNatClampNeg) ((1 : Int32) + tw))) rfl rfl]
        refine rr_aload_n 1 rfl rfl dX10_ties_62 ?_
        refine rr_iconst 0 rfl dX10_ties_63 ?_
        refine rr_iload_n 3 rfl rfl dX10_ties_64 ?_
        refine rr_iadd dX10_ties_65 ?_
        refine rr_iload_n 2 rfl rfl dX10_ties_66 ?_
        refine rr_iload_n 3 rfl rfl dX10_ties_67 ?_
        refine rr_icmp_ne dX10_ties_68 (fun c7 => ?_) (fun c7 => ?_)
        · skip
          refine rr_aload_n 1 rfl rfl dX10_ties_78 ?_
          refine rr_iconst 0 rfl dX10_ties_79 ?_
          refine rr_iload_n 2 rfl rfl dX10_ties_80 ?_
          refine rr_iadd dX10_ties_81 ?_
          refine rr_iaload dX10_ties_82 lo_498 sh_498 (jj_rowin (n := 8) (o := 0) (by first | assumption | exact jj_pM hn (by assumption) | exact jj_pM hn (jj_two (by assumption)).1 | exact jj_pM hn (jj_two (by assumption)).2 | decide | omega) (by decide) (by decide)) ?_
          rw [show (jj_rs h3 [(498, (upd (upd (h 498) ((((8 : Int32) + b) : Int32).toNatClampNeg) ((1 : Int32) + tw)) ((((24 : Int32) + b) : Int32).toNatClampNeg) a))]) 498 = (upd (upd (h 498) ((((8 : Int32) + b) : Int32).toNatClampNeg) ((1 : Int32) + tw)) ((((24 : Int32) + b) : Int32).toNatClampNeg) a) from rfl]
          refine rr_iastore dX10_ties_83 lo_498 sh_498 (jj_rowin (n := 8) (o := 0) (by first | assumption | exact jj_pM hn (by assumption) | exact jj_pM hn (jj_two (by assumption)).1 | exact jj_pM hn (jj_two (by assumption)).2 | decide | omega) (by decide) (by decide)) ?_
          rw [jj_rs_set (B := h3) (L := [(498, (upd (upd (h 498) ((((8 : Int32) + b) : Int32).toNatClampNeg) ((1 : Int32) + tw)) ((((24 : Int32) + b) : Int32).toNatClampNeg) a))]) (L2 := [(498, (upd (upd (upd (h 498) ((((8 : Int32) + b) : Int32).toNatClampNeg) ((1 : Int32) + tw)) ((((24 : Int32) + b) : Int32).toNatClampNeg) a) ((((0 : Int32) + b) : Int32).toNatClampNeg) ((upd (upd (h 498) ((((8 : Int32) + b) : Int32).toNatClampNeg) ((1 : Int32) + tw)) ((((24 : Int32) + b) : Int32).toNatClampNeg) a) (((0 : Int32) + a) : Int32).toNatClampNeg)))]) (r := (upd (upd (h 498) ((((8 : Int32) + b) : Int32).toNatClampNeg) ((1 : Int32) + tw)) ((((24 : Int32) + b) : Int32).toNatClampNeg) a)) rfl rfl]
          refine rr_aload_n 1 rfl rfl dX10_ties_84 ?_
          refine rr_bipush 34 rfl dX10_ties_85 ?_
          refine rr_dup2 rfl rfl dX10_ties_87 ?_
          refine rr_iaload dX10_ties_88 lo_498 sh_498 (jj_inL rfl) ?_
          rw [show (jj_rs h3 [(498, (upd (upd (upd (h 498) ((((8 : Int32) + b) : Int32).toNatClampNeg) ((1 : Int32) + tw)) ((((24 : Int32) + b) : Int32).toNatClampNeg) a) ((((0 : Int32) + b) : Int32).toNatClampNeg) ((upd (upd (h 498) ((((8 : Int32) + b) : Int32).toNatClampNeg) ((1 : Int32) + tw)) ((((24 : Int32) + b) : Int32).toNatClampNeg) a) (((0 : Int32) + a) : Int32).toNatClampNeg)))]) 498 = (upd (upd (upd (h 498) ((((8 : Int32) + b) : Int32).toNatClampNeg) ((1 : Int32) + tw)) ((((24 : Int32) + b) : Int32).toNatClampNeg) a) ((((0 : Int32) + b) : Int32).toNatClampNeg) ((upd (upd (h 498) ((((8 : Int32) + b) : Int32).toNatClampNeg) ((1 : Int32) + tw)) ((((24 : Int32) + b) : Int32).toNatClampNeg) a) (((0 : Int32) + a) : Int32).toNatClampNeg)) from rfl]
          rw [show (upd (upd (upd (h 498) ((((8 : Int32) + b) : Int32).toNatClampNeg) ((1 : Int32) + tw)) ((((24 : Int32) + b) : Int32).toNatClampNeg) a) ((((0 : Int32) + b) : Int32).toNatClampNeg) ((upd (upd (h 498) ((((8 : Int32) + b) : Int32).toNatClampNeg) ((1 : Int32) + tw)) ((((24 : Int32) + b) : Int32).toNatClampNeg) a) (((0 : Int32) + a) : Int32).toNatClampNeg)) (34 : Int32).toNatClampNeg = (upd (upd (upd (h 498) ((((8 : Int32) + b) : Int32).toNatClampNeg) ((1 : Int32) + tw)) ((((24 : Int32) + b) : Int32).toNatClampNeg) a) ((((0 : Int32) + b) : Int32).toNatClampNeg) ((upd (upd (h 498) ((((8 : Int32) + b) : Int32).toNatClampNeg) ((1 : Int32) + tw)) ((((24 : Int32) + b) : Int32).toNatClampNeg) a) (((0 : Int32) + a) : Int32).toNatClampNeg)) 34 from rfl]
          refine rr_iconst 1 rfl dX10_ties_89 ?_
          refine rr_iadd dX10_ties_90 ?_
          refine rr_iastore dX10_ties_91 lo_498 sh_498 (jj_inL rfl) ?_
          rw [show (34 : Int32).toNatClampNeg = 34 from rfl]
          rw [jj_rs_set (B := h3) (L := [(498, (upd (upd (upd (h 498) ((((8 : Int32) + b) : Int32).toNatClampNeg) ((1 : Int32) + tw)) ((((24 : Int32) + b) : Int32).toNatClampNeg) a) ((((0 : Int32) + b) : Int32).toNatClampNeg) ((upd (upd (h 498) ((((8 : Int32) + b) : Int32).toNatClampNeg) ((1 : Int32) + tw)) ((((24 : Int32) + b) : Int32).toNatClampNeg) a) (((0 : Int32) + a) : Int32).toNatClampNeg)))]) (L2 := [(498, (upd (upd (upd (upd (h 498) ((((8 : Int32) + b) : Int32).toNatClampNeg) ((1 : Int32) + tw)) ((((24 : Int32) + b) : Int32).toNatClampNeg) a) ((((0 : Int32) + b) : Int32).toNatClampNeg) ((upd (upd (h 498) ((((8 : Int32) + b) : Int32).toNatClampNeg) ((1 : Int32) + tw)) ((((24 : Int32) + b) : Int32).toNatClampNeg) a) (((0 : Int32) + a) : Int32).toNatClampNeg)) (34) (((upd (upd (upd (h 498) ((((8 : Int32) + b) : Int32).toNatClampNeg) ((1 : Int32) + tw)) ((((24 : Int32) + b) : Int32).toNatClampNeg) a) ((((0 : Int32) + b) : Int32).toNatClampNeg) ((upd (upd (h 498) ((((8 : Int32) + b) : Int32).toNatClampNeg) ((1 : Int32) + tw)) ((((24 : Int32) + b) : Int32).toNatClampNeg) a) (((0 : Int32) + a) : Int32).toNatClampNeg)) 34) + 1)))]) (r := (upd (upd (upd (h 498) ((((8 : Int32) + b) : Int32).toNatClampNeg) ((1 : Int32) + tw)) ((((24 : Int32) + b) : Int32).toNatClampNeg) a) ((((0 : Int32) + b) : Int32).toNatClampNeg) ((upd (upd (h 498) ((((8 : Int32) + b) : Int32).toNatClampNeg) ((1 : Int32) + tw)) ((((24 : Int32) + b) : Int32).toNatClampNeg) a) (((0 : Int32) + a) : Int32).toNatClampNeg))) rfl rfl]
          refine rr_iconst 1 rfl dX10_ties_92 ?_
          refine rr_nreturn dX10_ties_93 rfl (by first | rfl | assumption) ?_
          simpa only [vX10_ties_t, rX10_ties_t_498, if_neg c1, if_neg c2, if_pos c6, if_neg c7] using kq h3 e5
        · skip
          refine rr_aload_n 1 rfl rfl dX10_ties_71 ?_
          refine rr_bipush 33 rfl dX10_ties_72 ?_
          refine rr_iaload dX10_ties_74 lo_498 sh_498 (jj_inL rfl) ?_
          rw [show (jj_rs h3 [(498, (upd (upd (h 498) ((((8 : Int32) + b) : Int32).toNatClampNeg) ((1 : Int32) + tw)) ((((24 : Int32) + b) : Int32).toNatClampNeg) a))]) 498 = (upd (upd (h 498) ((((8 : Int32) + b) : Int32).toNatClampNeg) ((1 : Int32) + tw)) ((((24 : Int32) + b) : Int32).toNatClampNeg) a) from rfl]
          rw [show (upd (upd (h 498) ((((8 : Int32) + b) : Int32).toNatClampNeg) ((1 : Int32) + tw)) ((((24 : Int32) + b) : Int32).toNatClampNeg) a) (33 : Int32).toNatClampNeg = (upd (upd (h 498) ((((8 : Int32) + b) : Int32).toNatClampNeg) ((1 : Int32) + tw)) ((((24 : Int32) + b) : Int32).toNatClampNeg) a) 33 from rfl]
          refine rr_goto dX10_ties_75 ?_
          refine rr_iastore dX10_ties_83 lo_498 sh_498 (jj_rowin (n := 8) (o := 0) (by first | assumption | exact jj_pM hn (by assumption) | exact jj_pM hn (jj_two (by assumption)).1 | exact jj_pM hn (jj_two (by assumption)).2 | decide | omega) (by decide) (by decide)) ?_
          rw [jj_rs_set (B := h3) (L := [(498, (upd (upd (h 498) ((((8 : Int32) + b) : Int32).toNatClampNeg) ((1 : Int32) + tw)) ((((24 : Int32) + b) : Int32).toNatClampNeg) a))]) (L2 := [(498, (upd (upd (upd (h 498) ((((8 : Int32) + b) : Int32).toNatClampNeg) ((1 : Int32) + tw)) ((((24 : Int32) + b) : Int32).toNatClampNeg) a) ((((0 : Int32) + b) : Int32).toNatClampNeg) ((upd (upd (h 498) ((((8 : Int32) + b) : Int32).toNatClampNeg) ((1 : Int32) + tw)) ((((24 : Int32) + b) : Int32).toNatClampNeg) a) 33)))]) (r := (upd (upd (h 498) ((((8 : Int32) + b) : Int32).toNatClampNeg) ((1 : Int32) + tw)) ((((24 : Int32) + b) : Int32).toNatClampNeg) a)) rfl rfl]
          refine rr_aload_n 1 rfl rfl dX10_ties_84 ?_
          refine rr_bipush 34 rfl dX10_ties_85 ?_
          refine rr_dup2 rfl rfl dX10_ties_87 ?_
          refine rr_iaload dX10_ties_88 lo_498 sh_498 (jj_inL rfl) ?_
          rw [show (jj_rs h3 [(498, (upd (upd (upd (h 498) ((((8 : Int32) + b) : Int32).toNatClampNeg) ((1 : Int32) + tw)) ((((24 : Int32) + b) : Int32).toNatClampNeg) a) ((((0 : Int32) + b) : Int32).toNatClampNeg) ((upd (upd (h 498) ((((8 : Int32) + b) : Int32).toNatClampNeg) ((1 : Int32) + tw)) ((((24 : Int32) + b) : Int32).toNatClampNeg) a) 33)))]) 498 = (upd (upd (upd (h 498) ((((8 : Int32) + b) : Int32).toNatClampNeg) ((1 : Int32) + tw)) ((((24 : Int32) + b) : Int32).toNatClampNeg) a) ((((0 : Int32) + b) : Int32).toNatClampNeg) ((upd (upd (h 498) ((((8 : Int32) + b) : Int32).toNatClampNeg) ((1 : Int32) + tw)) ((((24 : Int32) + b) : Int32).toNatClampNeg) a) 33)) from rfl]
          rw [show (upd (upd (upd (h 498) ((((8 : Int32) + b) : Int32).toNatClampNeg) ((1 : Int32) + tw)) ((((24 : Int32) + b) : Int32).toNatClampNeg) a) ((((0 : Int32) + b) : Int32).toNatClampNeg) ((upd (upd (h 498) ((((8 : Int32) + b) : Int32).toNatClampNeg) ((1 : Int32) + tw)) ((((24 : Int32) + b) : Int32).toNatClampNeg) a) 33)) (34 : Int32).toNatClampNeg = (upd (upd (upd (h 498) ((((8 : Int32) + b) : Int32).toNatClampNeg) ((1 : Int32) + tw)) ((((24 : Int32) + b) : Int32).toNatClampNeg) a) ((((0 : Int32) + b) : Int32).toNatClampNeg) ((upd (upd (h 498) ((((8 : Int32) + b) : Int32).toNatClampNeg) ((1 : Int32) + tw)) ((((24 : Int32) + b) : Int32).toNatClampNeg) a) 33)) 34 from rfl]
          refine rr_iconst 1 rfl dX10_ties_89 ?_
          refine rr_iadd dX10_ties_90 ?_
          refine rr_iastore dX10_ties_91 lo_498 sh_498 (jj_inL rfl) ?_
          rw [show (34 : Int32).toNatClampNeg = 34 from rfl]
          rw [jj_rs_set (B := h3) (L := [(498, (upd (upd (upd (h 498) ((((8 : Int32) + b) : Int32).toNatClampNeg) ((1 : Int32) + tw)) ((((24 : Int32) + b) : Int32).toNatClampNeg) a) ((((0 : Int32) + b) : Int32).toNatClampNeg) ((upd (upd (h 498) ((((8 : Int32) + b) : Int32).toNatClampNeg) ((1 : Int32) + tw)) ((((24 : Int32) + b) : Int32).toNatClampNeg) a) 33)))]) (L2 := [(498, (upd (upd (upd (upd (h 498) ((((8 : Int32) + b) : Int32).toNatClampNeg) ((1 : Int32) + tw)) ((((24 : Int32) + b) : Int32).toNatClampNeg) a) ((((0 : Int32) + b) : Int32).toNatClampNeg) ((upd (upd (h 498) ((((8 : Int32) + b) : Int32).toNatClampNeg) ((1 : Int32) + tw)) ((((24 : Int32) + b) : Int32).toNatClampNeg) a) 33)) (34) (((upd (upd (upd (h 498) ((((8 : Int32) + b) : Int32).toNatClampNeg) ((1 : Int32) + tw)) ((((24 : Int32) + b) : Int32).toNatClampNeg) a) ((((0 : Int32) + b) : Int32).toNatClampNeg) ((upd (upd (h 498) ((((8 : Int32) + b) : Int32).toNatClampNeg) ((1 : Int32) + tw)) ((((24 : Int32) + b) : Int32).toNatClampNeg) a) 33)) 34) + 1)))]) (r := (upd (upd (upd (h 498) ((((8 : Int32) + b) : Int32).toNatClampNeg) ((1 : Int32) + tw)) ((((24 : Int32) + b) : Int32).toNatClampNeg) a) ((((0 : Int32) + b) : Int32).toNatClampNeg) ((upd (upd (h 498) ((((8 : Int32) + b) : Int32).toNatClampNeg) ((1 : Int32) + tw)) ((((24 : Int32) + b) : Int32).toNatClampNeg) a) 33))) rfl rfl]
          refine rr_iconst 1 rfl dX10_ties_92 ?_
          refine rr_nreturn dX10_ties_93 rfl (by first | rfl | assumption) ?_
          simpa only [vX10_ties_t, rX10_ties_t_498, if_neg c1, if_neg c2, if_pos c6, if_pos c7] using kq h3 e5
      · skip
        refine rr_aload_n 1 rfl rfl dX10_ties_33 ?_
        refine rr_bipush 16 rfl dX10_ties_34 ?_
        refine rr_iload_n 3 rfl rfl dX10_ties_36 ?_
        refine rr_iadd dX10_ties_37 ?_
        refine rr_dup2 rfl rfl dX10_ties_38 ?_
        refine rr_iaload dX10_ties_39 lo_498 sh_498 (jj_rowin (n := 8) (o := 16) (by first | assumption | exact jj_pM hn (by assumption) | exact jj_pM hn (jj_two (by assumption)).1 | exact jj_pM hn (jj_two (by assumption)).2 | decide | omega) (by decide) (by decide)) ?_
        rw [e5 498 (by decide)]
        refine rr_iconst 1 rfl dX10_ties_40 ?_
        refine rr_iadd dX10_ties_41 ?_
        refine rr_iastore dX10_ties_42 lo_498 sh_498 (jj_rowin (n := 8) (o := 16) (by first | assumption | exact jj_pM hn (by assumption) | exact jj_pM hn (jj_two (by assumption)).1 | exact jj_pM hn (jj_two (by assumption)).2 | decide | omega) (by decide) (by decide)) ?_
        rw [jj_rs_set0 (B := h3) (o := 498) (r := (h 498)) (e5 498 (by decide))]
        refine rr_iconst 1 rfl dX10_ties_43 ?_
        refine rr_nreturn dX10_ties_44 rfl (by first | rfl | assumption) ?_
        simpa only [vX10_ties_t, rX10_ties_t_498, if_neg c1, if_neg c2, if_neg c6] using kq h3 e5
    · skip
      refine rr_iconst 0 rfl dX10_ties_17 ?_
      refine rr_nreturn dX10_ties_18 rfl (by first | rfl | assumption) ?_
      refine jj_Qh (jj_addr (B := h) (o := 498) (r := (h 498)) rfl) ?_
      simpa only [vX10_ties_t, rX10_ties_t_498, if_neg c1, if_pos c2] using kq h jj_eq.rf
