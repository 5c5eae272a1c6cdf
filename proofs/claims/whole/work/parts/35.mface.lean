def bt (x : Int32) (i : Nat) : Bool := x.toBitVec.getLsbD i
theorem b_ext {x y : Int32} (h : ∀ i, i < 32 → bt x i = bt y i) : x = y := Int32.toBitVec_inj.mp (BitVec.eq_of_getLsbD_eq (fun i hi => h i hi))
theorem b_or (x y : Int32) (i : Nat) : bt (x ||| y) i = (bt x i || bt y i) := by unfold bt; rw [Int32.toBitVec_or, BitVec.getLsbD_or]
theorem b_and (x y : Int32) (i : Nat) : bt (x &&& y) i = (bt x i && bt y i) := by unfold bt; rw [Int32.toBitVec_and, BitVec.getLsbD_and]
theorem b_big {x : Int32} {i : Nat} (h : 32 ≤ i) : bt x i = false := BitVec.getLsbD_of_ge _ _ h
theorem b_0 (i : Nat) : bt 0 i = false := BitVec.getLsbD_zero
theorem s_l : ∀ n, n < 32 → ((nI n &&& 31).toBitVec.smod 32).toNat = n := by decide +kernel
theorem b_shl (n : Nat) (hn : n < 32) (x : Int32) {i : Nat} (hi : i < 32) : bt (x <<< (nI n &&& 31)) i = (decide (n ≤ i) && bt x (i - n)) := by
  unfold bt
  rw [Int32.toBitVec_shiftLeft]
  show (x.toBitVec <<< ((nI n &&& 31).toBitVec.smod 32).toNat).getLsbD i = _
  rw [s_l n hn, BitVec.getLsbD_shiftLeft]
  rcases Nat.lt_or_ge i n with h | h
  · simp [h, Nat.not_le.mpr h]
  · simp [hi, h, Nat.not_lt.mpr h]
theorem b_sshr (n : Nat) (hn : n < 32) (x : Int32) {i : Nat} (hi : i < 32) : bt (x >>> (nI n &&& 31)) i = if n + i < 32 then bt x (n + i) else bt x 31 := by
  unfold bt
  rw [Int32.toBitVec_shiftRight]
  show (x.toBitVec.sshiftRight ((nI n &&& 31).toBitVec.smod 32).toNat).getLsbD i = _
  rw [s_l n hn, BitVec.getLsbD_sshiftRight, BitVec.msb_eq_getLsbD_last]
  simp [hi]
/-! ===== sets of persons as numbers ===== -/
def bn (b : Int32) : Nat := b.toBitVec.toNat
theorem bn_inj {a b : Int32} (h : bn a = bn b) : a = b := Int32.toBitVec_inj.mp (BitVec.eq_of_toNat_eq h)
theorem bn_or (a b : Int32) : bn (a ||| b) = bn a ||| bn b := by unfold bn; rw [Int32.toBitVec_or, BitVec.toNat_or]
theorem bn_1s : ∀ K, K < 8 → bn (1 <<< (nI K &&& 31)) = 2 ^ K := by decide +kernel
theorem bt_1s : ∀ K, K < 8 → ∀ j, j < 32 → bt (1 <<< (nI K &&& 31)) j = decide (j = K) := by decide +kernel
theorem bn_lt1 {K : Nat} (hK : K < 8) : bn (1 <<< (nI K &&& 31)) < 256 := by
  rw [bn_1s K hK]
  exact Nat.pow_lt_pow_right (by decide) hK
theorem bn_orlt {a b : Int32} (ha : bn a < 256) (hb : bn b < 256) : bn (a ||| b) < 256 := by
  rw [bn_or]; exact Nat.or_lt_two_pow (n := 8) ha hb
theorem bn_orle {a b : Int32} : bn a ≤ bn (a ||| b) := by
  rw [bn_or]; exact Nat.left_le_or
theorem bt_one (b : Int32) : (b &&& 1) = 1 ↔ bt b 0 = true := by
  rw [← Int32.toBitVec_inj, Int32.toBitVec_and]
  show b.toBitVec &&& 1#32 = 1#32 ↔ _
  rw [BitVec.and_one_eq_setWidth_ofBool_getLsbD]
  unfold bt
  cases b.toBitVec.getLsbD 0
  · exact ⟨fun z => absurd z (by decide), fun z => absurd z (by decide)⟩
  · exact ⟨fun _ => rfl, fun _ => by decide⟩
theorem has_bt {b : Int32} {K : Nat} (hK : K < 8) : vX10_has b (nI K) = if bt b K then 1 else 0 := by
  unfold vX10_has
  have e : ((b >>> (nI K &&& 31)) &&& 1) = 1 ↔ bt b K = true := by
    rw [bt_one, b_sshr K (by omega) b (show 0 < 32 by decide), if_pos (show K + 0 < 32 by omega), Nat.add_zero]
  by_cases c : bt b K = true
  · rw [if_pos (e.mpr c), if_pos c]
  · rw [if_neg (fun q => c (e.mp q)), if_neg c]
theorem and_bt {b : Int32} {K : Nat} (hK : K < 8) : (b &&& (1 <<< (nI K &&& 31))) = 0 ↔ bt b K = false := by
  constructor
  · intro h
    have : bt (b &&& (1 <<< (nI K &&& 31))) K = false := by rw [h]; exact b_0 K
    rw [b_and, bt_1s K hK K (by omega), decide_eq_true rfl, Bool.and_true] at this
    exact this
  · intro h
    refine b_ext (fun i hi => ?_)
    rw [b_and, bt_1s K hK i hi, b_0]
    by_cases e : i = K
    · rw [e, h]; rfl
    · rw [decide_eq_false e, Bool.and_false]
/-! ===== kin and ring: the loops end ===== -/
def kininv (k : Nat) (bits been : Int32) : Prop := k ≤ bn been + 1 ∧ bn been ≤ bn bits ∧ bn bits < 256
theorem kin_0 {n : Nat} {p : Int32} (hn : n ≤ 8) (c : ¬ vX10_isPerson n p = 0) : kininv 0 (1 <<< (p &&& 31)) 0 := by
  obtain ⟨P, hP, rfl⟩ := jj_persM hn c
  exact ⟨Nat.zero_le _, Nat.zero_le _, bn_lt1 (by omega)⟩
theorem kin_dead {bits been : Int32} (h : kininv 257 bits been) : False := by
  obtain ⟨h1, h2, h3⟩ := h
  omega
def rginv (k : Nat) (one been : Int32) : Prop := k ≤ bn been ∧ bn been < 256 ∧ (one = -1 ∨ vp_in one 8)
theorem rg_dead {one been : Int32} (h : rginv 256 one been) : False := by
  obtain ⟨h1, h2, h3⟩ := h
  omega
theorem rg_in {k : Nat} {one been : Int32} (h : rginv k one been) (c : ¬ one = -1) : vp_in one 8 := h.2.2.resolve_left c
theorem rg_step {r497 : Nat → Int32} {k : Nat} {one been : Int32} (hby : ∀ j, j < 8 → r497 (24 + j) = -1 ∨ vp_in (r497 (24 + j)) 8) (h : rginv k one been) (c1 : ¬ one = -1) (c2 : vX10_has been one = 0) : rginv (k + 1) (r497 ((24 : Int32) + one).toNatClampNeg) (been ||| (1 <<< (one &&& 31))) := by
  obtain ⟨K, hK, e⟩ := vp_in_of (rg_in h c1) (by decide)
  subst e
  have hb : ¬ bt been K = true := fun q => by
    rw [has_bt hK, if_pos q] at c2
    exact absurd c2 (by decide)
  refine ⟨?_, bn_orlt h.2.1 (bn_lt1 hK), ?_⟩
  · have h1 : bn been ≤ bn (been ||| (1 <<< (nI K &&& 31))) := bn_orle
    have h2 : bn been ≠ bn (been ||| (1 <<< (nI K &&& 31))) := fun q => by
      apply hb
      rw [bn_inj q, b_or, bt_1s K hK K (by omega), decide_eq_true rfl, Bool.or_true]
    have := h.1
    omega
  · rw [jj_rc (o := 24) hK (by decide)]
    exact hby K hK
def fX10_kin_2 (r73 : Nat → Int32) (a1 : Int32 × Int32) (k2 : Nat) (a2 : Int32) : Int32 := (if (vX10_has a1.1 (nI k2)) = 0 then (a2 ||| 0) else (a2 ||| (r73 k2)))
def fX10_kin_1 (r73 : Nat → Int32) (n : Nat) (k1 : Nat) (a1 : Int32 × Int32) : Sum (Int32 × Int32) (Int32 × Int32) := (if a1.1 = a1.2 then (.inr (a1.1, a1.2)) else (.inl ((jj_fo (fX10_kin_2 r73 a1) n a1.1), a1.1)))
def vX10_kin (r49 : Nat → Int32) (r51 : Nat → Int32) (r73 : Nat → Int32) (n : Nat) (p : Int32) : Int32 := (if (vX10_isPerson n p) = 0 then 0 else (Sum.elim (fun a1 => a1.1) (fun r1_ => r1_.1) (jj_fx (fX10_kin_1 r73 n) 257 ((1 <<< (p &&& 31)), 0))))
def rX10_kin_49 (r49 : Nat → Int32) (r51 : Nat → Int32) (r73 : Nat → Int32) (n : Nat) (p : Int32) : Nat → Int32 := (if (vX10_isPerson n p) = 0 then (upd (upd r49 (0) 0) (0) 1) else (upd r49 (0) 0))
def rX10_kin_51 (r49 : Nat → Int32) (r51 : Nat → Int32) (r73 : Nat → Int32) (n : Nat) (p : Int32) : Nat → Int32 := (if (vX10_isPerson n p) = 0 then (upd r51 (0) ((r51 0) + 1)) else r51)
theorem kin_step {r73 : Nat → Int32} {n k : Nat} {a : Int32 × Int32} (hn : n ≤ 8) (hf : ∀ j, j < 8 → bn (r73 j) < 256) (h : kininv k a.1 a.2) (c : ¬ a.1 = a.2) : kininv (k + 1) (jj_fo (fX10_kin_2 r73 a) n a.1) a.1 := by
  obtain ⟨h1, h2, h3⟩ := h
  have hne : bn a.1 ≠ bn a.2 := fun q => c (bn_inj q)
  have key : ∀ j, j ≤ n → bn a.1 ≤ bn (jj_fo (fX10_kin_2 r73 a) j a.1) ∧ bn (jj_fo (fX10_kin_2 r73 a) j a.1) < 256 := by
    intro j
    induction j with
    | zero => exact fun _ => ⟨Nat.le_refl _, h3⟩
    | succ j ih =>
      intro hj
      obtain ⟨i1, i2⟩ := ih (by omega)
      have e : jj_fo (fX10_kin_2 r73 a) (j + 1) a.1 = fX10_kin_2 r73 a j (jj_fo (fX10_kin_2 r73 a) j a.1) := by rw [jj_fo]
      rw [e]
      generalize jj_fo (fX10_kin_2 r73 a) j a.1 = z at i1 i2
      unfold fX10_kin_2
      split
      · exact ⟨Nat.le_trans i1 bn_orle, bn_orlt i2 (by decide)⟩
      · exact ⟨Nat.le_trans i1 bn_orle, bn_orlt i2 (hf j (by omega))⟩
  obtain ⟨k1, k2⟩ := key n (Nat.le_refl _)
  exact ⟨by omega, k1, k2⟩
set_option maxHeartbeats 1000000 in
theorem sp_X10_kin {d kc ks : Nat} {h : Nat → Nat → Int32} {g : Nat → Nat → Int64} {Q : jj_Rs → jj_St → Prop} {n : Nat} {p : Int32} (hT : h 53 0 = nI n) (hn : n ≤ 8) (hf : ∀ j, j < 8 → bn (h 73 j) < 256) (kq : Q (.inl (some (.int (vX10_kin (h 49) (h 51) (h 73) n p)))) (jj_S, 782, (jj_rs h [(49, (rX10_kin_49 (h 49) (h 51) (h 73) n p)), (51, (rX10_kin_51 (h 49) (h 51) (h 73) n p))]), g)) : jj_R mX10_kin (d + 2) kc ks (jj_S, 782, h, g) 0 [(0, .ref 49), (1, .int p)] [] Q := by
  refine rr_aload_n 0 rfl rfl dX10_kin_0 ?_
  refine rr_iconst 0 rfl dX10_kin_1 ?_
  refine rr_putI dX10_kin_2 fX10_95 ni10_0 lo_49 sh_49 rfl ?_
  rw [jj_rs_set0 (B := h) (o := 49) (r := (h 49)) rfl]
  refine rr_aload_n 0 rfl rfl dX10_kin_5 ?_
  refine rr_aload_n 0 rfl rfl dX10_kin_6 ?_
  refine rr_iload_n 1 rfl rfl dX10_kin_7 ?_
  refine rr_callV (As := [.int p]) (rest := [.ref 49]) (kc2 := 0) (ks2 := 0) dX10_kin_8 okX10_isPerson lX10_321 lo_49 sh_49 rfl rfl (Nat.le_of_ble_eq_true rfl) (Nat.le_of_ble_eq_true rfl) rfl (by omega) (by simp [jj_rk]) (by simp [jj_rk]) ?_
  refine sp_X10_isPerson (by first | exact hT | exact (congrFun (jj_eq.rf 53 (by decide)) 0).trans hT) hn ?_
  show jj_R _ _ kc ks (jj_S, 782, (jj_rs h [(49, (upd (h 49) (0) 0))]), g) 11 [(0, .ref 49), (1, .int p)] [.int (vX10_isPerson n p), .ref 49] Q
  refine rr_if_ne dX10_kin_11 (fun c1 => ?_) (fun c1 => ?_)
  · skip
    refine rr_iconst 0 rfl dX10_kin_18 ?_
    refine rr_iconst 1 rfl dX10_kin_19 ?_
    refine rr_iconst 0 rfl dX10_kin_20 ?_
    refine rr_callV (As := [.int 0, .int 1, .int 0]) (rest := []) (kc2 := 0) (ks2 := 0) dX10_kin_21 okX10_bad lX10_171 lo_49 sh_49 rfl rfl (Nat.le_of_ble_eq_true rfl) (Nat.le_of_ble_eq_true rfl) rfl (by omega) (by simp [jj_rk]) (by simp [jj_rk]) ?_
    refine sp_X10_bad0_10 rfl ?_
    show jj_R _ _ kc ks (jj_S, 782, (jj_rs h [(49, (upd (h 49) (0) 0))]), g) 24 [(0, .ref 49), (1, .int p)] [.int 0] Q
    refine rr_if_eq dX10_kin_24 (fun _ => ?_) (fun c => absurd (by decide) c)
    refine rr_iconst 1 rfl dX10_kin_29 ?_
    refine rr_iload_n 1 rfl rfl dX10_kin_30 ?_
    refine rr_ishl dX10_kin_31 ?_
    refine rr_istore_n [(0, .ref 49), (1, .int p), (2, .int (1 <<< (p &&& 31)))] dX10_kin_32 rfl (by decide) rfl ?_
    refine rr_iconst 0 rfl dX10_kin_33 ?_
    refine rr_istore_n [(0, .ref 49), (1, .int p), (2, .int (1 <<< (p &&& 31))), (3, .int 0)] dX10_kin_34 rfl (by decide) rfl ?_
    refine jj_forx (fun k1 (a1 : Int32 × Int32) => (kininv k1 a1.1 a1.2) → jj_R _ _ kc ks (jj_S, 782, (jj_rs h [(49, (upd (h 49) (0) 0))]), g) 35 [(0, .ref 49), (1, .int p), (2, .int a1.1), (3, .int a1.2)] [] Q) (fX10_kin_1 (h 73) n) 257 ((1 <<< (p &&& 31)), 0) (fun (r1_ : Int32 × Int32) => jj_R mX10_kin (d + 2) kc ks (jj_S, 782, (jj_rs h [(49, (upd (h 49) (0) 0))]), g) 88 [(0, .ref 49), (1, .int p), (2, .int r1_.1), (3, .int r1_.2)] [] Q) ?_ ?_ ?_ (kin_0 hn (by assumption))
    · intro k1 hk1 a1 ih1 ix1 hi1
      try dsimp only at ih1 ix1 ⊢
      refine rr_iload_n 2 rfl rfl dX10_kin_35 ?_
      refine rr_iload_n 3 rfl rfl dX10_kin_36 ?_
      refine rr_icmp_eq dX10_kin_37 (fun c2 => ?_) (fun c2 => ?_)
      · skip
        try simp only [(nI_clamp (show k1 < 2 ^ 31 by omega))] at c2
        simpa only [nI_1, (nI_clamp (show k1 < 2 ^ 31 by omega)), fX10_kin_1, if_pos c2] using ix1 (a1.1, a1.2) (by simp only [(nI_clamp (show k1 < 2 ^ 31 by omega)), fX10_kin_1, if_pos c2])
      · skip
        refine rr_iload_n 2 rfl rfl dX10_kin_40 ?_
        refine rr_istore_n [(0, .ref 49), (1, .int p), (2, .int a1.1), (3, .int a1.1)] dX10_kin_41 rfl (by decide) rfl ?_
        refine rr_iconst 0 rfl dX10_kin_42 ?_
        refine rr_istore [(0, .ref 49), (1, .int p), (2, .int a1.1), (3, .int a1.1), (4, .int 0)] dX10_kin_43 (by decide) rfl ?_
        refine jj_for (fun k2 (a2 : Int32) => jj_R _ _ kc ks (jj_S, 782, (jj_rs h [(49, (upd (h 49) (0) 0))]), g) 45 [(0, .ref 49), (1, .int p), (2, .int a2), (3, .int a1.1), (4, .int (nI k2))] [] Q) (fX10_kin_2 (h 73) a1) n a1.1 ?_ ?_
        · intro k2 hk2 ih2
          generalize jj_fo _ k2 _ = a2 at ih2 ⊢
          try dsimp only at ih2 ⊢
          refine rr_iload 4 rfl dX10_kin_45 ?_
          refine rr_aload_n 0 rfl rfl dX10_kin_47 ?_
          refine rr_getR dX10_kin_48 fX10_23 lo_49 sh_49 rfl ?_
          refine rr_iconst 0 rfl dX10_kin_51 ?_
          refine rr_iaload dX10_kin_52 lo_53 sh_53 (jj_inL rfl) ?_
          rw [show (jj_rs h [(49, (upd (h 49) (0) 0))]) 53 = h 53 from rfl]
          rw [show (h 53) (0 : Int32).toNatClampNeg = (nI n) from hT]
          refine rr_icmp_ge dX10_kin_53 (fun c => absurd c (nI_ge (a := k2) (b := n) (by omega) (by omega))) (fun _ => ?_)
          refine rr_iload_n 2 rfl rfl dX10_kin_56 ?_
          refine rr_iload_n 3 rfl rfl dX10_kin_57 ?_
          refine rr_iload 4 rfl dX10_kin_58 ?_
          refine rr_callS (As := [.int a1.1, .int (nI k2)]) (rest := [.int a2]) (kc2 := 0) (ks2 := 0) dX10_kin_60 okX10_has lX10_254 rfl (Nat.le_of_ble_eq_true rfl) (Nat.le_of_ble_eq_true rfl) rfl (by omega) (by simp [jj_rk]) (by simp [jj_rk]) ?_
          refine sp_X10_has  ?_
          show jj_R _ _ kc ks (jj_S, 782, (jj_rs h [(49, (upd (h 49) (0) 0))]), g) 63 [(0, .ref 49), (1, .int p), (2, .int a2), (3, .int a1.1), (4, .int (nI k2))] [.int (vX10_has a1.1 (nI k2)), .int a2] Q
          refine rr_if_eq dX10_kin_63 (fun c3 => ?_) (fun c3 => ?_)
          · skip
            refine rr_iconst 0 rfl dX10_kin_76 ?_
            refine rr_ior dX10_kin_77 ?_
            refine rr_istore_n [(0, .ref 49), (1, .int p), (2, .int (a2 ||| 0)), (3, .int a1.1), (4, .int (nI k2))] dX10_kin_78 rfl (by decide) rfl ?_
            refine rr_iinc 4 1 [(0, .ref 49), (1, .int p), (2, .int (a2 ||| 0)), (3, .int a1.1), (4, .int ((nI k2) + 1))] dX10_kin_79 rfl rfl (by decide) rfl ?_
            refine rr_goto dX10_kin_82 ?_
            try simp only [(nI_clamp (show k2 < 2 ^ 31 by omega))] at c3
            simpa only [nI_1, (nI_clamp (show k2 < 2 ^ 31 by omega)), fX10_kin_2, if_pos c3] using ih2
          · skip
            refine rr_aload_n 0 rfl rfl dX10_kin_66 ?_
            refine rr_getR dX10_kin_67 fX10_37 lo_49 sh_49 rfl ?_
            refine rr_iload 4 rfl dX10_kin_70 ?_
            refine rr_iaload dX10_kin_72 lo_73 sh_73 (vp_in_nI (by omega) (by decide)) ?_
            rw [show (jj_rs h [(49, (upd (h 49) (0) 0))]) 73 = h 73 from rfl]
            refine rr_goto dX10_kin_73 ?_
            refine rr_ior dX10_kin_77 ?_
            refine rr_istore_n [(0, .ref 49), (1, .int p), (2, .int (a2 ||| ((h 73) ((nI k2) : Int32).toNatClampNeg))), (3, .int a1.1), (4, .int (nI k2))] dX10_kin_78 rfl (by decide) rfl ?_
            refine rr_iinc 4 1 [(0, .ref 49), (1, .int p), (2, .int (a2 ||| ((h 73) ((nI k2) : Int32).toNatClampNeg))), (3, .int a1.1), (4, .int ((nI k2) + 1))] dX10_kin_79 rfl rfl (by decide) rfl ?_
            refine rr_goto dX10_kin_82 ?_
            try simp only [(nI_clamp (show k2 < 2 ^ 31 by omega))] at c3
            simpa only [nI_1, (nI_clamp (show k2 < 2 ^ 31 by omega)), fX10_kin_2, if_neg c3] using ih2
        · try dsimp only
          refine rr_iload 4 rfl dX10_kin_45 ?_
          refine rr_aload_n 0 rfl rfl dX10_kin_47 ?_
          refine rr_getR dX10_kin_48 fX10_23 lo_49 sh_49 rfl ?_
          refine rr_iconst 0 rfl dX10_kin_51 ?_
          refine rr_iaload dX10_kin_52 lo_53 sh_53 (jj_inL rfl) ?_
          rw [show (jj_rs h [(49, (upd (h 49) (0) 0))]) 53 = h 53 from rfl]
          rw [show (h 53) (0 : Int32).toNatClampNeg = (nI n) from hT]
          refine rr_icmp_ge dX10_kin_53 (fun _ => ?_) (fun c => absurd (jj_le_rf _) c)
          refine rr_goto dX10_kin_85 ?_
          try simp only [(nI_clamp (show k1 < 2 ^ 31 by omega))] at c2
          refine rr_drop (ls := [(0, .ref 49), (1, .int p), (2, .int (jj_fo (fX10_kin_2 (h 73) a1) n a1.1)), (3, .int a1.1)]) [0, 1, 2, 3] rfl ?_
          simpa only [nI_1, (nI_clamp (show k1 < 2 ^ 31 by omega)), fX10_kin_1, if_neg c2] using ih1 ((jj_fo (fX10_kin_2 (h 73) a1) n a1.1), a1.1) (by simp only [(nI_clamp (show k1 < 2 ^ 31 by omega)), fX10_kin_1, if_neg c2]) (kin_step hn hf hi1 (by assumption))
    · intro a1 hx1 hi1
      try dsimp only
      refine rr_iload_n 2 rfl rfl dX10_kin_35 ?_
      refine rr_iload_n 3 rfl rfl dX10_kin_36 ?_
      refine rr_icmp_eq dX10_kin_37 (fun c4 => ?_) (fun c4 => ?_)
      · skip
        refine rr_iload_n 2 rfl rfl dX10_kin_88 ?_
        refine rr_ireturn dX10_kin_89 rfl ?_
        refine jj_Qh (jj_rs_add (B := h) (L := [(49, (upd (h 49) (0) 0))]) (L2 := [(49, (upd (h 49) (0) 0)), (51, (h 51))]) (o := 51) (r := (h 51)) rfl rfl) ?_
        simpa only [vX10_kin, rX10_kin_49, rX10_kin_51, if_neg c1, hx1, Sum.elim_inl, Sum.elim_inr] using kq
      · skip
        exact (kin_dead hi1).elim
    · intro r1_ hx1
      try dsimp only
      refine rr_iload_n 2 rfl rfl dX10_kin_88 ?_
      refine rr_ireturn dX10_kin_89 rfl ?_
      refine jj_Qh (jj_rs_add (B := h) (L := [(49, (upd (h 49) (0) 0))]) (L2 := [(49, (upd (h 49) (0) 0)), (51, (h 51))]) (o := 51) (r := (h 51)) rfl rfl) ?_
      simpa only [vX10_kin, rX10_kin_49, rX10_kin_51, if_neg c1, hx1, Sum.elim_inl, Sum.elim_inr] using kq
  · skip
    refine rr_iconst 1 rfl dX10_kin_14 ?_
    refine rr_goto dX10_kin_15 ?_
    refine rr_iconst 1 rfl dX10_kin_19 ?_
    refine rr_iconst 0 rfl dX10_kin_20 ?_
    refine rr_callV (As := [.int 1, .int 1, .int 0]) (rest := []) (kc2 := 0) (ks2 := 0) dX10_kin_21 okX10_bad lX10_171 lo_49 sh_49 rfl rfl (Nat.le_of_ble_eq_true rfl) (Nat.le_of_ble_eq_true rfl) rfl (by omega) (by simp [jj_rk]) (by simp [jj_rk]) ?_
    refine sp_X10_bad1_10 rfl ?_
    show jj_R _ _ kc ks (jj_S, 782, (jj_rs (jj_rs h [(49, (upd (h 49) (0) 0))]) [(49, (upd (upd (h 49) (0) 0) (0) 1)), (51, (upd (h 51) (0) (((h 51) 0) + 1)))]), g) 24 [(0, .ref 49), (1, .int p)] [.int 1] Q
    rw [jj_rs_rs (B := h) (L := [(49, (upd (h 49) (0) 0))]) (M := [(49, (upd (upd (h 49) (0) 0) (0) 1)), (51, (upd (h 51) (0) (((h 51) 0) + 1)))]) (L2 := [(49, (upd (upd (h 49) (0) 0) (0) 1)), (51, (upd (h 51) (0) (((h 51) 0) + 1)))]) rfl]
    refine rr_if_eq dX10_kin_24 (fun c => absurd c (by decide)) (fun _ => ?_)
    refine rr_iconst 0 rfl dX10_kin_27 ?_
    refine rr_ireturn dX10_kin_28 rfl ?_
    simpa only [vX10_kin, rX10_kin_49, rX10_kin_51, if_pos c1] using kq
def fX10_ring_1 (r497 : Nat → Int32) (k1 : Nat) (a1 : Int32 × Int32 × Int32) : Sum (Int32 × Int32 × Int32) (Int32 × Int32 × Int32) := (if a1.1 = (-1) then (.inr (a1.1, a1.2.1, a1.2.2)) else (if (vX10_has a1.2.2 a1.1) = 0 then (if (r497 (((24 : Int32) + a1.1) : Int32).toNatClampNeg) = (-1) then (.inl ((r497 (((24 : Int32) + a1.1) : Int32).toNatClampNeg), (a1.2.1 + 0), (a1.2.2 ||| (1 <<< (a1.1 &&& 31))))) else (.inl ((r497 (((24 : Int32) + a1.1) : Int32).toNatClampNeg), (a1.2.1 + 1), (a1.2.2 ||| (1 <<< (a1.1 &&& 31)))))) else (.inr (a1.1, a1.2.1, a1.2.2))))
def vX10_ring (r49 : Nat → Int32) (r51 : Nat → Int32) (r497 : Nat → Int32) (n : Nat) (p : Int32) (w : Int32) : Int32 := (if (vX10_isPerson n p) = 0 then 0 else (if (vX10_in w 0 1) = 0 then 0 else (Sum.elim (fun a1 => (if w = 0 then a1.2.1 else 0)) (fun r1_ => (if w = 0 then r1_.2.1 else (if r1_.1 = (-1) then 0 else 1))) (jj_fx (fX10_ring_1 r497) 256 (p, 0, 0)))))
def rX10_ring_49 (r49 : Nat → Int32) (r51 : Nat → Int32) (r497 : Nat → Int32) (n : Nat) (p : Int32) (w : Int32) : Nat → Int32 := (if (vX10_isPerson n p) = 0 then (upd (upd r49 (0) 0) (0) 1) else (if (vX10_in w 0 1) = 0 then (upd (upd r49 (0) 0) (0) 2) else (upd r49 (0) 0)))
def rX10_ring_51 (r49 : Nat → Int32) (r51 : Nat → Int32) (r497 : Nat → Int32) (n : Nat) (p : Int32) (w : Int32) : Nat → Int32 := (if (vX10_isPerson n p) = 0 then (upd r51 (0) ((r51 0) + 1)) else (if (vX10_in w 0 1) = 0 then (upd r51 (1) ((r51 1) + 1)) else r51))
set_option maxHeartbeats 1000000 in
theorem sp_X10_ring {d kc ks : Nat} {h : Nat → Nat → Int32} {g : Nat → Nat → Int64} {Q : jj_Rs → jj_St → Prop} {n : Nat} {p : Int32} {w : Int32} (hT : h 53 0 = nI n) (hn : n ≤ 8) (hby : ∀ j, j < 8 → (h 497) (24 + j) = -1 ∨ vp_in ((h 497) (24 + j)) 8) (kq : Q (.inl (some (.int (vX10_ring (h 49) (h 51) (h 497) n p w)))) (jj_S, 782, (jj_rs h [(49, (rX10_ring_49 (h 49) (h 51) (h 497) n p w)), (51, (rX10_ring_51 (h 49) (h 51) (h 497) n p w))]), g)) : jj_R mX10_ring (d + 2) kc ks (jj_S, 782, h, g) 0 [(0, .ref 49), (1, .int p), (2, .int w)] [] Q := by
  refine rr_aload_n 0 rfl rfl dX10_ring_0 ?_
  refine rr_iconst 0 rfl dX10_ring_1 ?_
  refine rr_putI dX10_ring_2 fX10_95 ni10_0 lo_49 sh_49 rfl ?_
  rw [jj_rs_set0 (B := h) (o := 49) (r := (h 49)) rfl]
  refine rr_aload_n 0 rfl rfl dX10_ring_5 ?_
  refine rr_aload_n 0 rfl rfl dX10_ring_6 ?_
  refine rr_iload_n 1 rfl rfl dX10_ring_7 ?_
  refine rr_callV (As := [.int p]) (rest := [.ref 49]) (kc2 := 0) (ks2 := 0) dX10_ring_8 okX10_isPerson lX10_321 lo_49 sh_49 rfl rfl (Nat.le_of_ble_eq_true rfl) (Nat.le_of_ble_eq_true rfl) rfl (by omega) (by simp [jj_rk]) (by simp [jj_rk]) ?_
  refine sp_X10_isPerson (by first | exact hT | exact (congrFun (jj_eq.rf 53 (by decide)) 0).trans hT) hn ?_
  show jj_R _ _ kc ks (jj_S, 782, (jj_rs h [(49, (upd (h 49) (0) 0))]), g) 11 [(0, .ref 49), (1, .int p), (2, .int w)] [.int (vX10_isPerson n p), .ref 49] Q
  refine rr_if_ne dX10_ring_11 (fun c1 => ?_) (fun c1 => ?_)
  · skip
    refine rr_iconst 0 rfl dX10_ring_18 ?_
    refine rr_iconst 1 rfl dX10_ring_19 ?_
    refine rr_iconst 0 rfl dX10_ring_20 ?_
    refine rr_callV (As := [.int 0, .int 1, .int 0]) (rest := []) (kc2 := 0) (ks2 := 0) dX10_ring_21 okX10_bad lX10_171 lo_49 sh_49 rfl rfl (Nat.le_of_ble_eq_true rfl) (Nat.le_of_ble_eq_true rfl) rfl (by omega) (by simp [jj_rk]) (by simp [jj_rk]) ?_
    refine sp_X10_bad0_10 rfl ?_
    show jj_R _ _ kc ks (jj_S, 782, (jj_rs h [(49, (upd (h 49) (0) 0))]), g) 24 [(0, .ref 49), (1, .int p), (2, .int w)] [.int 0] Q
    refine rr_if_ne dX10_ring_24 (fun c => absurd c (by decide)) (fun _ => ?_)
    refine rr_aload_n 0 rfl rfl dX10_ring_27 ?_
    refine rr_iload_n 2 rfl rfl dX10_ring_28 ?_
    refine rr_iconst 0 rfl dX10_ring_29 ?_
    refine rr_iconst 1 rfl dX10_ring_30 ?_
    refine rr_callS (As := [.int w, .int 0, .int 1]) (rest := [.ref 49]) (kc2 := 0) (ks2 := 0) dX10_ring_31 okX10_in lX10_129 rfl (Nat.le_of_ble_eq_true rfl) (Nat.le_of_ble_eq_true rfl) rfl (by omega) (by simp [jj_rk]) (by simp [jj_rk]) ?_
    refine sp_X10_in  ?_
    show jj_R _ _ kc ks (jj_S, 782, (jj_rs h [(49, (upd (h 49) (0) 0))]), g) 34 [(0, .ref 49), (1, .int p), (2, .int w)] [.int (vX10_in w 0 1), .ref 49] Q
    refine rr_if_ne dX10_ring_34 (fun c2 => ?_) (fun c2 => ?_)
    · skip
      refine rr_iconst 0 rfl dX10_ring_41 ?_
      refine rr_iconst 2 rfl dX10_ring_42 ?_
      refine rr_iconst 1 rfl dX10_ring_43 ?_
      refine rr_callV (As := [.int 0, .int 2, .int 1]) (rest := []) (kc2 := 0) (ks2 := 0) dX10_ring_44 okX10_bad lX10_171 lo_49 sh_49 rfl rfl (Nat.le_of_ble_eq_true rfl) (Nat.le_of_ble_eq_true rfl) rfl (by omega) (by simp [jj_rk]) (by simp [jj_rk]) ?_
      refine sp_X10_bad0_21 rfl ?_
      show jj_R _ _ kc ks (jj_S, 782, (jj_rs h [(49, (upd (h 49) (0) 0))]), g) 47 [(0, .ref 49), (1, .int p), (2, .int w)] [.int 0] Q
      refine rr_if_eq dX10_ring_47 (fun _ => ?_) (fun c => absurd (by decide) c)
      refine rr_iload_n 1 rfl rfl dX10_ring_52 ?_
      refine rr_istore_n [(0, .ref 49), (1, .int p), (2, .int w), (3, .int p)] dX10_ring_53 rfl (by decide) rfl ?_
      refine rr_iconst 0 rfl dX10_ring_54 ?_
      refine rr_istore [(0, .ref 49), (1, .int p), (2, .int w), (3, .int p), (4, .int 0)] dX10_ring_55 (by decide) rfl ?_
      refine rr_iconst 0 rfl dX10_ring_57 ?_
      refine rr_istore [(0, .ref 49), (1, .int p), (2, .int w), (3, .int p), (4, .int 0), (5, .int 0)] dX10_ring_58 (by decide) rfl ?_
      refine jj_forx (fun k1 (a1 : Int32 × Int32 × Int32) => (rginv k1 a1.1 a1.2.2) → jj_R _ _ kc ks (jj_S, 782, (jj_rs h [(49, (upd (h 49) (0) 0))]), g) 60 [(0, .ref 49), (1, .int p), (2, .int w), (3, .int a1.1), (4, .int a1.2.1), (5, .int a1.2.2)] [] Q) (fX10_ring_1 (h 497)) 256 (p, 0, 0) (fun (r1_ : Int32 × Int32 × Int32) => jj_R mX10_ring (d + 2) kc ks (jj_S, 782, (jj_rs h [(49, (upd (h 49) (0) 0))]), g) 110 [(0, .ref 49), (1, .int p), (2, .int w), (3, .int r1_.1), (4, .int r1_.2.1), (5, .int r1_.2.2)] [] Q) ?_ ?_ ?_ ⟨Nat.zero_le _, show bn 0 < 256 by decide, Or.inr (jj_pM hn (by assumption))⟩
      · intro k1 hk1 a1 ih1 ix1 hi1
        try dsimp only at ih1 ix1 ⊢
        refine rr_iload_n 3 rfl rfl dX10_ring_60 ?_
        refine rr_iconst (-1) rfl dX10_ring_61 ?_
        refine rr_icmp_eq dX10_ring_62 (fun c3 => ?_) (fun c3 => ?_)
        · skip
          try simp only [(nI_clamp (show k1 < 2 ^ 31 by omega))] at c3
          simpa only [nI_1, (nI_clamp (show k1 < 2 ^ 31 by omega)), fX10_ring_1, if_pos c3] using ix1 (a1.1, a1.2.1, a1.2.2) (by simp only [(nI_clamp (show k1 < 2 ^ 31 by omega)), fX10_ring_1, if_pos c3])
        · skip
          refine rr_iload 5 rfl dX10_ring_65 ?_
          refine rr_iload_n 3 rfl rfl dX10_ring_67 ?_
          refine rr_callS (As := [.int a1.2.2, .int a1.1]) (rest := []) (kc2 := 0) (ks2 := 0) dX10_ring_68 okX10_has lX10_254 rfl (Nat.le_of_ble_eq_true rfl) (Nat.le_of_ble_eq_true rfl) rfl (by omega) (by simp [jj_rk]) (by simp [jj_rk]) ?_
          refine sp_X10_has  ?_
          show jj_R _ _ kc ks (jj_S, 782, (jj_rs h [(49, (upd (h 49) (0) 0))]), g) 71 [(0, .ref 49), (1, .int p), (2, .int w), (3, .int a1.1), (4, .int a1.2.1), (5, .int a1.2.2)] [.int (vX10_has a1.2.2 a1.1)] Q
          refine rr_if_ne dX10_ring_71 (fun c4 => ?_) (fun c4 => ?_)
          · skip
            try simp only [(nI_clamp (show k1 < 2 ^ 31 by omega))] at c3
            try simp only [(nI_clamp (show k1 < 2 ^ 31 by omega))] at c4
            simpa only [nI_1, (nI_clamp (show k1 < 2 ^ 31 by omega)), fX10_ring_1, if_neg c3, if_neg c4] using ix1 (a1.1, a1.2.1, a1.2.2) (by simp only [(nI_clamp (show k1 < 2 ^ 31 by omega)), fX10_ring_1, if_neg c3, if_neg c4])
          · skip
            refine rr_iload 5 rfl dX10_ring_74 ?_
            refine rr_iconst 1 rfl dX10_ring_76 ?_
            refine rr_iload_n 3 rfl rfl dX10_ring_77 ?_
            refine rr_ishl dX10_ring_78 ?_
            refine rr_ior dX10_ring_79 ?_
            refine rr_istore [(0, .ref 49), (1, .int p), (2, .int w), (3, .int a1.1), (4, .int a1.2.1), (5, .int (a1.2.2 ||| (1 <<< (a1.1 &&& 31))))] dX10_ring_80 (by decide) rfl ?_
            refine rr_aload_n 0 rfl rfl dX10_ring_82 ?_
            refine rr_getR dX10_ring_83 fX10_61 lo_49 sh_49 rfl ?_
            refine rr_bipush 24 rfl dX10_ring_86 ?_
            refine rr_iload_n 3 rfl rfl dX10_ring_88 ?_
            refine rr_iadd dX10_ring_89 ?_
            refine rr_iaload dX10_ring_90 lo_497 sh_497 (jj_rowin (n := 8) (o := 24) (rg_in hi1 (by assumption)) (by decide) (by decide)) ?_
            rw [show (jj_rs h [(49, (upd (h 49) (0) 0))]) 497 = h 497 from rfl]
            refine rr_istore_n [(0, .ref 49), (1, .int p), (2, .int w), (3, .int ((h 497) (((24 : Int32) + a1.1) : Int32).toNatClampNeg)), (4, .int a1.2.1), (5, .int (a1.2.2 ||| (1 <<< (a1.1 &&& 31))))] dX10_ring_91 rfl (by decide) rfl ?_
            refine rr_iload 4 rfl dX10_ring_92 ?_
            refine rr_iload_n 3 rfl rfl dX10_ring_94 ?_
            refine rr_iconst (-1) rfl dX10_ring_95 ?_
            refine rr_icmp_ne dX10_ring_96 (fun c5 => ?_) (fun c5 => ?_)
            · skip
              refine rr_iconst 1 rfl dX10_ring_103 ?_
              refine rr_iadd dX10_ring_104 ?_
              refine rr_istore [(0, .ref 49), (1, .int p), (2, .int w), (3, .int ((h 497) (((24 : Int32) + a1.1) : Int32).toNatClampNeg)), (4, .int (a1.2.1 + 1)), (5, .int (a1.2.2 ||| (1 <<< (a1.1 &&& 31))))] dX10_ring_105 (by decide) rfl ?_
              refine rr_goto dX10_ring_107 ?_
              try simp only [(nI_clamp (show k1 < 2 ^ 31 by omega))] at c3
              try simp only [(nI_clamp (show k1 < 2 ^ 31 by omega))] at c4
              try simp only [(nI_clamp (show k1 < 2 ^ 31 by omega))] at c5
              simpa only [nI_1, (nI_clamp (show k1 < 2 ^ 31 by omega)), fX10_ring_1, if_neg c3, if_pos c4, if_neg c5] using ih1 (((h 497) (((24 : Int32) + a1.1) : Int32).toNatClampNeg), (a1.2.1 + 1), (a1.2.2 ||| (1 <<< (a1.1 &&& 31)))) (by simp only [(nI_clamp (show k1 < 2 ^ 31 by omega)), fX10_ring_1, if_neg c3, if_pos c4, if_neg c5]) (rg_step hby hi1 (by assumption) (by assumption))
            · skip
              refine rr_iconst 0 rfl dX10_ring_99 ?_
              refine rr_goto dX10_ring_100 ?_
              refine rr_iadd dX10_ring_104 ?_
              refine rr_istore [(0, .ref 49), (1, .int p), (2, .int w), (3, .int ((h 497) (((24 : Int32) + a1.1) : Int32).toNatClampNeg)), (4, .int (a1.2.1 + 0)), (5, .int (a1.2.2 ||| (1 <<< (a1.1 &&& 31))))] dX10_ring_105 (by decide) rfl ?_
              refine rr_goto dX10_ring_107 ?_
              try simp only [(nI_clamp (show k1 < 2 ^ 31 by omega))] at c3
              try simp only [(nI_clamp (show k1 < 2 ^ 31 by omega))] at c4
              try simp only [(nI_clamp (show k1 < 2 ^ 31 by omega))] at c5
              simpa only [nI_1, (nI_clamp (show k1 < 2 ^ 31 by omega)), fX10_ring_1, if_neg c3, if_pos c4, if_pos c5] using ih1 (((h 497) (((24 : Int32) + a1.1) : Int32).toNatClampNeg), (a1.2.1 + 0), (a1.2.2 ||| (1 <<< (a1.1 &&& 31)))) (by simp only [(nI_clamp (show k1 < 2 ^ 31 by omega)), fX10_ring_1, if_neg c3, if_pos c4, if_pos c5]) (rg_step hby hi1 (by assumption) (by assumption))
      · intro a1 hx1 hi1
        try dsimp only
        refine rr_iload_n 3 rfl rfl dX10_ring_60 ?_
        refine rr_iconst (-1) rfl dX10_ring_61 ?_
        refine rr_icmp_eq dX10_ring_62 (fun c6 => ?_) (fun c6 => ?_)
        · skip
          refine rr_iload_n 2 rfl rfl dX10_ring_110 ?_
          refine rr_if_ne dX10_ring_111 (fun c7 => ?_) (fun c7 => ?_)
          · skip
            refine rr_iload_n 3 rfl rfl dX10_ring_119 ?_
            refine rr_iconst (-1) rfl dX10_ring_120 ?_
            refine rr_icmp_ne dX10_ring_121 (fun c => absurd c6 c) (fun _ => ?_)
            refine rr_iconst 0 rfl dX10_ring_124 ?_
            refine rr_goto dX10_ring_125 ?_
            refine rr_ireturn dX10_ring_129 rfl ?_
            refine jj_Qh (jj_rs_add (B := h) (L := [(49, (upd (h 49) (0) 0))]) (L2 := [(49, (upd (h 49) (0) 0)), (51, (h 51))]) (o := 51) (r := (h 51)) rfl rfl) ?_
            simpa only [vX10_ring, rX10_ring_49, rX10_ring_51, if_neg c1, if_neg c2, hx1, if_neg c7, Sum.elim_inl, Sum.elim_inr] using kq
          · skip
            refine rr_iload 4 rfl dX10_ring_114 ?_
            refine rr_goto dX10_ring_116 ?_
            refine rr_ireturn dX10_ring_129 rfl ?_
            refine jj_Qh (jj_rs_add (B := h) (L := [(49, (upd (h 49) (0) 0))]) (L2 := [(49, (upd (h 49) (0) 0)), (51, (h 51))]) (o := 51) (r := (h 51)) rfl rfl) ?_
            simpa only [vX10_ring, rX10_ring_49, rX10_ring_51, if_neg c1, if_neg c2, hx1, if_pos c7, Sum.elim_inl, Sum.elim_inr] using kq
        · skip
          exact (rg_dead hi1).elim
      · intro r1_ hx1
        try dsimp only
        refine rr_iload_n 2 rfl rfl dX10_ring_110 ?_
        refine rr_if_ne dX10_ring_111 (fun c8 => ?_) (fun c8 => ?_)
        · skip
          refine rr_iload_n 3 rfl rfl dX10_ring_119 ?_
          refine rr_iconst (-1) rfl dX10_ring_120 ?_
          refine rr_icmp_ne dX10_ring_121 (fun c9 => ?_) (fun c9 => ?_)
          · skip
            refine rr_iconst 1 rfl dX10_ring_128 ?_
            refine rr_ireturn dX10_ring_129 rfl ?_
            refine jj_Qh (jj_rs_add (B := h) (L := [(49, (upd (h 49) (0) 0))]) (L2 := [(49, (upd (h 49) (0) 0)), (51, (h 51))]) (o := 51) (r := (h 51)) rfl rfl) ?_
            simpa only [vX10_ring, rX10_ring_49, rX10_ring_51, if_neg c1, if_neg c2, hx1, if_neg c8, if_neg c9, Sum.elim_inl, Sum.elim_inr] using kq
          · skip
            refine rr_iconst 0 rfl dX10_ring_124 ?_
            refine rr_goto dX10_ring_125 ?_
            refine rr_ireturn dX10_ring_129 rfl ?_
            refine jj_Qh (jj_rs_add (B := h) (L := [(49, (upd (h 49) (0) 0))]) (L2 := [(49, (upd (h 49) (0) 0)), (51, (h 51))]) (o := 51) (r := (h 51)) rfl rfl) ?_
            simpa only [vX10_ring, rX10_ring_49, rX10_ring_51, if_neg c1, if_neg c2, hx1, if_neg c8, if_pos c9, Sum.elim_inl, Sum.elim_inr] using kq
        · skip
          refine rr_iload 4 rfl dX10_ring_114 ?_
          refine rr_goto dX10_ring_116 ?_
          refine rr_ireturn dX10_ring_129 rfl ?_
          refine jj_Qh (jj_rs_add (B := h) (L := [(49, (upd (h 49) (0) 0))]) (L2 := [(49, (upd (h 49) (0) 0)), (51, (h 51))]) (o := 51) (r := (h 51)) rfl rfl) ?_
          simpa only [vX10_ring, rX10_ring_49, rX10_ring_51, if_neg c1, if_neg c2, hx1, if_pos c8, Sum.elim_inl, Sum.elim_inr] using kq
    · skip
      refine rr_iconst 1 rfl dX10_ring_37 ?_
      refine rr_goto dX10_ring_38 ?_
      refine rr_iconst 2 rfl dX10_ring_42 ?_
      refine rr_iconst 1 rfl dX10_ring_43 ?_
      refine rr_callV (As := [.int 1, .int 2, .int 1]) (rest := []) (kc2 := 0) (ks2 := 0) dX10_ring_44 okX10_bad lX10_171 lo_49 sh_49 rfl rfl (Nat.le_of_ble_eq_true rfl) (Nat.le_of_ble_eq_true rfl) rfl (by omega) (by simp [jj_rk]) (by simp [jj_rk]) ?_
      refine sp_X10_bad1_21 rfl ?_
      show jj_R _ _ kc ks (jj_S, 782, (jj_rs (jj_rs h [(49, (upd (h 49) (0) 0))]) [(49, (upd (upd (h 49) (0) 0) (0) 2)), (51, (upd (h 51) (1) (((h 51) 1) + 1)))]), g) 47 [(0, .ref 49), (1, .int p), (2, .int w)] [.int 1] Q
      rw [jj_rs_rs (B := h) (L := [(49, (upd (h 49) (0) 0))]) (M := [(49, (upd (upd (h 49) (0) 0) (0) 2)), (51, (upd (h 51) (1) (((h 51) 1) + 1)))]) (L2 := [(49, (upd (upd (h 49) (0) 0) (0) 2)), (51, (upd (h 51) (1) (((h 51) 1) + 1)))]) rfl]
      refine rr_if_eq dX10_ring_47 (fun c => absurd c (by decide)) (fun _ => ?_)
      refine rr_iconst 0 rfl dX10_ring_50 ?_
      refine rr_ireturn dX10_ring_51 rfl ?_
      simpa only [vX10_ring, rX10_ring_49, rX10_ring_51, if_neg c1, if_pos c2] using kq
  · skip
    refine rr_iconst 1 rfl dX10_ring_14 ?_
    refine rr_goto dX10_ring_15 ?_
    refine rr_iconst 1 rfl dX10_ring_19 ?_
    refine rr_iconst 0 rfl dX10_ring_20 ?_
    refine rr_callV (As := [.int 1, .int 1, .int 0]) (rest := []) (kc2 := 0) (ks2 := 0) dX10_ring_21 okX10_bad lX10_171 lo_49 sh_49 rfl rfl (Nat.le_of_ble_eq_true rfl) (Nat.le_of_ble_eq_true rfl) rfl (by omega) (by simp [jj_rk]) (by simp [jj_rk]) ?_
    refine sp_X10_bad1_10 rfl ?_
    show jj_R _ _ kc ks (jj_S, 782, (jj_rs (jj_rs h [(49, (upd (h 49) (0) 0))]) [(49, (upd (upd (h 49) (0) 0) (0) 1)), (51, (upd (h 51) (0) (((h 51) 0) + 1)))]), g) 24 [(0, .ref 49), (1, .int p), (2, .int w)] [.int 1] Q
    rw [jj_rs_rs (B := h) (L := [(49, (upd (h 49) (0) 0))]) (M := [(49, (upd (upd (h 49) (0) 0) (0) 1)), (51, (upd (h 51) (0) (((h 51) 0) + 1)))]) (L2 := [(49, (upd (upd (h 49) (0) 0) (0) 1)), (51, (upd (h 51) (0) (((h 51) 0) + 1)))]) rfl]
    refine rr_if_ne dX10_ring_24 (fun _ => ?_) (fun c => absurd c (by decide))
    refine rr_iconst 0 rfl dX10_ring_50 ?_
    refine rr_ireturn dX10_ring_51 rfl ?_
    simpa only [vX10_ring, rX10_ring_49, rX10_ring_51, if_pos c1] using kq
