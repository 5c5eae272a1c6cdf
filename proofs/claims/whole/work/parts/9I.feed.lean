/-! ===== feed of both ===== -/
def bN (x : Int32) : Nat := bn x % 256
theorem bN_and (x : Int32) : x &&& 255 = nI (bN x) := by
  apply Int32.toBitVec_inj.mp
  show x.toBitVec &&& BitVec.ofNat 32 255 = BitVec.ofNat 32 (bn x % 256)
  apply BitVec.eq_of_toNat_eq
  rw [BitVec.toNat_and, BitVec.toNat_ofNat, BitVec.toNat_ofNat, Nat.mod_eq_of_lt (by decide : 255 < 2 ^ 32), Nat.mod_eq_of_lt (by omega : bn x % 256 < 2 ^ 32)]
  exact Nat.and_two_pow_sub_one_eq_mod _ 8
theorem bN_8 (x : Int32) : x.toInt8 = (nI (bN x)).toInt8 := by
  apply Int8.toBitVec_inj.mp
  rw [Int32.toBitVec_toInt8, Int32.toBitVec_toInt8]
  show x.toBitVec.signExtend 8 = (BitVec.ofNat 32 (bn x % 2 ^ 8)).signExtend 8
  apply BitVec.eq_of_getLsbD_eq
  intro i hi
  rw [BitVec.getLsbD_signExtend, BitVec.getLsbD_signExtend, if_pos (by omega), if_pos (by omega), BitVec.getLsbD_ofNat, Nat.testBit_mod_two_pow]
  show (decide (i < 8) && (bn x).testBit i) = _
  rw [decide_eq_true hi, decide_eq_true (show i < 32 by omega)]
  simp
theorem sb_8 : ∀ c, c < 256 → vp_nar .byte (nI c).toInt8.toInt32 = sb c := by decide +kernel
theorem ad_sb (w s : Int32) : ad_b w s = sb (bN (w >>> (s &&& 31))) := by
  unfold ad_b
  rw [bN_8]
  exact sb_8 _ (Nat.mod_lt _ (by decide))
def sh4 (k : Nat) : Int32 := if k % 4 = 0 then 24 else if k % 4 = 1 then 16 else if k % 4 = 2 then 8 else 0
theorem sh_is : ∀ k, k < 20 → (24 - (8 * (nI k - nI k / 4 * 4))) &&& 31 = sh4 k &&& 31 := by decide +kernel
def wd5 (a b c d e : Int32) (k : Nat) : Int32 := if k < 4 then a else if k < 8 then b else if k < 12 then c else if k < 16 then d else e
def fdB (a b c d e : Int32) (k : Nat) : Nat := bN (wd5 a b c d e k >>> (sh4 k &&& 31))
theorem ad4_at {r : Nat → Int32} {ln : Nat} {w : Int32} : (∀ j, j < ln ∨ ln + 4 ≤ j → ad4 r ln w j = r j) ∧ ∀ k, k < 4 → ∀ q, ad4 r ln w (ln + k) = sb (bN (w >>> (sh4 (4 * q + k) &&& 31))) := by
  unfold ad4
  refine ⟨fun j hj => by rw [jj_une (by omega), jj_une (by omega), jj_une (by omega), jj_une (by omega)], fun k hk q => ?_⟩
  have e : sh4 (4 * q + k) = sh4 k := by unfold sh4; rw [show (4 * q + k) % 4 = k % 4 by omega]
  rw [e]
  rcases (by omega : k = 0 ∨ k = 1 ∨ k = 2 ∨ k = 3) with z | z | z | z
  · subst z; rw [jj_une (by omega), jj_une (by omega), jj_une (by omega), jj_ueq (by omega), ad_sb]; rfl
  · subst z; rw [jj_une (by omega), jj_une (by omega), jj_ueq (by omega), ad_sb]; rfl
  · subst z; rw [jj_une (by omega), jj_ueq (by omega), ad_sb]; rfl
  · subst z; rw [jj_ueq (by omega), ad_sb]; rfl
theorem fdC_at {r : Nat → Int32} {ln : Nat} {a b c d e : Int32} : (∀ j, j < ln ∨ ln + 20 ≤ j → ad4 (ad4 (ad4 (ad4 (ad4 r ln a) (ln + 4) b) (ln + 4 + 4) c) (ln + 4 + 4 + 4) d) (ln + 4 + 4 + 4 + 4) e j = r j) ∧ ∀ k, k < 20 → ad4 (ad4 (ad4 (ad4 (ad4 r ln a) (ln + 4) b) (ln + 4 + 4) c) (ln + 4 + 4 + 4) d) (ln + 4 + 4 + 4 + 4) e (ln + k) = sb (fdB a b c d e k) := by
  refine ⟨fun j hj => by rw [ad4_at.1 j (by omega), ad4_at.1 j (by omega), ad4_at.1 j (by omega), ad4_at.1 j (by omega), ad4_at.1 j (by omega)], fun k hk => ?_⟩
  unfold fdB wd5
  rcases (by omega : k < 4 ∨ (4 ≤ k ∧ k < 8) ∨ (8 ≤ k ∧ k < 12) ∨ (12 ≤ k ∧ k < 16) ∨ 16 ≤ k) with z | z | z | z | z
  · rw [if_pos z, ad4_at.1 _ (by omega), ad4_at.1 _ (by omega), ad4_at.1 _ (by omega), ad4_at.1 _ (by omega), ad4_at.2 k z 0, show 4 * 0 + k = k by omega]
  · rw [if_neg (by omega), if_pos z.2, ad4_at.1 _ (by omega), ad4_at.1 _ (by omega), ad4_at.1 _ (by omega), show ln + k = ln + 4 + (k - 4) by omega, ad4_at.2 (k - 4) (by omega) 1, show 4 * 1 + (k - 4) = k by omega]
  · rw [if_neg (by omega), if_neg (by omega), if_pos z.2, ad4_at.1 _ (by omega), ad4_at.1 _ (by omega), show ln + k = ln + 4 + 4 + (k - 8) by omega, ad4_at.2 (k - 8) (by omega) 2, show 4 * 2 + (k - 8) = k by omega]
  · rw [if_neg (by omega), if_neg (by omega), if_neg (by omega), if_pos z.2, ad4_at.1 _ (by omega), show ln + k = ln + 4 + 4 + 4 + (k - 12) by omega, ad4_at.2 (k - 12) (by omega) 3, show 4 * 3 + (k - 12) = k by omega]
  · rw [if_neg (by omega), if_neg (by omega), if_neg (by omega), if_neg (by omega), show ln + k = ln + 4 + 4 + 4 + 4 + (k - 16) by omega, ad4_at.2 (k - 16) (by omega) 4, show 4 * 4 + (k - 16) = k by omega]
theorem fdM_1 {a b c d e : Int32} {k : Nat} (hk : k < 20) (z : (Nat → Int32) × (Nat → Int32)) : fX10_feed_1 a b c d e k z = (upd z.1 1 (z.1 1 + 1), upd z.2 (z.1 1).toNatClampNeg (nI (fdB a b c d e k))) := by
  unfold fX10_feed_1 fdB wd5
  have l : ∀ q, q < 2 ^ 31 → (nI q ≤ nI k ↔ q ≤ k) := fun q hq => nI_leI hq (by omega)
  have l4 : ((4 : Int32) ≤ nI k) ↔ 4 ≤ k := l 4 (by decide)
  have l8 : ((8 : Int32) ≤ nI k) ↔ 8 ≤ k := l 8 (by decide)
  have l12 : ((12 : Int32) ≤ nI k) ↔ 12 ≤ k := l 12 (by decide)
  have l16 : ((16 : Int32) ≤ nI k) ↔ 16 ≤ k := l 16 (by decide)
  rw [sh_is k hk, bN_and, bN_and, bN_and, bN_and, bN_and]
  rcases (by omega : k < 4 ∨ (4 ≤ k ∧ k < 8) ∨ (8 ≤ k ∧ k < 12) ∨ (12 ≤ k ∧ k < 16) ∨ 16 ≤ k) with q | q | q | q | q
  · rw [if_neg (fun y => absurd (l4.mp y) (by omega)), if_pos q]
  · rw [if_pos (l4.mpr q.1), if_neg (fun y => absurd (l8.mp y) (by omega)), if_neg (by omega), if_pos q.2]
  · rw [if_pos (l4.mpr (by omega)), if_pos (l8.mpr q.1), if_neg (fun y => absurd (l12.mp y) (by omega)), if_neg (by omega), if_neg (by omega), if_pos q.2]
  · rw [if_pos (l4.mpr (by omega)), if_pos (l8.mpr (by omega)), if_pos (l12.mpr q.1), if_neg (fun y => absurd (l16.mp y) (by omega)), if_neg (by omega), if_neg (by omega), if_neg (by omega), if_pos q.2]
  · rw [if_pos (l4.mpr (by omega)), if_pos (l8.mpr (by omega)), if_pos (l12.mpr (by omega)), if_pos (l16.mpr q), if_neg (by omega), if_neg (by omega), if_neg (by omega), if_neg (by omega)]
theorem fdM_at {a b c d e : Int32} {t : Nat} {r49 r50 : Nat → Int32} (h : r49 1 = nI t) (ht : t + 20 ≤ 600) : (jj_fo (fX10_feed_1 a b c d e) 20 (r49, r50)).1 1 = nI (t + 20) ∧ (∀ i, ¬ i = 1 → (jj_fo (fX10_feed_1 a b c d e) 20 (r49, r50)).1 i = r49 i) ∧ (∀ j, j < t ∨ t + 20 ≤ j → (jj_fo (fX10_feed_1 a b c d e) 20 (r49, r50)).2 j = r50 j) ∧ ∀ k, k < 20 → (jj_fo (fX10_feed_1 a b c d e) 20 (r49, r50)).2 (t + k) = nI (fdB a b c d e k) := by
  have key := fo_inv (P := fun n (z : (Nat → Int32) × (Nat → Int32)) => z.1 1 = nI (t + n) ∧ (∀ i, ¬ i = 1 → z.1 i = r49 i) ∧ (∀ j, j < t ∨ t + n ≤ j → z.2 j = r50 j) ∧ ∀ k, k < n → z.2 (t + k) = nI (fdB a b c d e k)) (f := fX10_feed_1 a b c d e) 20 (r49, r50) ⟨h, fun _ _ => rfl, fun _ _ => rfl, fun k hk => absurd hk (by omega)⟩ (fun n z hn ih => by
    obtain ⟨i1, i2, i3, i4⟩ := ih
    rw [fdM_1 hn]
    show upd z.1 1 _ 1 = _ ∧ (∀ i, ¬ i = 1 → upd z.1 1 _ i = _) ∧ (∀ j, _ → upd z.2 _ _ j = _) ∧ ∀ k, k < n + 1 → upd z.2 _ _ (t + k) = _
    rw [i1, nI_clamp (by omega)]
    refine ⟨by rw [jj_ueq rfl, nI_1]; rfl, fun i hi => by rw [jj_une hi]; exact i2 i hi, fun j hj => by rw [jj_une (by omega)]; exact i3 j (by omega), fun k hk => ?_⟩
    by_cases q : k = n
    · rw [jj_ueq (by omega), q]
    · rw [jj_une (by omega)]; exact i4 k (by omega))
  exact key
def hcF (h : hp_) (ln : Nat) (a b c d e : Int32) : hp_ := jj_rs h [(13, (rX9_feed_13 (h 13) (h 14) ln a b c d e)), (14, (rX9_feed_14 (h 13) (h 14) ln a b c d e))]
def hmF (h : hp_) (t : Nat) (a b c d e : Int32) : hp_ := jj_rs h [(49, (rX10_feed_49 (h 49) (h 50) t a b c d e)), (50, (rX10_feed_50 (h 49) (h 50) t a b c d e))]
theorem iv_feed {c : Nat → Nat} {T n m u t : Nat} {L : bL_} {h : hp_} (I : IV c T n m u t L h) (a b c_ d e : Int32) : (∃ c2 T2, IV c2 T2 n m u t L (hmF (hcF h T a b c_ d e) T a b c_ d e)) ∧ hmF (hcF h T a b c_ d e) T a b c_ d e 49 0 = 0 ∧ vX9_feed (h 13) (h 14) T a b c_ d e = vX10_feed (hcF h T a b c_ d e 49) (hcF h T a b c_ d e 50) T a b c_ d e := by
  obtain ⟨⟨t1, t2, t3, t4, t5⟩, ⟨c1, c2, c3, c4⟩, i3, i4, i5, i6, i7⟩ := I
  have K : ∀ x, ¬ x = 13 ∧ ¬ x = 14 ∧ ¬ x = 49 ∧ ¬ x = 50 → hmF (hcF h T a b c_ d e) T a b c_ d e x = h x := fun x q => by
    unfold hmF
    rw [rs_no (P := fun y => y == 49 || y == 50) rfl (by simp only [Bool.or_eq_false_iff, beq_eq_false_iff_ne, ne_eq]; omega)]
    unfold hcF
    rw [rs_no (P := fun y => y == 13 || y == 14) rfl (by simp only [Bool.or_eq_false_iff, beq_eq_false_iff_ne, ne_eq]; omega)]
  have k49 : hmF (hcF h T a b c_ d e) T a b c_ d e 49 = rX10_feed_49 (h 49) (h 50) T a b c_ d e := rfl
  have k50 : hmF (hcF h T a b c_ d e) T a b c_ d e 50 = rX10_feed_50 (h 49) (h 50) T a b c_ d e := rfl
  have k13 : hmF (hcF h T a b c_ d e) T a b c_ d e 13 = rX9_feed_13 (h 13) (h 14) T a b c_ d e := rfl
  have k14 : hmF (hcF h T a b c_ d e) T a b c_ d e 14 = rX9_feed_14 (h 13) (h 14) T a b c_ d e := rfl
  show _ ∧ _ ∧ _ = vX10_feed (h 49) (h 50) T a b c_ d e
  generalize hmF (hcF h T a b c_ d e) T a b c_ d e = k at *
  have e20 : nI T + 20 = nI (T + 20) := nI_add T 20
  unfold rX10_feed_49 at k49
  unfold rX10_feed_50 at k50
  unfold rX9_feed_13 vX5_hasRoom at k13
  unfold rX9_feed_14 vX5_hasRoom at k14
  unfold vX9_feed vX10_feed vX5_hasRoom
  rw [t3, e20] at k13 k14
  rw [e20] at k49 k50
  rw [t3, e20]
  by_cases z : T + 20 ≤ 600
  · have z1 : nI (T + 20) ≤ 600 := (nI_leI (b := 600) (by omega) (by decide)).mpr z
    have z2 : ¬ (600 : Int32) < nI (T + 20) := nI_nlt (a := 600) z (by decide)
    rw [if_pos z1] at k49 k50
    rw [if_neg z2, if_neg (by decide)] at k13 k14
    rw [if_pos z1, if_neg z2, if_neg (by decide)]
    obtain ⟨f1, f2, f3, f4⟩ := fdM_at (a := a) (b := b) (c := c_) (d := d) (e := e) (t := T) (r49 := upd (h 49) 0 0) (r50 := h 50) (by rw [jj_une (by decide)]; exact t4) z
    obtain ⟨g1, g2⟩ := fdC_at (r := h 14) (ln := T) (a := a) (b := b) (c := c_) (d := d) (e := e)
    have F : ∀ i, ¬ i = 0 → ¬ i = 1 → k 49 i = h 49 i := fun i q1 q2 => by rw [k49, f2 i q2, jj_une q1]
    refine ⟨⟨fun j => if T ≤ j ∧ j < T + 20 then fdB a b c_ d e (j - T) else c j, T + 20, ⟨fun j hj => ?_, fun j hj => ?_, by rw [k13, jj_ueq rfl], by rw [k49]; exact f1, z⟩, ⟨?_, ?_, ?_, ?_⟩, iS_of i3 (fun x q => K x (by omega)), iL_of i4 (by rw [K 7 (by omega)]) (F 17 (by decide) (by decide)) (fun x q => K x (by omega)), iN_of i5 (fun x q => K x (by omega)), iB_of i6 (by rw [K 25 (by omega)]) (F 31 (by decide) (by decide)) (fun x q => K x (by omega)), iH_of i7 (F 32 (by decide) (by decide)) (F 34 (by decide) (by decide)) (fun x q => K x (by omega))⟩, ?_, ?_⟩
    · rw [k14]
      by_cases q : T ≤ j ∧ j < T + 20
      · obtain ⟨i, rfl⟩ : ∃ i, j = T + i := ⟨j - T, by omega⟩
        show _ = sb (if _ then _ else _) ∧ (if _ then _ else _) < 256
        rw [if_pos q, g2 i (by omega), Nat.add_sub_cancel_left]
        exact ⟨rfl, Nat.mod_lt _ (by decide)⟩
      · show _ = sb (if _ then _ else _) ∧ (if _ then _ else _) < 256
        rw [if_neg q, g1 j (by omega)]; exact t1 j hj
    · rw [k50]
      by_cases q : T ≤ j ∧ j < T + 20
      · obtain ⟨i, rfl⟩ : ∃ i, j = T + i := ⟨j - T, by omega⟩
        show _ = nI (if _ then _ else _) ∧ (if _ then _ else _) < 256
        rw [if_pos q, f4 i (by omega), Nat.add_sub_cancel_left]
        exact ⟨rfl, Nat.mod_lt _ (by decide)⟩
      · show _ = nI (if _ then _ else _) ∧ (if _ then _ else _) < 256
        rw [if_neg q, f3 j (by omega)]; exact t2 j hj
    · rw [F 3 (by decide) (by decide), k13]; exact c1
    · rw [F 33 (by decide) (by decide), K 0 (by omega)]; exact c2
    · rw [K 51 (by omega), K 0 (by omega)]; exact c3
    · rw [K 51 (by omega), K 0 (by omega)]; exact c4
    · rw [k49, f2 0 (by decide)]; rfl
    · rw [f1]
  · have z1 : ¬ nI (T + 20) ≤ 600 := fun q => z ((nI_leI (b := 600) (by omega) (by decide)).mp q)
    have z2 : (600 : Int32) < nI (T + 20) := nI_lt (a := 600) (by omega) (by omega)
    rw [if_neg z1] at k49 k50
    rw [if_pos z2, if_pos rfl] at k13 k14
    rw [if_neg z1, if_pos z2, if_pos rfl]
    have F : ∀ i, ¬ i = 0 → k 49 i = h 49 i := fun i q1 => by rw [k49, jj_une q1]
    refine ⟨⟨c, T, ⟨by rw [k14]; exact t1, by rw [k50]; exact t2, by rw [k13]; exact t3, by rw [F 1 (by decide)]; exact t4, t5⟩, ⟨?_, ?_, ?_, ?_⟩, iS_of i3 (fun x q => K x (by omega)), iL_of i4 (by rw [K 7 (by omega)]) (F 17 (by decide)) (fun x q => K x (by omega)), iN_of i5 (fun x q => K x (by omega)), iB_of i6 (by rw [K 25 (by omega)]) (F 31 (by decide)) (fun x q => K x (by omega)), iH_of i7 (F 32 (by decide)) (F 34 (by decide)) (fun x q => K x (by omega))⟩, by rw [k49]; rfl, rfl⟩
    · rw [F 3 (by decide), k13]; exact c1
    · rw [F 33 (by decide), K 0 (by omega)]; exact c2
    · rw [K 51 (by omega), K 0 (by omega)]; exact c3
    · rw [K 51 (by omega), K 0 (by omega)]; exact c4
