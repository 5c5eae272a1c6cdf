/-! ===== the law's loop ===== -/
theorem jj_more {M : jj_Mt} {d kc ks kc2 ks2 pc : Nat} {τ : jj_St} {ls : List (Nat × Value)} {st : List Value} {Q : jj_Rs → jj_St → Prop} (h1 : kc ≤ kc2) (h2 : ks ≤ ks2) (k : jj_R M d kc ks τ pc ls st Q) : jj_R M d kc2 ks2 τ pc ls st Q := by
  intro p l e R s m args below meth c H locs cells slots D cs A ad n0 ad0 L q
  exact k p l e R s m args below meth c H locs cells slots D cs A ad n0 ad0 L ⟨q.1, ⟨by have := q.2.1.1; omega, by have := q.2.1.2; omega⟩, q.2.2⟩
theorem a63 (x : Int32) : ∃ j, j < 64 ∧ x &&& 63 = nI j := by
  refine ⟨bn x % 64, Nat.mod_lt _ (by decide), ?_⟩
  apply Int32.toBitVec_inj.mp
  show x.toBitVec &&& BitVec.ofNat 32 63 = BitVec.ofNat 32 (bn x % 64)
  apply BitVec.eq_of_toNat_eq
  rw [BitVec.toNat_and, BitVec.toNat_ofNat, BitVec.toNat_ofNat, Nat.mod_eq_of_lt (by decide : 63 < 2 ^ 32), Nat.mod_eq_of_lt (by omega : bn x % 64 < 2 ^ 32)]
  exact Nat.and_two_pow_sub_one_eq_mod _ 6
theorem neg9 : ∀ len, len < 9 → (nI len - 9 : Int32) < 0 := by decide +kernel
theorem hd_lt {len p : Nat} (hl : len < 2 ^ 31) (hp : p < 2 ^ 31) (h : len < p + 9) : (nI len - 9 : Int32) < nI p := by
  rcases Nat.lt_or_ge len 9 with q | q
  · exact Int32.lt_of_lt_of_le (neg9 len q) (nI_le (a := 0) (Nat.zero_le _) hp)
  · rw [show (nI len - 9 : Int32) = nI (len - 9) from pk_sub (b := 9) q]
    exact nI_lt (by omega) hp
theorem hd_nlt {len p : Nat} (hl : len < 2 ^ 31) (h : p + 9 ≤ len) : ¬ (nI len - 9 : Int32) < nI p := by
  rw [show (nI len - 9 : Int32) = nI (len - 9) from pk_sub (b := 9) (by omega)]
  exact nI_nlt (by omega) (by omega)
theorem nI_tI {j : Nat} (h : j < 2 ^ 31) : (nI j).toInt = (j : Int) := by
  show (Int32.ofNat j).toInt = _
  exact Int32.toInt_ofNat_of_lt h
set_option maxHeartbeats 4000000 in
theorem lw_loop {len d kc ks : Nat} {xs : Nat → Int32} {Q : jj_Rs → jj_St → Prop} (hl : len ≤ 4608) (kq : ∀ h g, Q (.inl (some (.int 1))) (jj_S, 782, h, g)) (f : Nat) : ∀ (p : Nat) (h : hp_) (g : Nat → Nat → Int64), IVx h → p ≤ 4617 → len < p + 9 * f + 9 → jj_R (mLw len xs) (d + 66) (kc + 4 * f) (ks + 24 * f) (jj_S, 782, h, g) 23 [(0, .ref 999998), (1, .ref 0), (2, .ref 49), (3, .ref 781), (4, .int (nI p))] [] Q := by
  induction f with
  | zero =>
    intro p h g I hp hf
    refine rr_iload 4 rfl dL_law__23 ?_
    refine rr_aload_n 0 rfl rfl dL_law__25 ?_
    refine rr_salen (len := len) (xs := xs) rfl dL_law__26 ?_
    refine rr_bipush 9 rfl dL_law__27 ?_
    refine rr_isub dL_law__29 ?_
    refine rr_icmp_gt dL_law__30 (fun c => ?_) (fun c => absurd (hd_lt (by omega) (by omega) (by omega)) c)
    refine rr_iconst 1 rfl dL_law__2814 ?_
    exact rr_nreturn dL_law__2815 rfl rfl (kq _ _)
  | succ f ih =>
    intro p h g I hp hf
    refine rr_iload 4 rfl dL_law__23 ?_
    refine rr_aload_n 0 rfl rfl dL_law__25 ?_
    refine rr_salen (len := len) (xs := xs) rfl dL_law__26 ?_
    refine rr_bipush 9 rfl dL_law__27 ?_
    refine rr_isub dL_law__29 ?_
    refine rr_icmp_gt dL_law__30 (fun c => ?_) (fun c => ?_)
    · refine rr_iconst 1 rfl dL_law__2814 ?_
      exact rr_nreturn dL_law__2815 rfl rfl (kq _ _)
    · have hp9 : p + 9 ≤ len := by
        rcases Nat.lt_or_ge len (p + 9) with q | q
        · exact absurd (hd_lt (by omega) (by omega) q) c
        · exact q
      have hl31 : len < 2 ^ 31 := by omega
      have back : ∀ h2 g2, IVx h2 → jj_R (mLw len xs) (d + 66) (kc + 4 * f) (ks + 24 * f) (jj_S, 782, h2, g2) 2808 [(0, .ref 999998), (1, .ref 0), (2, .ref 49), (3, .ref 781), (4, .int (nI p))] [] Q := fun h2 g2 i2 => by
        refine rr_iinc 4 9 [(0, .ref 999998), (1, .ref 0), (2, .ref 49), (3, .ref 781), (4, .int (nI p + 9))] dL_law__2808 rfl rfl (Nat.le_of_ble_eq_true rfl) rfl ?_
        refine rr_goto dL_law__2811 ?_
        rw [show (nI p + 9 : Int32) = nI (p + 9) from nI_add p 9]
        exact ih (p + 9) h2 g2 i2 (by omega) (by omega)
      refine rr_aload_n 0 rfl rfl dL_law__33 ?_
      refine rr_iload 4 rfl dL_law__34 ?_
      refine rr_siaload (len := len) (xs := xs) rfl dL_law__36 (vp_in_nI (by omega) hl31) ?_
      refine rr_bipush 63 rfl dL_law__37 ?_
      refine rr_iand dL_law__39 ?_
      obtain ⟨j, hj, ej⟩ := a63 (xs (nI p).toNatClampNeg)
      rw [ej]
      rcases (by omega : j = 0 ∨ j = 1 ∨ j = 2 ∨ j = 3 ∨ j = 4 ∨ j = 5 ∨ j = 6 ∨ j = 7 ∨ j = 8 ∨ j = 9 ∨ j = 10 ∨ j = 11 ∨ j = 12 ∨ j = 13 ∨ j = 14 ∨ j = 15 ∨ j = 16 ∨ j = 17 ∨ j = 18 ∨ j = 19 ∨ j = 20 ∨ j = 21 ∨ j = 22 ∨ j = 23 ∨ j = 24 ∨ j = 25 ∨ j = 26 ∨ j = 27 ∨ j = 28 ∨ j = 29 ∨ j = 30 ∨ j = 31 ∨ j = 32 ∨ j = 33 ∨ j = 34 ∨ j = 35 ∨ j = 36 ∨ j = 37 ∨ j = 38 ∨ j = 39 ∨ j = 40 ∨ j = 41 ∨ j = 42 ∨ j = 43 ∨ j = 44 ∨ 45 ≤ j) with rfl | rfl | rfl | rfl | rfl | rfl | rfl | rfl | rfl | rfl | rfl | rfl | rfl | rfl | rfl | rfl | rfl | rfl | rfl | rfl | rfl | rfl | rfl | rfl | rfl | rfl | rfl | rfl | rfl | rfl | rfl | rfl | rfl | rfl | rfl | rfl | rfl | rfl | rfl | rfl | rfl | rfl | rfl | rfl | rfl | j45
      · refine rr_tableIn (tgt := 236) 196 dL_law__40 (by decide) (by decide) rfl (by decide) ?_
        exact ca_feed hl31 hp9 I back
      · refine rr_tableIn (tgt := 309) 269 dL_law__40 (by decide) (by decide) rfl (by decide) ?_
        exact ca_street hl31 hp9 I back
      · refine rr_tableIn (tgt := 365) 325 dL_law__40 (by decide) (by decide) rfl (by decide) ?_
        exact ca_law hl31 hp9 I back
      · refine rr_tableIn (tgt := 421) 381 dL_law__40 (by decide) (by decide) rfl (by decide) ?_
        exact ca_work hl31 hp9 I back
      · refine rr_tableIn (tgt := 477) 437 dL_law__40 (by decide) (by decide) rfl (by decide) ?_
        exact ca_book hl31 hp9 I back
      · refine rr_tableIn (tgt := 533) 493 dL_law__40 (by decide) (by decide) rfl (by decide) ?_
        exact ca_fault hl31 hp9 I back
      · refine rr_tableIn (tgt := 546) 506 dL_law__40 (by decide) (by decide) rfl (by decide) ?_
        exact ca_undo hl31 hp9 I back
      · refine rr_tableIn (tgt := 559) 519 dL_law__40 (by decide) (by decide) rfl (by decide) ?_
        exact ca_told hl31 hp9 I back
      · refine rr_tableIn (tgt := 615) 575 dL_law__40 (by decide) (by decide) rfl (by decide) ?_
        exact ca_person hl31 hp9 I back
      · refine rr_tableIn (tgt := 683) 643 dL_law__40 (by decide) (by decide) rfl (by decide) ?_
        exact ca_hold hl31 hp9 I back
      · refine rr_tableIn (tgt := 763) 723 dL_law__40 (by decide) (by decide) rfl (by decide) ?_
        exact ca_would hl31 hp9 I back
      · refine rr_tableIn (tgt := 909) 869 dL_law__40 (by decide) (by decide) rfl (by decide) ?_
        exact ca_can hl31 hp9 I back
      · refine rr_tableIn (tgt := 984) 944 dL_law__40 (by decide) (by decide) rfl (by decide) ?_
        exact ca_ahead hl31 hp9 I back
      · refine rr_tableIn (tgt := 1052) 1012 dL_law__40 (by decide) (by decide) rfl (by decide) ?_
        exact ca_catches hl31 hp9 I back
      · refine rr_tableIn (tgt := 1108) 1068 dL_law__40 (by decide) (by decide) rfl (by decide) ?_
        exact ca_far hl31 hp9 I back
      · refine rr_tableIn (tgt := 1176) 1136 dL_law__40 (by decide) (by decide) rfl (by decide) ?_
        exact ca_round hl31 hp9 I back
      · refine rr_tableIn (tgt := 1244) 1204 dL_law__40 (by decide) (by decide) rfl (by decide) ?_
        exact ca_kneel hl31 hp9 I back
      · refine rr_tableIn (tgt := 1300) 1260 dL_law__40 (by decide) (by decide) rfl (by decide) ?_
        exact ca_kneels hl31 hp9 I back
      · refine rr_tableIn (tgt := 1356) 1316 dL_law__40 (by decide) (by decide) rfl (by decide) ?_
        exact ca_ring hl31 hp9 I back
      · refine rr_tableIn (tgt := 1424) 1384 dL_law__40 (by decide) (by decide) rfl (by decide) ?_
        exact ca_fits hl31 hp9 I back
      · refine rr_tableIn (tgt := 1480) 1440 dL_law__40 (by decide) (by decide) rfl (by decide) ?_
        exact ca_look hl31 hp9 I back
      · refine rr_tableIn (tgt := 1536) 1496 dL_law__40 (by decide) (by decide) rfl (by decide) ?_
        exact ca_soldier hl31 hp9 I back
      · refine rr_tableIn (tgt := 1616) 1576 dL_law__40 (by decide) (by decide) rfl (by decide) ?_
        exact ca_dry hl31 hp9 I back
      · refine rr_tableIn (tgt := 1707) 1667 dL_law__40 (by decide) (by decide) rfl (by decide) ?_
        exact ca_share hl31 hp9 I back
      · refine rr_tableIn (tgt := 1787) 1747 dL_law__40 (by decide) (by decide) rfl (by decide) ?_
        exact ca_slowest hl31 hp9 I back
      · refine rr_tableIn (tgt := 1843) 1803 dL_law__40 (by decide) (by decide) rfl (by decide) ?_
        exact ca_helpers hl31 hp9 I back
      · refine rr_tableIn (tgt := 1899) 1859 dL_law__40 (by decide) (by decide) rfl (by decide) ?_
        exact ca_tied hl31 hp9 I back
      · refine rr_tableIn (tgt := 1955) 1915 dL_law__40 (by decide) (by decide) rfl (by decide) ?_
        exact ca_within hl31 hp9 I back
      · refine rr_tableIn (tgt := 2011) 1971 dL_law__40 (by decide) (by decide) rfl (by decide) ?_
        exact ca_days hl31 hp9 I back
      · refine rr_tableIn (tgt := 2024) 1984 dL_law__40 (by decide) (by decide) rfl (by decide) ?_
        exact ca_kin hl31 hp9 I back
      · refine rr_tableIn (tgt := 2080) 2040 dL_law__40 (by decide) (by decide) rfl (by decide) ?_
        exact ca_steady hl31 hp9 I back
      · refine rr_tableIn (tgt := 2093) 2053 dL_law__40 (by decide) (by decide) rfl (by decide) ?_
        exact ca_best hl31 hp9 I back
      · refine rr_tableIn (tgt := 2149) 2109 dL_law__40 (by decide) (by decide) rfl (by decide) ?_
        exact ca_gap hl31 hp9 I back
      · refine rr_tableIn (tgt := 2217) 2177 dL_law__40 (by decide) (by decide) rfl (by decide) ?_
        exact ca_nearest hl31 hp9 I back
      · refine rr_tableIn (tgt := 2273) 2233 dL_law__40 (by decide) (by decide) rfl (by decide) ?_
        exact ca_later hl31 hp9 I back
      · refine rr_tableIn (tgt := 2341) 2301 dL_law__40 (by decide) (by decide) rfl (by decide) ?_
        exact ca_loose hl31 hp9 I back
      · refine rr_tableIn (tgt := 2354) 2314 dL_law__40 (by decide) (by decide) rfl (by decide) ?_
        exact ca_farthest hl31 hp9 I back
      · refine rr_tableIn (tgt := 2410) 2370 dL_law__40 (by decide) (by decide) rfl (by decide) ?_
        exact ca_mates hl31 hp9 I back
      · refine rr_tableIn (tgt := 2466) 2426 dL_law__40 (by decide) (by decide) rfl (by decide) ?_
        exact ca_middle hl31 hp9 I back
      · refine rr_tableIn (tgt := 2522) 2482 dL_law__40 (by decide) (by decide) rfl (by decide) ?_
        exact ca_week hl31 hp9 I back
      · refine rr_tableIn (tgt := 2614) 2574 dL_law__40 (by decide) (by decide) rfl (by decide) ?_
        exact ca_span hl31 hp9 I back
      · refine rr_tableIn (tgt := 2732) 2692 dL_law__40 (by decide) (by decide) rfl (by decide) ?_
        exact ca_image hl31 hp9 I back
      · refine rr_tableIn (tgt := 2745) 2705 dL_law__40 (by decide) (by decide) rfl (by decide) ?_
        exact ca_restore hl31 hp9 I back
      · refine rr_tableIn (tgt := 2758) 2718 dL_law__40 (by decide) (by decide) rfl (by decide) ?_
        exact ca_status hl31 hp9 I back
      · refine rr_tableIn (tgt := 2783) 2743 dL_law__40 (by decide) (by decide) rfl (by decide) ?_
        exact ca_count hl31 hp9 I back
      · refine rr_tableOut dL_law__40 (Or.inr (by rw [nI_tI (by omega)]; omega)) (tgt := 2808) (by decide) ?_
        exact jj_more (by omega) (by omega) (back h g I)
