theorem sv_is {c : Nat → Nat} {e a : Nat} (he : e ≤ 600) (hae : a ≤ e) (hF : ∀ k, k < 600 → c k < 256) : (nI (spn isL c e a - a) = 7 ∧ nI (W27 c a (spn isL c e a - a)) = nI (w27 [102, 105, 110, 103, 101, 114]) ∧ (if a + 6 < e then nI (c (a + 6)) else -1) = (115 : Int32)) ↔ wis c e a [102, 105, 110, 103, 101, 114, 115] = true := by
  have hn2 := spn_le (P := isL) (c := c) hae
  have ag := spn_ge (P := isL) (c := c) (e := e) (x := a)
  have hl : ∀ i, i < spn isL c e a - a → isL (c (a + i)) = true := fun i hi => spn_in (x := a) (e := e) (by omega) (by omega)
  have hW := W27_le hl
  have w6 : w27 [102, 105, 110, 103, 101, 114] < 2 ^ 31 := by decide
  have n7 : nI (spn isL c e a - a) = 7 ↔ spn isL c e a - a = 7 := nI_eq (b := 7) (by omega) (by decide)
  unfold wis
  rw [Bool.and_eq_true, Bool.and_eq_true, decide_eq_true_eq, decide_eq_true_eq, wm_iff, n7, nI_eq (by omega) w6]
  have hg : ∀ i, i < 6 → 1 ≤ (fun i => List.getD [102, 105, 110, 103, 101, 114] i 0 - 96) i ∧ (fun i => List.getD [102, 105, 110, 103, 101, 114] i 0 - 96) i ≤ 26 := by decide
  have e6 : spn isL c e a - a = 7 → W27 c a (spn isL c e a - a) = V27 (fun i => c (a + i) - 96) 6 := fun q => by
    rw [q, W27, if_neg (by decide), W27_V 6 (by decide)]
  refine ⟨fun z => ?_, fun z => ?_⟩
  · obtain ⟨z1, z2, z3⟩ := z
    rw [e6 z1] at z2
    have hf : ∀ i, i < 6 → 1 ≤ (fun i => c (a + i) - 96) i ∧ (fun i => c (a + i) - 96) i ≤ 26 := fun i hi => by
      have := let_b (hl i (by omega))
      (try dsimp only)
      omega
    obtain ⟨_, n2⟩ := V27_inj 6 6 hf hg z2
    have ae : a < e := by omega
    have k2 := kd_L ae (hl 0 (by omega))
    refine ⟨k2, by rw [(kd_2 k2).2.2]; exact z1, fun i hi => ?_⟩
    have hi7 : i < 7 := hi
    by_cases q : i = 6
    · rw [q]
      rw [if_pos (by omega), show (115 : Int32) = nI 115 from rfl, nI_eq (by have := hF (a + 6) (by omega); omega) (by decide)] at z3
      exact z3
    · have h3 := n2 i (by omega)
      have h4 := let_b (hl i (by omega))
      rcases (show i = 0 ∨ i = 1 ∨ i = 2 ∨ i = 3 ∨ i = 4 ∨ i = 5 by omega) with rfl | rfl | rfl | rfl | rfl | rfl <;> (simp at h3 ⊢; omega)
  · obtain ⟨z1, z2, z3⟩ := z
    rw [(kd_2 z1).2.2] at z2
    have q : spn isL c e a - a = 7 := z2
    refine ⟨q, ?_, ?_⟩
    · rw [e6 q]
      exact V27_c 6 (fun i hi => by
        have h5 := z3 i (by show i < 7; omega)
        (try dsimp only)
        rw [h5]
        rcases (show i = 0 ∨ i = 1 ∨ i = 2 ∨ i = 3 ∨ i = 4 ∨ i = 5 by omega) with rfl | rfl | rfl | rfl | rfl | rfl <;> rfl)
    · rw [if_pos (by omega), z3 6 (by show 6 < 7; decide)]
      rfl
theorem ts_end {c : Nat → Nat} {e a d kc ks : Nat} {h : Nat → Nat → Int32} {g : Nat → Nat → Int64} {Q : jj_Rs → jj_St → Prop} (he : e ≤ 600) (hs : h 49 2 = nI e) (ha : h 49 4 = nI a) (hF : fedok (h 50) c) (hae : a ≤ e) (hf : h 49 5 = 0) (k1 : wis c e a [102, 105, 110, 103, 101, 114, 115] = true → Q (.inl (some (.int 1))) (jj_S, 782, jj_rs h [(49, upd (h 49) 4 (nI (nx c e a)))], g)) (k2 : ¬ wis c e a [102, 105, 110, 103, 101, 114, 115] = true → Q (.inl (some (.int 0))) (jj_S, 782, h, g)) : jj_R mX10_takesSeven (d + 2) kc ks (jj_S, 782, h, g) 65 [(0, .ref 49), (1, .int (nI (w27 [102, 105, 110, 103, 101, 114]))), (2, .int 19), (3, .int (nI (W27 c a (spn isL c e a - a)))), (4, .int (nI (spn isL c e a - a)))] [] Q := by
  refine rr_aload_n 0 rfl rfl dX10_takesSeven_65 ?_
  refine rr_getI dX10_takesSeven_66 fX10_111 lo_49 sh_49 rfl ?_
  rw [show (h 49) 5 = 0 from hf]
  refine rr_if_ne dX10_takesSeven_69 (fun c => absurd c (by decide)) (fun _ => ?_)
  refine rr_iload 4 rfl dX10_takesSeven_72 ?_
  refine rr_bipush 7 rfl dX10_takesSeven_74 ?_
  refine rr_icmp_ne dX10_takesSeven_76 (fun c1 => ?_) (fun c1 => ?_)
  · skip
    refine rr_iconst 0 rfl dX10_takesSeven_108 ?_
    refine rr_istore [(0, .ref 49), (1, .int (nI (w27 [102, 105, 110, 103, 101, 114]))), (2, .int 19), (3, .int (nI (W27 c a (spn isL c e a - a)))), (4, .int (nI (spn isL c e a - a))), (5, .int 0)] dX10_takesSeven_109 (by decide) rfl ?_
    refine rr_iload 5 rfl dX10_takesSeven_111 ?_
    refine rr_if_eq dX10_takesSeven_113 (fun _ => ?_) (fun c => absurd (by decide) c)
    refine rr_iload 5 rfl dX10_takesSeven_120 ?_
    refine rr_nreturn dX10_takesSeven_122 rfl (by first | rfl | assumption) ?_
    have sv := sv_is (c := c) he hae (fun k hk => (hF k hk).2)
    have b6 : vX10_byteAt (h 49) (h 50) (nI (a + 6)) = if a + 6 < e then nI (c (a + 6)) else -1 := by_at hF he (by omega) hs
    refine k2 (fun w => ?_)
    exact c1 (sv.mpr w).1
  · skip
    refine rr_iload_n 3 rfl rfl dX10_takesSeven_79 ?_
    refine rr_iload_n 1 rfl rfl dX10_takesSeven_80 ?_
    refine rr_icmp_ne dX10_takesSeven_81 (fun c2 => ?_) (fun c2 => ?_)
    · skip
      refine rr_iconst 0 rfl dX10_takesSeven_108 ?_
      refine rr_istore [(0, .ref 49), (1, .int (nI (w27 [102, 105, 110, 103, 101, 114]))), (2, .int 19), (3, .int (nI (W27 c a (spn isL c e a - a)))), (4, .int (nI (spn isL c e a - a))), (5, .int 0)] dX10_takesSeven_109 (by decide) rfl ?_
      refine rr_iload 5 rfl dX10_takesSeven_111 ?_
      refine rr_if_eq dX10_takesSeven_113 (fun _ => ?_) (fun c => absurd (by decide) c)
      refine rr_iload 5 rfl dX10_takesSeven_120 ?_
      refine rr_nreturn dX10_takesSeven_122 rfl (by first | rfl | assumption) ?_
      have sv := sv_is (c := c) he hae (fun k hk => (hF k hk).2)
      have b6 : vX10_byteAt (h 49) (h 50) (nI (a + 6)) = if a + 6 < e then nI (c (a + 6)) else -1 := by_at hF he (by omega) hs
      refine k2 (fun w => ?_)
      exact c2 (sv.mpr w).2.1
    · skip
      refine rr_aload_n 0 rfl rfl dX10_takesSeven_84 ?_
      refine rr_aload_n 0 rfl rfl dX10_takesSeven_85 ?_
      refine rr_getI dX10_takesSeven_86 fX10_104 lo_49 sh_49 rfl ?_
      rw [show (h 49) 4 = (nI a) from ha]
      refine rr_bipush 6 rfl dX10_takesSeven_89 ?_
      refine rr_iadd dX10_takesSeven_91 ?_
      rw [show ((nI a) + 6 : Int32) = (nI (a + 6)) from nI_add (a) (6)]
      refine rr_callV (As := [.int (nI (a + 6))]) (rest := []) (kc2 := 0) (ks2 := 0) dX10_takesSeven_92 okX10_byteAt lX10_107 lo_49 sh_49 rfl rfl (Nat.le_of_ble_eq_true rfl) (Nat.le_of_ble_eq_true rfl) rfl (by omega) (by simp [jj_rk]) (by simp [jj_rk]) ?_
      refine sp_X10_byteAt (by_in he hs (by omega)) ?_
      show jj_R _ _ kc ks (jj_S, 782, h, g) 95 [(0, .ref 49), (1, .int (nI (w27 [102, 105, 110, 103, 101, 114]))), (2, .int 19), (3, .int (nI (W27 c a (spn isL c e a - a)))), (4, .int (nI (spn isL c e a - a)))] [.int (vX10_byteAt (h 49) (h 50) (nI (a + 6)))] Q
      refine rr_bipush 97 rfl dX10_takesSeven_95 ?_
      refine rr_iload_n 2 rfl rfl dX10_takesSeven_97 ?_
      refine rr_iadd dX10_takesSeven_98 ?_
      refine rr_iconst 1 rfl dX10_takesSeven_99 ?_
      refine rr_isub dX10_takesSeven_100 ?_
      refine rr_icmp_ne dX10_takesSeven_101 (fun c3 => ?_) (fun c3 => ?_)
      · skip
        refine rr_iconst 0 rfl dX10_takesSeven_108 ?_
        refine rr_istore [(0, .ref 49), (1, .int (nI (w27 [102, 105, 110, 103, 101, 114]))), (2, .int 19), (3, .int (nI (W27 c a (spn isL c e a - a)))), (4, .int (nI (spn isL c e a - a))), (5, .int 0)] dX10_takesSeven_109 (by decide) rfl ?_
        refine rr_iload 5 rfl dX10_takesSeven_111 ?_
        refine rr_if_eq dX10_takesSeven_113 (fun _ => ?_) (fun c => absurd (by decide) c)
        refine rr_iload 5 rfl dX10_takesSeven_120 ?_
        refine rr_nreturn dX10_takesSeven_122 rfl (by first | rfl | assumption) ?_
        have sv := sv_is (c := c) he hae (fun k hk => (hF k hk).2)
        have b6 : vX10_byteAt (h 49) (h 50) (nI (a + 6)) = if a + 6 < e then nI (c (a + 6)) else -1 := by_at hF he (by omega) hs
        rw [b6] at c3
        refine k2 (fun w => ?_)
        exact c3 (sv.mpr w).2.2
      · skip
        refine rr_iconst 1 rfl dX10_takesSeven_104 ?_
        refine rr_goto dX10_takesSeven_105 ?_
        refine rr_istore [(0, .ref 49), (1, .int (nI (w27 [102, 105, 110, 103, 101, 114]))), (2, .int 19), (3, .int (nI (W27 c a (spn isL c e a - a)))), (4, .int (nI (spn isL c e a - a))), (5, .int 1)] dX10_takesSeven_109 (by decide) rfl ?_
        refine rr_iload 5 rfl dX10_takesSeven_111 ?_
        refine rr_if_eq dX10_takesSeven_113 (fun c => absurd c (by decide)) (fun _ => ?_)
        refine rr_aload_n 0 rfl rfl dX10_takesSeven_116 ?_
        refine rr_callV (As := []) (rest := []) (kc2 := 0) (ks2 := 0) dX10_takesSeven_117 okX10_skipWord lX10_144 lo_49 sh_49 rfl rfl (Nat.le_of_ble_eq_true rfl) (Nat.le_of_ble_eq_true rfl) rfl (by omega) (by simp [jj_rk]) (by simp [jj_rk]) ?_
        refine sp_skipWord he hs ha hF (by omega) ?_
        show jj_R _ _ kc ks (jj_S, 782, (jj_rs h [(49, (upd (h 49) (4) (nI (spn isL c e a))))]), g) 120 [(0, .ref 49), (1, .int (nI (w27 [102, 105, 110, 103, 101, 114]))), (2, .int 19), (3, .int (nI (W27 c a (spn isL c e a - a)))), (4, .int (nI (spn isL c e a - a))), (5, .int 1)] [] Q
        refine rr_iload 5 rfl dX10_takesSeven_120 ?_
        refine rr_nreturn dX10_takesSeven_122 rfl (by first | rfl | assumption) ?_
        have sv := sv_is (c := c) he hae (fun k hk => (hF k hk).2)
        have b6 : vX10_byteAt (h 49) (h 50) (nI (a + 6)) = if a + 6 < e then nI (c (a + 6)) else -1 := by_at hF he (by omega) hs
        rw [b6] at c3
        have w := sv.mp ⟨c1, c2, c3⟩
        have w2 := w
        unfold wis at w2
        rw [Bool.and_eq_true, decide_eq_true_eq] at w2
        rw [← (kd_2 w2.1).2.2]
        exact k1 w
