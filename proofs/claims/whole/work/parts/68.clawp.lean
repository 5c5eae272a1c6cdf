set_option maxHeartbeats 2000000 in
theorem cs_readProductL {c : Nat → Nat} {e o B : Nat} {P : Nat → pC_} (he : e ≤ 150) (hB : 2 ≤ B) (hP : cspec mX4_readUnit B (fun _ => True) P c e o) (f : Nat) : ∀ {D kc ks a t i : Nat} {v : Int32} {L0 F : List (Nat × Nat)} {h0 h : hp_} {g : Nat → Nat → Int64} {Q : jj_Rs → jj_St → Prop}, B + 1 ≤ D → v = nI o → e - a ≤ f → i + (e - a) ≤ 150 → clst c e t 0 (L0 ++ F) h0 a h → (∀ L b h9, plp P (oprod c e) c e f F a = .ok (L, b) → a ≤ b → clst c e t 0 (L0 ++ L) h0 b h9 → Q (.inl (some (.int 1))) (jj_S, 782, h9, g)) → (∀ k p h9, plp P (oprod c e) c e f F a = .error (k, p) → cler h0 k p h9 → Q (.inl (some (.int 0))) (jj_S, 782, h9, g)) → jj_R mX4_readProduct D kc ks (jj_S, 782, h, g) 10 [(0, .ref 7), (1, .ref 13), (2, .int v), (3, .int 1), (4, .int (nI i))] [] Q := by
  have he6 : e ≤ 600 := by omega
  induction f with
  | zero =>
    intro D0 kc ks a t i v L0 F h0 h g Q hD hv hm hi m k1 k2
    obtain ⟨d, rfl⟩ : ∃ d, D0 = d + 3 := ⟨D0 - 3, by omega⟩
    have hl0 := m.2.2.1
    have hae := m.1.2.1.1
    refine rr_iload 4 rfl dX4_readProduct_10 ?_
    refine rr_sipush 150 rfl dX4_readProduct_12 ?_
    refine rr_icmp_ge dX4_readProduct_15 (fun c1 => ?_) (fun c1 => ?_)
    · skip
      have i5 : 150 ≤ i := (nI_leI (a := 150) (by decide) (by omega)).mp c1
      have k0 := kd_end (c := c) (e := e) (a := a)
      have hop : oprod c e a = 0 := by
        unfold oprod
        rw [k0.mpr (by omega)]
        simp
      refine rr_iload_n 3 rfl rfl dX4_readProduct_101 ?_
      refine rr_nreturn dX4_readProduct_102 rfl (by first | rfl | assumption) ?_
      exact k1 F a h (plp_0 hop _) (Nat.le_refl a) m
    · skip
      refine rr_iload_n 3 rfl rfl dX4_readProduct_18 ?_
      refine rr_if_eq dX4_readProduct_19 (fun c => absurd c (by decide)) (fun _ => ?_)
      refine rr_aload_n 1 rfl rfl dX4_readProduct_22 ?_
      refine rr_bipush 42 rfl dX4_readProduct_23 ?_
      refine rr_callV (As := [.int 42]) (rest := []) (kc2 := 0) (ks2 := 0) dX4_readProduct_25 okX5_isSign lX4_67 lo_13 sh_13 rfl rfl (Nat.le_of_ble_eq_true rfl) (Nat.le_of_ble_eq_true rfl) rfl (by omega) (by simp [jj_rk]) (by simp [jj_rk]) ?_
      refine cl_isS (X := 42) (clst_R he) he6 (by decide) m (fun s0 => ?_) (fun s0 => ?_)
      · skip
        have hop : oprod c e a = 4 := by unfold oprod; rw [if_pos s0]
        have ae := kd_in (c := c) (e := e) (a := a) (by rw [s0.1]; decide)
        have an := nt_gt (c := c) ae
        exact absurd ae (by omega)
      · skip
        show jj_R _ _ kc ks (jj_S, 782, h, g) 28 [(0, .ref 7), (1, .ref 13), (2, .int v), (3, .int 1), (4, .int (nI i))] [.int 0] Q
        refine rr_if_eq dX4_readProduct_28 (fun _ => ?_) (fun c => absurd (by decide) c)
        refine rr_aload_n 1 rfl rfl dX4_readProduct_37 ?_
        refine rr_bipush 47 rfl dX4_readProduct_38 ?_
        refine rr_callV (As := [.int 47]) (rest := []) (kc2 := 0) (ks2 := 0) dX4_readProduct_40 okX5_isSign lX4_67 lo_13 sh_13 rfl rfl (Nat.le_of_ble_eq_true rfl) (Nat.le_of_ble_eq_true rfl) rfl (by omega) (by simp [jj_rk]) (by simp [jj_rk]) ?_
        refine cl_isS (X := 47) (clst_R he) he6 (by decide) m (fun s1 => ?_) (fun s1 => ?_)
        · skip
          have hop : oprod c e a = 5 := by unfold oprod; rw [if_neg s0, if_pos s1]
          have ae := kd_in (c := c) (e := e) (a := a) (by rw [s1.1]; decide)
          have an := nt_gt (c := c) ae
          exact absurd ae (by omega)
        · skip
          show jj_R _ _ kc ks (jj_S, 782, h, g) 43 [(0, .ref 7), (1, .ref 13), (2, .int v), (3, .int 1), (4, .int (nI i))] [.int 0] Q
          refine rr_if_eq dX4_readProduct_43 (fun _ => ?_) (fun c => absurd (by decide) c)
          refine rr_aload_n 1 rfl rfl dX4_readProduct_52 ?_
          refine rr_bipush 37 rfl dX4_readProduct_53 ?_
          refine rr_callV (As := [.int 37]) (rest := []) (kc2 := 0) (ks2 := 0) dX4_readProduct_55 okX5_isSign lX4_67 lo_13 sh_13 rfl rfl (Nat.le_of_ble_eq_true rfl) (Nat.le_of_ble_eq_true rfl) rfl (by omega) (by simp [jj_rk]) (by simp [jj_rk]) ?_
          refine cl_isS (X := 37) (clst_R he) he6 (by decide) m (fun s2 => ?_) (fun s2 => ?_)
          · skip
            have hop : oprod c e a = 6 := by unfold oprod; rw [if_neg s0, if_neg s1, if_pos s2]
            have ae := kd_in (c := c) (e := e) (a := a) (by rw [s2.1]; decide)
            have an := nt_gt (c := c) ae
            exact absurd ae (by omega)
          · skip
            have hop : oprod c e a = 0 := by unfold oprod; rw [if_neg s0, if_neg s1, if_neg s2]
            show jj_R _ _ kc ks (jj_S, 782, h, g) 58 [(0, .ref 7), (1, .ref 13), (2, .int v), (3, .int 1), (4, .int (nI i))] [.int 0] Q
            refine rr_if_eq dX4_readProduct_58 (fun _ => ?_) (fun c => absurd (by decide) c)
            refine rr_iconst (-1) rfl dX4_readProduct_67 ?_
            refine rr_istore [(0, .ref 7), (1, .ref 13), (2, .int v), (3, .int 1), (4, .int (nI i)), (5, .int (-1))] dX4_readProduct_68 (by decide) rfl ?_
            refine rr_iload 5 rfl dX4_readProduct_70 ?_
            refine rr_iconst (-1) rfl dX4_readProduct_72 ?_
            refine rr_icmp_ne dX4_readProduct_73 (fun c => absurd c (by decide)) (fun _ => ?_)
            refine rr_iconst 1 rfl dX4_readProduct_76 ?_
            refine rr_nreturn dX4_readProduct_77 rfl (by first | rfl | assumption) ?_
            exact k1 F a h (plp_0 hop _) (Nat.le_refl a) m
  | succ f ih =>
    intro D0 kc ks a t i v L0 F h0 h g Q hD hv hm hi m k1 k2
    obtain ⟨d, rfl⟩ : ∃ d, D0 = d + 3 := ⟨D0 - 3, by omega⟩
    have hl0 := m.2.2.1
    have hae := m.1.2.1.1
    refine rr_iload 4 rfl dX4_readProduct_10 ?_
    refine rr_sipush 150 rfl dX4_readProduct_12 ?_
    refine rr_icmp_ge dX4_readProduct_15 (fun c1 => ?_) (fun c1 => ?_)
    · skip
      have i5 : 150 ≤ i := (nI_leI (a := 150) (by decide) (by omega)).mp c1
      have k0 := kd_end (c := c) (e := e) (a := a)
      have hop : oprod c e a = 0 := by
        unfold oprod
        rw [k0.mpr (by omega)]
        simp
      refine rr_iload_n 3 rfl rfl dX4_readProduct_101 ?_
      refine rr_nreturn dX4_readProduct_102 rfl (by first | rfl | assumption) ?_
      exact k1 F a h (plp_0 hop _) (Nat.le_refl a) m
    · skip
      refine rr_iload_n 3 rfl rfl dX4_readProduct_18 ?_
      refine rr_if_eq dX4_readProduct_19 (fun c => absurd c (by decide)) (fun _ => ?_)
      refine rr_aload_n 1 rfl rfl dX4_readProduct_22 ?_
      refine rr_bipush 42 rfl dX4_readProduct_23 ?_
      refine rr_callV (As := [.int 42]) (rest := []) (kc2 := 0) (ks2 := 0) dX4_readProduct_25 okX5_isSign lX4_67 lo_13 sh_13 rfl rfl (Nat.le_of_ble_eq_true rfl) (Nat.le_of_ble_eq_true rfl) rfl (by omega) (by simp [jj_rk]) (by simp [jj_rk]) ?_
      refine cl_isS (X := 42) (clst_R he) he6 (by decide) m (fun s0 => ?_) (fun s0 => ?_)
      · skip
        have hop : oprod c e a = 4 := by unfold oprod; rw [if_pos s0]
        have ae := kd_in (c := c) (e := e) (a := a) (by rw [s0.1]; decide)
        have an := nt_gt (c := c) ae
        rw [plp_s hop (by decide)] at k1 k2
        show jj_R _ _ kc ks (jj_S, 782, h, g) 28 [(0, .ref 7), (1, .ref 13), (2, .int v), (3, .int 1), (4, .int (nI i))] [.int 1] Q
        refine rr_if_eq dX4_readProduct_28 (fun c => absurd c (by decide)) (fun _ => ?_)
        refine rr_sipush 2003 rfl dX4_readProduct_31 ?_
        refine rr_goto dX4_readProduct_34 ?_
        refine rr_istore [(0, .ref 7), (1, .ref 13), (2, .int v), (3, .int 1), (4, .int (nI i)), (5, .int 2003)] dX4_readProduct_68 (by decide) rfl ?_
        refine rr_iload 5 rfl dX4_readProduct_70 ?_
        refine rr_iconst (-1) rfl dX4_readProduct_72 ?_
        refine rr_icmp_ne dX4_readProduct_73 (fun _ => ?_) (fun c => absurd c (by decide))
        refine rr_aload_n 1 rfl rfl dX4_readProduct_78 ?_
        refine rr_callV (As := []) (rest := []) (kc2 := 0) (ks2 := 0) dX4_readProduct_79 okX5_advance lX4_71 lo_13 sh_13 rfl rfl (Nat.le_of_ble_eq_true rfl) (Nat.le_of_ble_eq_true rfl) rfl (by omega) (by simp [jj_rk]) (by simp [jj_rk]) ?_
        refine cl_adv (clst_R he) he6 m (by omega) (fun h m => ?_)
        show jj_R _ _ kc ks (jj_S, 782, h, g) 82 [(0, .ref 7), (1, .ref 13), (2, .int v), (3, .int 1), (4, .int (nI i)), (5, .int 2003)] [] Q
        refine rr_aload_n 0 rfl rfl dX4_readProduct_82 ?_
        refine rr_aload_n 1 rfl rfl dX4_readProduct_83 ?_
        refine rr_iload_n 2 rfl rfl dX4_readProduct_84 ?_
        refine rr_callV (As := [.ref 13, .int v]) (rest := []) (kc2 := 0) (ks2 := 0) dX4_readProduct_85 okX4_readUnit lX4_78 lo_7 sh_7 rfl rfl (Nat.le_of_ble_eq_true rfl) (Nat.le_of_ble_eq_true rfl) rfl (by omega) (by simp [jj_rk]) (by simp [jj_rk]) ?_
        refine hP (by omega) hv trivial (clst_t (t2 := t + 1) (s2 := 0) m (by omega)) (fun L2 b2 h e1 hb2 m => ?_) (fun k p h e1 m => ?_)
        · skip
          rw [pb_ok e1] at k1 k2
          show jj_R _ _ kc ks (jj_S, 782, h, g) 88 [(0, .ref 7), (1, .ref 13), (2, .int v), (3, .int 1), (4, .int (nI i)), (5, .int 2003)] [.int 1] Q
          refine rr_istore_n [(0, .ref 7), (1, .ref 13), (2, .int v), (3, .int 1), (4, .int (nI i)), (5, .int 2003)] dX4_readProduct_88 rfl (by decide) rfl ?_
          refine rr_aload_n 0 rfl rfl dX4_readProduct_89 ?_
          refine rr_iload 5 rfl dX4_readProduct_90 ?_
          refine rr_callV (As := [.int 2003]) (rest := []) (kc2 := 0) (ks2 := 0) dX4_readProduct_92 okX4_addCell lX4_74 lo_7 sh_7 rfl rfl (Nat.le_of_ble_eq_true rfl) (Nat.le_of_ble_eq_true rfl) rfl (by omega) (by simp [jj_rk]) (by simp [jj_rk]) ?_
          have hl5 := m.2.2.1
          have ht5 := m.1.2.1.1
          refine cl_add (t2 := t) (s2 := 0) (z := (4, 0)) m (by omega) rfl (by omega) (fun h m => ?_)
          show jj_R _ _ kc ks (jj_S, 782, h, g) 95 [(0, .ref 7), (1, .ref 13), (2, .int v), (3, .int 1), (4, .int (nI i)), (5, .int 2003)] [] Q
          refine rr_iinc 4 1 [(0, .ref 7), (1, .ref 13), (2, .int v), (3, .int 1), (4, .int ((nI i) + 1)), (5, .int 2003)] dX4_readProduct_95 rfl rfl (by decide) rfl ?_
          refine rr_goto dX4_readProduct_98 ?_
          refine rr_drop (ls := [(0, .ref 7), (1, .ref 13), (2, .int v), (3, .int 1), (4, .int ((nI i) + 1))]) [0, 1, 2, 3, 4] rfl ?_
          rw [nI_1]
          have m9 : clst c e t 0 (L0 ++ (F ++ L2 ++ [(4, 0)])) h0 b2 h := by simpa only [List.append_assoc] using m
          refine ih (F := F ++ L2 ++ [(4, 0)]) hD hv (by omega) (by omega) m9 (fun L b h9 q1 q2 q3 => k1 L b h9 q1 (by omega) q3) (fun k p h9 q1 q2 => k2 k p h9 q1 q2)
        · skip
          rw [pb_er e1] at k2
          show jj_R _ _ kc ks (jj_S, 782, h, g) 88 [(0, .ref 7), (1, .ref 13), (2, .int v), (3, .int 1), (4, .int (nI i)), (5, .int 2003)] [.int 0] Q
          refine rr_istore_n [(0, .ref 7), (1, .ref 13), (2, .int v), (3, .int 0), (4, .int (nI i)), (5, .int 2003)] dX4_readProduct_88 rfl (by decide) rfl ?_
          refine rr_aload_n 0 rfl rfl dX4_readProduct_89 ?_
          refine rr_iload 5 rfl dX4_readProduct_90 ?_
          refine rr_callV (As := [.int 2003]) (rest := []) (kc2 := 0) (ks2 := 0) dX4_readProduct_92 okX4_addCell lX4_74 lo_7 sh_7 rfl rfl (Nat.le_of_ble_eq_true rfl) (Nat.le_of_ble_eq_true rfl) rfl (by omega) (by simp [jj_rk]) (by simp [jj_rk]) ?_
          refine cl_adde m (fun h m => ?_)
          show jj_R _ _ kc ks (jj_S, 782, h, g) 95 [(0, .ref 7), (1, .ref 13), (2, .int v), (3, .int 0), (4, .int (nI i)), (5, .int 2003)] [] Q
          refine rr_iinc 4 1 [(0, .ref 7), (1, .ref 13), (2, .int v), (3, .int 0), (4, .int ((nI i) + 1)), (5, .int 2003)] dX4_readProduct_95 rfl rfl (by decide) rfl ?_
          refine rr_goto dX4_readProduct_98 ?_
          refine rr_iload 4 rfl dX4_readProduct_10 ?_
          refine rr_sipush 150 rfl dX4_readProduct_12 ?_
          refine rr_icmp_ge dX4_readProduct_15 (fun c2 => ?_) (fun c2 => ?_)
          · skip
            refine rr_iload_n 3 rfl rfl dX4_readProduct_101 ?_
            refine rr_nreturn dX4_readProduct_102 rfl (by first | rfl | assumption) ?_
            exact k2 k p _ rfl m
          · skip
            refine rr_iload_n 3 rfl rfl dX4_readProduct_18 ?_
            refine rr_if_eq dX4_readProduct_19 (fun _ => ?_) (fun c => absurd (by decide) c)
            refine rr_iload_n 3 rfl rfl dX4_readProduct_101 ?_
            refine rr_nreturn dX4_readProduct_102 rfl (by first | rfl | assumption) ?_
            exact k2 k p _ rfl m
      · skip
        show jj_R _ _ kc ks (jj_S, 782, h, g) 28 [(0, .ref 7), (1, .ref 13), (2, .int v), (3, .int 1), (4, .int (nI i))] [.int 0] Q
        refine rr_if_eq dX4_readProduct_28 (fun _ => ?_) (fun c => absurd (by decide) c)
        refine rr_aload_n 1 rfl rfl dX4_readProduct_37 ?_
        refine rr_bipush 47 rfl dX4_readProduct_38 ?_
        refine rr_callV (As := [.int 47]) (rest := []) (kc2 := 0) (ks2 := 0) dX4_readProduct_40 okX5_isSign lX4_67 lo_13 sh_13 rfl rfl (Nat.le_of_ble_eq_true rfl) (Nat.le_of_ble_eq_true rfl) rfl (by omega) (by simp [jj_rk]) (by simp [jj_rk]) ?_
        refine cl_isS (X := 47) (clst_R he) he6 (by decide) m (fun s1 => ?_) (fun s1 => ?_)
        · skip
          have hop : oprod c e a = 5 := by unfold oprod; rw [if_neg s0, if_pos s1]
          have ae := kd_in (c := c) (e := e) (a := a) (by rw [s1.1]; decide)
          have an := nt_gt (c := c) ae
          rw [plp_s hop (by decide)] at k1 k2
          show jj_R _ _ kc ks (jj_S, 782, h, g) 43 [(0, .ref 7), (1, .ref 13), (2, .int v), (3, .int 1), (4, .int (nI i))] [.int 1] Q
          refine rr_if_eq dX4_readProduct_43 (fun c => absurd c (by decide)) (fun _ => ?_)
          refine rr_sipush 2004 rfl dX4_readProduct_46 ?_
          refine rr_goto dX4_readProduct_49 ?_
          refine rr_istore [(0, .ref 7), (1, .ref 13), (2, .int v), (3, .int 1), (4, .int (nI i)), (5, .int 2004)] dX4_readProduct_68 (by decide) rfl ?_
          refine rr_iload 5 rfl dX4_readProduct_70 ?_
          refine rr_iconst (-1) rfl dX4_readProduct_72 ?_
          refine rr_icmp_ne dX4_readProduct_73 (fun _ => ?_) (fun c => absurd c (by decide))
          refine rr_aload_n 1 rfl rfl dX4_readProduct_78 ?_
          refine rr_callV (As := []) (rest := []) (kc2 := 0) (ks2 := 0) dX4_readProduct_79 okX5_advance lX4_71 lo_13 sh_13 rfl rfl (Nat.le_of_ble_eq_true rfl) (Nat.le_of_ble_eq_true rfl) rfl (by omega) (by simp [jj_rk]) (by simp [jj_rk]) ?_
          refine cl_adv (clst_R he) he6 m (by omega) (fun h m => ?_)
          show jj_R _ _ kc ks (jj_S, 782, h, g) 82 [(0, .ref 7), (1, .ref 13), (2, .int v), (3, .int 1), (4, .int (nI i)), (5, .int 2004)] [] Q
          refine rr_aload_n 0 rfl rfl dX4_readProduct_82 ?_
          refine rr_aload_n 1 rfl rfl dX4_readProduct_83 ?_
          refine rr_iload_n 2 rfl rfl dX4_readProduct_84 ?_
          refine rr_callV (As := [.ref 13, .int v]) (rest := []) (kc2 := 0) (ks2 := 0) dX4_readProduct_85 okX4_readUnit lX4_78 lo_7 sh_7 rfl rfl (Nat.le_of_ble_eq_true rfl) (Nat.le_of_ble_eq_true rfl) rfl (by omega) (by simp [jj_rk]) (by simp [jj_rk]) ?_
          refine hP (by omega) hv trivial (clst_t (t2 := t + 1) (s2 := 0) m (by omega)) (fun L2 b2 h e1 hb2 m => ?_) (fun k p h e1 m => ?_)
          · skip
            rw [pb_ok e1] at k1 k2
            show jj_R _ _ kc ks (jj_S, 782, h, g) 88 [(0, .ref 7), (1, .ref 13), (2, .int v), (3, .int 1), (4, .int (nI i)), (5, .int 2004)] [.int 1] Q
            refine rr_istore_n [(0, .ref 7), (1, .ref 13), (2, .int v), (3, .int 1), (4, .int (nI i)), (5, .int 2004)] dX4_readProduct_88 rfl (by decide) rfl ?_
            refine rr_aload_n 0 rfl rfl dX4_readProduct_89 ?_
            refine rr_iload 5 rfl dX4_readProduct_90 ?_
            refine rr_callV (As := [.int 2004]) (rest := []) (kc2 := 0) (ks2 := 0) dX4_readProduct_92 okX4_addCell lX4_74 lo_7 sh_7 rfl rfl (Nat.le_of_ble_eq_true rfl) (Nat.le_of_ble_eq_true rfl) rfl (by omega) (by simp [jj_rk]) (by simp [jj_rk]) ?_
            have hl5 := m.2.2.1
            have ht5 := m.1.2.1.1
            refine cl_add (t2 := t) (s2 := 0) (z := (5, 0)) m (by omega) rfl (by omega) (fun h m => ?_)
            show jj_R _ _ kc ks (jj_S, 782, h, g) 95 [(0, .ref 7), (1, .ref 13), (2, .int v), (3, .int 1), (4, .int (nI i)), (5, .int 2004)] [] Q
            refine rr_iinc 4 1 [(0, .ref 7), (1, .ref 13), (2, .int v), (3, .int 1), (4, .int ((nI i) + 1)), (5, .int 2004)] dX4_readProduct_95 rfl rfl (by decide) rfl ?_
            refine rr_goto dX4_readProduct_98 ?_
            refine rr_drop (ls := [(0, .ref 7), (1, .ref 13), (2, .int v), (3, .int 1), (4, .int ((nI i) + 1))]) [0, 1, 2, 3, 4] rfl ?_
            rw [nI_1]
            have m9 : clst c e t 0 (L0 ++ (F ++ L2 ++ [(5, 0)])) h0 b2 h := by simpa only [List.append_assoc] using m
            refine ih (F := F ++ L2 ++ [(5, 0)]) hD hv (by omega) (by omega) m9 (fun L b h9 q1 q2 q3 => k1 L b h9 q1 (by omega) q3) (fun k p h9 q1 q2 => k2 k p h9 q1 q2)
          · skip
            rw [pb_er e1] at k2
            show jj_R _ _ kc ks (jj_S, 782, h, g) 88 [(0, .ref 7), (1, .ref 13), (2, .int v), (3, .int 1), (4, .int (nI i)), (5, .int 2004)] [.int 0] Q
            refine rr_istore_n [(0, .ref 7), (1, .ref 13), (2, .int v), (3, .int 0), (4, .int (nI i)), (5, .int 2004)] dX4_readProduct_88 rfl (by decide) rfl ?_
            refine rr_aload_n 0 rfl rfl dX4_readProduct_89 ?_
            refine rr_iload 5 rfl dX4_readProduct_90 ?_
            refine rr_callV (As := [.int 2004]) (rest := []) (kc2 := 0) (ks2 := 0) dX4_readProduct_92 okX4_addCell lX4_74 lo_7 sh_7 rfl rfl (Nat.le_of_ble_eq_true rfl) (Nat.le_of_ble_eq_true rfl) rfl (by omega) (by simp [jj_rk]) (by simp [jj_rk]) ?_
            refine cl_adde m (fun h m => ?_)
            show jj_R _ _ kc ks (jj_S, 782, h, g) 95 [(0, .ref 7), (1, .ref 13), (2, .int v), (3, .int 0), (4, .int (nI i)), (5, .int 2004)] [] Q
            refine rr_iinc 4 1 [(0, .ref 7), (1, .ref 13), (2, .int v), (3, .int 0), (4, .int ((nI i) + 1)), (5, .int 2004)] dX4_readProduct_95 rfl rfl (by decide) rfl ?_
            refine rr_goto dX4_readProduct_98 ?_
            refine rr_iload 4 rfl dX4_readProduct_10 ?_
            refine rr_sipush 150 rfl dX4_readProduct_12 ?_
            refine rr_icmp_ge dX4_readProduct_15 (fun c3 => ?_) (fun c3 => ?_)
            · skip
              refine rr_iload_n 3 rfl rfl dX4_readProduct_101 ?_
              refine rr_nreturn dX4_readProduct_102 rfl (by first | rfl | assumption) ?_
              exact k2 k p _ rfl m
            · skip
              refine rr_iload_n 3 rfl rfl dX4_readProduct_18 ?_
              refine rr_if_eq dX4_readProduct_19 (fun _ => ?_) (fun c => absurd (by decide) c)
              refine rr_iload_n 3 rfl rfl dX4_readProduct_101 ?_
              refine rr_nreturn dX4_readProduct_102 rfl (by first | rfl | assumption) ?_
              exact k2 k p _ rfl m
        · skip
          show jj_R _ _ kc ks (jj_S, 782, h, g) 43 [(0, .ref 7), (1, .ref 13), (2, .int v), (3, .int 1), (4, .int (nI i))] [.int 0] Q
          refine rr_if_eq dX4_readProduct_43 (fun _ => ?_) (fun c => absurd (by decide) c)
          refine rr_aload_n 1 rfl rfl dX4_readProduct_52 ?_
          refine rr_bipush 37 rfl dX4_readProduct_53 ?_
          refine rr_callV (As := [.int 37]) (rest := []) (kc2 := 0) (ks2 := 0) dX4_readProduct_55 okX5_isSign lX4_67 lo_13 sh_13 rfl rfl (Nat.le_of_ble_eq_true rfl) (Nat.le_of_ble_eq_true rfl) rfl (by omega) (by simp [jj_rk]) (by simp [jj_rk]) ?_
          refine cl_isS (X := 37) (clst_R he) he6 (by decide) m (fun s2 => ?_) (fun s2 => ?_)
          · skip
            have hop : oprod c e a = 6 := by unfold oprod; rw [if_neg s0, if_neg s1, if_pos s2]
            have ae := kd_in (c := c) (e := e) (a := a) (by rw [s2.1]; decide)
            have an := nt_gt (c := c) ae
            rw [plp_s hop (by decide)] at k1 k2
            show jj_R _ _ kc ks (jj_S, 782, h, g) 58 [(0, .ref 7), (1, .ref 13), (2, .int v), (3, .int 1), (4, .int (nI i))] [.int 1] Q
            refine rr_if_eq dX4_readProduct_58 (fun c => absurd c (by decide)) (fun _ => ?_)
            refine rr_sipush 2005 rfl dX4_readProduct_61 ?_
            refine rr_goto dX4_readProduct_64 ?_
            refine rr_istore [(0, .ref 7), (1, .ref 13), (2, .int v), (3, .int 1), (4, .int (nI i)), (5, .int 2005)] dX4_readProduct_68 (by decide) rfl ?_
            refine rr_iload 5 rfl dX4_readProduct_70 ?_
            refine rr_iconst (-1) rfl dX4_readProduct_72 ?_
            refine rr_icmp_ne dX4_readProduct_73 (fun _ => ?_) (fun c => absurd c (by decide))
            refine rr_aload_n 1 rfl rfl dX4_readProduct_78 ?_
            refine rr_callV (As := []) (rest := []) (kc2 := 0) (ks2 := 0) dX4_readProduct_79 okX5_advance lX4_71 lo_13 sh_13 rfl rfl (Nat.le_of_ble_eq_true rfl) (Nat.le_of_ble_eq_true rfl) rfl (by omega) (by simp [jj_rk]) (by simp [jj_rk]) ?_
            refine cl_adv (clst_R he) he6 m (by omega) (fun h m => ?_)
            show jj_R _ _ kc ks (jj_S, 782, h, g) 82 [(0, .ref 7), (1, .ref 13), (2, .int v), (3, .int 1), (4, .int (nI i)), (5, .int 2005)] [] Q
            refine rr_aload_n 0 rfl rfl dX4_readProduct_82 ?_
            refine rr_aload_n 1 rfl rfl dX4_readProduct_83 ?_
            refine rr_iload_n 2 rfl rfl dX4_readProduct_84 ?_
            refine rr_callV (As := [.ref 13, .int v]) (rest := []) (kc2 := 0) (ks2 := 0) dX4_readProduct_85 okX4_readUnit lX4_78 lo_7 sh_7 rfl rfl (Nat.le_of_ble_eq_true rfl) (Nat.le_of_ble_eq_true rfl) rfl (by omega) (by simp [jj_rk]) (by simp [jj_rk]) ?_
            refine hP (by omega) hv trivial (clst_t (t2 := t + 1) (s2 := 0) m (by omega)) (fun L2 b2 h e1 hb2 m => ?_) (fun k p h e1 m => ?_)
            · skip
              rw [pb_ok e1] at k1 k2
              show jj_R _ _ kc ks (jj_S, 782, h, g) 88 [(0, .ref 7), (1, .ref 13), (2, .int v), (3, .int 1), (4, .int (nI i)), (5, .int 2005)] [.int 1] Q
              refine rr_istore_n [(0, .ref 7), (1, .ref 13), (2, .int v), (3, .int 1), (4, .int (nI i)), (5, .int 2005)] dX4_readProduct_88 rfl (by decide) rfl ?_
              refine rr_aload_n 0 rfl rfl dX4_readProduct_89 ?_
              refine rr_iload 5 rfl dX4_readProduct_90 ?_
              refine rr_callV (As := [.int 2005]) (rest := []) (kc2 := 0) (ks2 := 0) dX4_readProduct_92 okX4_addCell lX4_74 lo_7 sh_7 rfl rfl (Nat.le_of_ble_eq_true rfl) (Nat.le_of_ble_eq_true rfl) rfl (by omega) (by simp [jj_rk]) (by simp [jj_rk]) ?_
              have hl5 := m.2.2.1
              have ht5 := m.1.2.1.1
              refine cl_add (t2 := t) (s2 := 0) (z := (6, 0)) m (by omega) rfl (by omega) (fun h m => ?_)
              show jj_R _ _ kc ks (jj_S, 782, h, g) 95 [(0, .ref 7), (1, .ref 13), (2, .int v), (3, .int 1), (4, .int (nI i)), (5, .int 2005)] [] Q
              refine rr_iinc 4 1 [(0, .ref 7), (1, .ref 13), (2, .int v), (3, .int 1), (4, .int ((nI i) + 1)), (5, .int 2005)] dX4_readProduct_95 rfl rfl (by decide) rfl ?_
              refine rr_goto dX4_readProduct_98 ?_
              refine rr_drop (ls := [(0, .ref 7), (1, .ref 13), (2, .int v), (3, .int 1), (4, .int ((nI i) + 1))]) [0, 1, 2, 3, 4] rfl ?_
              rw [nI_1]
              have m9 : clst c e t 0 (L0 ++ (F ++ L2 ++ [(6, 0)])) h0 b2 h := by simpa only [List.append_assoc] using m
              refine ih (F := F ++ L2 ++ [(6, 0)]) hD hv (by omega) (by omega) m9 (fun L b h9 q1 q2 q3 => k1 L b h9 q1 (by omega) q3) (fun k p h9 q1 q2 => k2 k p h9 q1 q2)
            · skip
              rw [pb_er e1] at k2
              show jj_R _ _ kc ks (jj_S, 782, h, g) 88 [(0, .ref 7), (1, .ref 13), (2, .int v), (3, .int 1), (4, .int (nI i)), (5, .int 2005)] [.int 0] Q
              refine rr_istore_n [(0, .ref 7), (1, .ref 13), (2, .int v), (3, .int 0), (4, .int (nI i)), (5, .int 2005)] dX4_readProduct_88 rfl (by decide) rfl ?_
              refine rr_aload_n 0 rfl rfl dX4_readProduct_89 ?_
              refine rr_iload 5 rfl dX4_readProduct_90 ?_
              refine rr_callV (As := [.int 2005]) (rest := []) (kc2 := 0) (ks2 := 0) dX4_readProduct_92 okX4_addCell lX4_74 lo_7 sh_7 rfl rfl (Nat.le_of_ble_eq_true rfl) (Nat.le_of_ble_eq_true rfl) rfl (by omega) (by simp [jj_rk]) (by simp [jj_rk]) ?_
              refine cl_adde m (fun h m => ?_)
              show jj_R _ _ kc ks (jj_S, 782, h, g) 95 [(0, .ref 7), (1, .ref 13), (2, .int v), (3, .int 0), (4, .int (nI i)), (5, .int 2005)] [] Q
              refine rr_iinc 4 1 [(0, .ref 7), (1, .ref 13), (2, .int v), (3, .int 0), (4, .int ((nI i) + 1)), (5, .int 2005)] dX4_readProduct_95 rfl rfl (by decide) rfl ?_
              refine rr_goto dX4_readProduct_98 ?_
              refine rr_iload 4 rfl dX4_readProduct_10 ?_
              refine rr_sipush 150 rfl dX4_readProduct_12 ?_
              refine rr_icmp_ge dX4_readProduct_15 (fun c4 => ?_) (fun c4 => ?_)
              · skip
                refine rr_iload_n 3 rfl rfl dX4_readProduct_101 ?_
                refine rr_nreturn dX4_readProduct_102 rfl (by first | rfl | assumption) ?_
                exact k2 k p _ rfl m
              · skip
                refine rr_iload_n 3 rfl rfl dX4_readProduct_18 ?_
                refine rr_if_eq dX4_readProduct_19 (fun _ => ?_) (fun c => absurd (by decide) c)
                refine rr_iload_n 3 rfl rfl dX4_readProduct_101 ?_
                refine rr_nreturn dX4_readProduct_102 rfl (by first | rfl | assumption) ?_
                exact k2 k p _ rfl m
          · skip
            have hop : oprod c e a = 0 := by unfold oprod; rw [if_neg s0, if_neg s1, if_neg s2]
            show jj_R _ _ kc ks (jj_S, 782, h, g) 58 [(0, .ref 7), (1, .ref 13), (2, .int v), (3, .int 1), (4, .int (nI i))] [.int 0] Q
            refine rr_if_eq dX4_readProduct_58 (fun _ => ?_) (fun c => absurd (by decide) c)
            refine rr_iconst (-1) rfl dX4_readProduct_67 ?_
            refine rr_istore [(0, .ref 7), (1, .ref 13), (2, .int v), (3, .int 1), (4, .int (nI i)), (5, .int (-1))] dX4_readProduct_68 (by decide) rfl ?_
            refine rr_iload 5 rfl dX4_readProduct_70 ?_
            refine rr_iconst (-1) rfl dX4_readProduct_72 ?_
            refine rr_icmp_ne dX4_readProduct_73 (fun c => absurd c (by decide)) (fun _ => ?_)
            refine rr_iconst 1 rfl dX4_readProduct_76 ?_
            refine rr_nreturn dX4_readProduct_77 rfl (by first | rfl | assumption) ?_
            exact k1 F a h (plp_0 hop _) (Nat.le_refl a) m
set_option maxHeartbeats 2000000 in
theorem cs_readProduct {c : Nat → Nat} {e o B : Nat} {P : Nat → pC_} (he : e ≤ 150) (hB : 2 ≤ B) (hP : cspec mX4_readUnit B (fun _ => True) P c e o) : cspec mX4_readProduct (B + 1) (fun _ => True) (fun a => pb (P a) (fun z => plp P (oprod c e) c e e z.1 z.2)) c e o := by
  intro D kc ks a t v L0 h0 h g Q hD hv _ m k1 k2
  obtain ⟨d, rfl⟩ : ∃ d, D = d + 3 := ⟨D - 3, by omega⟩
  dsimp only at k1 k2
  refine rr_aload_n 0 rfl rfl dX4_readProduct_0 ?_
  refine rr_aload_n 1 rfl rfl dX4_readProduct_1 ?_
  refine rr_iload_n 2 rfl rfl dX4_readProduct_2 ?_
  refine rr_callV (As := [.ref 13, .int v]) (rest := []) (kc2 := 0) (ks2 := 0) dX4_readProduct_3 okX4_readUnit lX4_78 lo_7 sh_7 rfl rfl (Nat.le_of_ble_eq_true rfl) (Nat.le_of_ble_eq_true rfl) rfl (by omega) (by simp [jj_rk]) (by simp [jj_rk]) ?_
  refine hP (by omega) hv trivial m (fun L1 b1 h e1 hb1 m => ?_) (fun k p h e1 m => ?_)
  · skip
    have k1b : pb (P a) (fun z => plp P (oprod c e) c e e z.1 z.2) = plp P (oprod c e) c e e L1 b1 := pb_ok e1
    rw [k1b] at k1 k2
    show jj_R _ _ kc ks (jj_S, 782, h, g) 6 [(0, .ref 7), (1, .ref 13), (2, .int v)] [.int 1] Q
    refine rr_istore_n [(0, .ref 7), (1, .ref 13), (2, .int v), (3, .int 1)] dX4_readProduct_6 rfl (by decide) rfl ?_
    refine rr_iconst 0 rfl dX4_readProduct_7 ?_
    refine rr_istore [(0, .ref 7), (1, .ref 13), (2, .int v), (3, .int 1), (4, .int 0)] dX4_readProduct_8 (by decide) rfl ?_
    refine cs_readProductL (i := 0) he hB hP e hD hv (by omega) (by omega) m (fun L b h9 q1 q2 q3 => k1 L b h9 q1 (by omega) q3) k2
  · skip
    have k1b : pb (P a) (fun z => plp P (oprod c e) c e e z.1 z.2) = .error (k, p) := pb_er e1
    rw [k1b] at k2
    show jj_R _ _ kc ks (jj_S, 782, h, g) 6 [(0, .ref 7), (1, .ref 13), (2, .int v)] [.int 0] Q
    refine rr_istore_n [(0, .ref 7), (1, .ref 13), (2, .int v), (3, .int 0)] dX4_readProduct_6 rfl (by decide) rfl ?_
    refine rr_iconst 0 rfl dX4_readProduct_7 ?_
    refine rr_istore [(0, .ref 7), (1, .ref 13), (2, .int v), (3, .int 0), (4, .int 0)] dX4_readProduct_8 (by decide) rfl ?_
    refine rr_iload 4 rfl dX4_readProduct_10 ?_
    refine rr_sipush 150 rfl dX4_readProduct_12 ?_
    refine rr_icmp_ge dX4_readProduct_15 (fun c => absurd c (by decide)) (fun _ => ?_)
    refine rr_iload_n 3 rfl rfl dX4_readProduct_18 ?_
    refine rr_if_eq dX4_readProduct_19 (fun _ => ?_) (fun c => absurd (by decide) c)
    refine rr_iload_n 3 rfl rfl dX4_readProduct_101 ?_
    refine rr_nreturn dX4_readProduct_102 rfl (by first | rfl | assumption) ?_
    exact k2 k p _ rfl m
set_option maxHeartbeats 2000000 in
theorem cs_readSumL {c : Nat → Nat} {e o B : Nat} {P : Nat → pC_} (he : e ≤ 150) (hB : 2 ≤ B) (hP : cspec mX4_readProduct B (fun _ => True) P c e o) (f : Nat) : ∀ {D kc ks a t i : Nat} {v : Int32} {L0 F : List (Nat × Nat)} {h0 h : hp_} {g : Nat → Nat → Int64} {Q : jj_Rs → jj_St → Prop}, B + 1 ≤ D → v = nI o → e - a ≤ f → i + (e - a) ≤ 150 → clst c e t 0 (L0 ++ F) h0 a h → (∀ L b h9, plp P (osum c e) c e f F a = .ok (L, b) → a ≤ b → clst c e t 0 (L0 ++ L) h0 b h9 → Q (.inl (some (.int 1))) (jj_S, 782, h9, g)) → (∀ k p h9, plp P (osum c e) c e f F a = .error (k, p) → cler h0 k p h9 → Q (.inl (some (.int 0))) (jj_S, 782, h9, g)) → jj_R mX4_readSum D kc ks (jj_S, 782, h, g) 10 [(0, .ref 7), (1, .ref 13), (2, .int v), (3, .int 1), (4, .int (nI i))] [] Q := by
  have he6 : e ≤ 600 := by omega
  induction f with
  | zero =>
    intro D0 kc ks a t i v L0 F h0 h g Q hD hv hm hi m k1 k2
    obtain ⟨d, rfl⟩ : ∃ d, D0 = d + 3 := ⟨D0 - 3, by omega⟩
    have hl0 := m.2.2.1
    have hae := m.1.2.1.1
    refine rr_iload 4 rfl dX4_readSum_10 ?_
    refine rr_sipush 150 rfl dX4_readSum_12 ?_
    refine rr_icmp_ge dX4_readSum_15 (fun c1 => ?_) (fun c1 => ?_)
    · skip
      have i5 : 150 ≤ i := (nI_leI (a := 150) (by decide) (by omega)).mp c1
      have k0 := kd_end (c := c) (e := e) (a := a)
      have hop : osum c e a = 0 := by
        unfold osum
        rw [k0.mpr (by omega)]
        simp
      refine rr_iload_n 3 rfl rfl dX4_readSum_86 ?_
      refine rr_nreturn dX4_readSum_87 rfl (by first | rfl | assumption) ?_
      exact k1 F a h (plp_0 hop _) (Nat.le_refl a) m
    · skip
      refine rr_iload_n 3 rfl rfl dX4_readSum_18 ?_
      refine rr_if_eq dX4_readSum_19 (fun c => absurd c (by decide)) (fun _ => ?_)
      refine rr_aload_n 1 rfl rfl dX4_readSum_22 ?_
      refine rr_bipush 43 rfl dX4_readSum_23 ?_
      refine rr_callV (As := [.int 43]) (rest := []) (kc2 := 0) (ks2 := 0) dX4_readSum_25 okX5_isSign lX4_67 lo_13 sh_13 rfl rfl (Nat.le_of_ble_eq_true rfl) (Nat.le_of_ble_eq_true rfl) rfl (by omega) (by simp [jj_rk]) (by simp [jj_rk]) ?_
      refine cl_isS (X := 43) (clst_R he) he6 (by decide) m (fun s0 => ?_) (fun s0 => ?_)
      · skip
        have hop : osum c e a = 2 := by unfold osum; rw [if_pos s0]
        have ae := kd_in (c := c) (e := e) (a := a) (by rw [s0.1]; decide)
        have an := nt_gt (c := c) ae
        exact absurd ae (by omega)
      · skip
        show jj_R _ _ kc ks (jj_S, 782, h, g) 28 [(0, .ref 7), (1, .ref 13), (2, .int v), (3, .int 1), (4, .int (nI i))] [.int 0] Q
        refine rr_if_eq dX4_readSum_28 (fun _ => ?_) (fun c => absurd (by decide) c)
        refine rr_aload_n 1 rfl rfl dX4_readSum_37 ?_
        refine rr_bipush 45 rfl dX4_readSum_38 ?_
        refine rr_callV (As := [.int 45]) (rest := []) (kc2 := 0) (ks2 := 0) dX4_readSum_40 okX5_isSign lX4_67 lo_13 sh_13 rfl rfl (Nat.le_of_ble_eq_true rfl) (Nat.le_of_ble_eq_true rfl) rfl (by omega) (by simp [jj_rk]) (by simp [jj_rk]) ?_
        refine cl_isS (X := 45) (clst_R he) he6 (by decide) m (fun s1 => ?_) (fun s1 => ?_)
        · skip
          have hop : osum c e a = 3 := by unfold osum; rw [if_neg s0, if_pos s1]
          have ae := kd_in (c := c) (e := e) (a := a) (by rw [s1.1]; decide)
          have an := nt_gt (c := c) ae
          exact absurd ae (by omega)
        · skip
          have hop : osum c e a = 0 := by unfold osum; rw [if_neg s0, if_neg s1]
          show jj_R _ _ kc ks (jj_S, 782, h, g) 43 [(0, .ref 7), (1, .ref 13), (2, .int v), (3, .int 1), (4, .int (nI i))] [.int 0] Q
          refine rr_if_eq dX4_readSum_43 (fun _ => ?_) (fun c => absurd (by decide) c)
          refine rr_iconst (-1) rfl dX4_readSum_52 ?_
          refine rr_istore [(0, .ref 7), (1, .ref 13), (2, .int v), (3, .int 1), (4, .int (nI i)), (5, .int (-1))] dX4_readSum_53 (by decide) rfl ?_
          refine rr_iload 5 rfl dX4_readSum_55 ?_
          refine rr_iconst (-1) rfl dX4_readSum_57 ?_
          refine rr_icmp_ne dX4_readSum_58 (fun c => absurd c (by decide)) (fun _ => ?_)
          refine rr_iconst 1 rfl dX4_readSum_61 ?_
          refine rr_nreturn dX4_readSum_62 rfl (by first | rfl | assumption) ?_
          exact k1 F a h (plp_0 hop _) (Nat.le_refl a) m
  | succ f ih =>
    intro D0 kc ks a t i v L0 F h0 h g Q hD hv hm hi m k1 k2
    obtain ⟨d, rfl⟩ : ∃ d, D0 = d + 3 := ⟨D0 - 3, by omega⟩
    have hl0 := m.2.2.1
    have hae := m.1.2.1.1
    refine rr_iload 4 rfl dX4_readSum_10 ?_
    refine rr_sipush 150 rfl dX4_readSum_12 ?_
    refine rr_icmp_ge dX4_readSum_15 (fun c1 => ?_) (fun c1 => ?_)
    · skip
      have i5 : 150 ≤ i := (nI_leI (a := 150) (by decide) (by omega)).mp c1
      have k0 := kd_end (c := c) (e := e) (a := a)
      have hop : osum c e a = 0 := by
        unfold osum
        rw [k0.mpr (by omega)]
        simp
      refine rr_iload_n 3 rfl rfl dX4_readSum_86 ?_
      refine rr_nreturn dX4_readSum_87 rfl (by first | rfl | assumption) ?_
      exact k1 F a h (plp_0 hop _) (Nat.le_refl a) m
    · skip
      refine rr_iload_n 3 rfl rfl dX4_readSum_18 ?_
      refine rr_if_eq dX4_readSum_19 (fun c => absurd c (by decide)) (fun _ => ?_)
      refine rr_aload_n 1 rfl rfl dX4_readSum_22 ?_
      refine rr_bipush 43 rfl dX4_readSum_23 ?_
      refine rr_callV (As := [.int 43]) (rest := []) (kc2 := 0) (ks2 := 0) dX4_readSum_25 okX5_isSign lX4_67 lo_13 sh_13 rfl rfl (Nat.le_of_ble_eq_true rfl) (Nat.le_of_ble_eq_true rfl) rfl (by omega) (by simp [jj_rk]) (by simp [jj_rk]) ?_
      refine cl_isS (X := 43) (clst_R he) he6 (by decide) m (fun s0 => ?_) (fun s0 => ?_)
      · skip
        have hop : osum c e a = 2 := by unfold osum; rw [if_pos s0]
        have ae := kd_in (c := c) (e := e) (a := a) (by rw [s0.1]; decide)
        have an := nt_gt (c := c) ae
        rw [plp_s hop (by decide)] at k1 k2
        show jj_R _ _ kc ks (jj_S, 782, h, g) 28 [(0, .ref 7), (1, .ref 13), (2, .int v), (3, .int 1), (4, .int (nI i))] [.int 1] Q
        refine rr_if_eq dX4_readSum_28 (fun c => absurd c (by decide)) (fun _ => ?_)
        refine rr_sipush 2001 rfl dX4_readSum_31 ?_
        refine rr_goto dX4_readSum_34 ?_
        refine rr_istore [(0, .ref 7), (1, .ref 13), (2, .int v), (3, .int 1), (4, .int (nI i)), (5, .int 2001)] dX4_readSum_53 (by decide) rfl ?_
        refine rr_iload 5 rfl dX4_readSum_55 ?_
        refine rr_iconst (-1) rfl dX4_readSum_57 ?_
        refine rr_icmp_ne dX4_readSum_58 (fun _ => ?_) (fun c => absurd c (by decide))
        refine rr_aload_n 1 rfl rfl dX4_readSum_63 ?_
        refine rr_callV (As := []) (rest := []) (kc2 := 0) (ks2 := 0) dX4_readSum_64 okX5_advance lX4_71 lo_13 sh_13 rfl rfl (Nat.le_of_ble_eq_true rfl) (Nat.le_of_ble_eq_true rfl) rfl (by omega) (by simp [jj_rk]) (by simp [jj_rk]) ?_
        refine cl_adv (clst_R he) he6 m (by omega) (fun h m => ?_)
        show jj_R _ _ kc ks (jj_S, 782, h, g) 67 [(0, .ref 7), (1, .ref 13), (2, .int v), (3, .int 1), (4, .int (nI i)), (5, .int 2001)] [] Q
        refine rr_aload_n 0 rfl rfl dX4_readSum_67 ?_
        refine rr_aload_n 1 rfl rfl dX4_readSum_68 ?_
        refine rr_iload_n 2 rfl rfl dX4_readSum_69 ?_
        refine rr_callV (As := [.ref 13, .int v]) (rest := []) (kc2 := 0) (ks2 := 0) dX4_readSum_70 okX4_readProduct lX4_64 lo_7 sh_7 rfl rfl (Nat.le_of_ble_eq_true rfl) (Nat.le_of_ble_eq_true rfl) rfl (by omega) (by simp [jj_rk]) (by simp [jj_rk]) ?_
        refine hP (by omega) hv trivial (clst_t (t2 := t + 1) (s2 := 0) m (by omega)) (fun L2 b2 h e1 hb2 m => ?_) (fun k p h e1 m => ?_)
        · skip
          rw [pb_ok e1] at k1 k2
          show jj_R _ _ kc ks (jj_S, 782, h, g) 73 [(0, .ref 7), (1, .ref 13), (2, .int v), (3, .int 1), (4, .int (nI i)), (5, .int 2001)] [.int 1] Q
          refine rr_istore_n [(0, .ref 7), (1, .ref 13), (2, .int v), (3, .int 1), (4, .int (nI i)), (5, .int 2001)] dX4_readSum_73 rfl (by decide) rfl ?_
          refine rr_aload_n 0 rfl rfl dX4_readSum_74 ?_
          refine rr_iload 5 rfl dX4_readSum_75 ?_
          refine rr_callV (As := [.int 2001]) (rest := []) (kc2 := 0) (ks2 := 0) dX4_readSum_77 okX4_addCell lX4_74 lo_7 sh_7 rfl rfl (Nat.le_of_ble_eq_true rfl) (Nat.le_of_ble_eq_true rfl) rfl (by omega) (by simp [jj_rk]) (by simp [jj_rk]) ?_
          have hl5 := m.2.2.1
          have ht5 := m.1.2.1.1
          refine cl_add (t2 := t) (s2 := 0) (z := (2, 0)) m (by omega) rfl (by omega) (fun h m => ?_)
          show jj_R _ _ kc ks (jj_S, 782, h, g) 80 [(0, .ref 7), (1, .ref 13), (2, .int v), (3, .int 1), (4, .int (nI i)), (5, .int 2001)] [] Q
          refine rr_iinc 4 1 [(0, .ref 7), (1, .ref 13), (2, .int v), (3, .int 1), (4, .int ((nI i) + 1)), (5, .int 2001)] dX4_readSum_80 rfl rfl (by decide) rfl ?_
          refine rr_goto dX4_readSum_83 ?_
          refine rr_drop (ls := [(0, .ref 7), (1, .ref 13), (2, .int v), (3, .int 1), (4, .int ((nI i) + 1))]) [0, 1, 2, 3, 4] rfl ?_
          rw [nI_1]
          have m9 : clst c e t 0 (L0 ++ (F ++ L2 ++ [(2, 0)])) h0 b2 h := by simpa only [List.append_assoc] using m
          refine ih (F := F ++ L2 ++ [(2, 0)]) hD hv (by omega) (by omega) m9 (fun L b h9 q1 q2 q3 => k1 L b h9 q1 (by omega) q3) (fun k p h9 q1 q2 => k2 k p h9 q1 q2)
        · skip
          rw [pb_er e1] at k2
          show jj_R _ _ kc ks (jj_S, 782, h, g) 73 [(0, .ref 7), (1, .ref 13), (2, .int v), (3, .int 1), (4, .int (nI i)), (5, .int 2001)] [.int 0] Q
          refine rr_istore_n [(0, .ref 7), (1, .ref 13), (2, .int v), (3, .int 0), (4, .int (nI i)), (5, .int 2001)] dX4_readSum_73 rfl (by decide) rfl ?_
          refine rr_aload_n 0 rfl rfl dX4_readSum_74 ?_
          refine rr_iload 5 rfl dX4_readSum_75 ?_
          refine rr_callV (As := [.int 2001]) (rest := []) (kc2 := 0) (ks2 := 0) dX4_readSum_77 okX4_addCell lX4_74 lo_7 sh_7 rfl rfl (Nat.le_of_ble_eq_true rfl) (Nat.le_of_ble_eq_true rfl) rfl (by omega) (by simp [jj_rk]) (by simp [jj_rk]) ?_
          refine cl_adde m (fun h m => ?_)
          show jj_R _ _ kc ks (jj_S, 782, h, g) 80 [(0, .ref 7), (1, .ref 13), (2, .int v), (3, .int 0), (4, .int (nI i)), (5, .int 2001)] [] Q
          refine rr_iinc 4 1 [(0, .ref 7), (1, .ref 13), (2, .int v), (3, .int 0), (4, .int ((nI i) + 1)), (5, .int 2001)] dX4_readSum_80 rfl rfl (by decide) rfl ?_
          refine rr_goto dX4_readSum_83 ?_
          refine rr_iload 4 rfl dX4_readSum_10 ?_
          refine rr_sipush 150 rfl dX4_readSum_12 ?_
          refine rr_icmp_ge dX4_readSum_15 (fun c2 => ?_) (fun c2 => ?_)
          · skip
            refine rr_iload_n 3 rfl rfl dX4_readSum_86 ?_
            refine rr_nreturn dX4_readSum_87 rfl (by first | rfl | assumption) ?_
            exact k2 k p _ rfl m
          · skip
            refine rr_iload_n 3 rfl rfl dX4_readSum_18 ?_
            refine rr_if_eq dX4_readSum_19 (fun _ => ?_) (fun c => absurd (by decide) c)
            refine rr_iload_n 3 rfl rfl dX4_readSum_86 ?_
            refine rr_nreturn dX4_readSum_87 rfl (by first | rfl | assumption) ?_
            exact k2 k p _ rfl m
      · skip
        show jj_R _ _ kc ks (jj_S, 782, h, g) 28 [(0, .ref 7), (1, .ref 13), (2, .int v), (3, .int 1), (4, .int (nI i))] [.int 0] Q
        refine rr_if_eq dX4_readSum_28 (fun _ => ?_) (fun c => absurd (by decide) c)
        refine rr_aload_n 1 rfl rfl dX4_readSum_37 ?_
        refine rr_bipush 45 rfl dX4_readSum_38 ?_
        refine rr_callV (As := [.int 45]) (rest := []) (kc2 := 0) (ks2 := 0) dX4_readSum_40 okX5_isSign lX4_67 lo_13 sh_13 rfl rfl (Nat.le_of_ble_eq_true rfl) (Nat.le_of_ble_eq_true rfl) rfl (by omega) (by simp [jj_rk]) (by simp [jj_rk]) ?_
        refine cl_isS (X := 45) (clst_R he) he6 (by decide) m (fun s1 => ?_) (fun s1 => ?_)
        · skip
          have hop : osum c e a = 3 := by unfold osum; rw [if_neg s0, if_pos s1]
          have ae := kd_in (c := c) (e := e) (a := a) (by rw [s1.1]; decide)
          have an := nt_gt (c := c) ae
          rw [plp_s hop (by decide)] at k1 k2
          show jj_R _ _ kc ks (jj_S, 782, h, g) 43 [(0, .ref 7), (1, .ref 13), (2, .int v), (3, .int 1), (4, .int (nI i))] [.int 1] Q
          refine rr_if_eq dX4_readSum_43 (fun c => absurd c (by decide)) (fun _ => ?_)
          refine rr_sipush 2002 rfl dX4_readSum_46 ?_
          refine rr_goto dX4_readSum_49 ?_
          refine rr_istore [(0, .ref 7), (1, .ref 13), (2, .int v), (3, .int 1), (4, .int (nI i)), (5, .int 2002)] dX4_readSum_53 (by decide) rfl ?_
          refine rr_iload 5 rfl dX4_readSum_55 ?_
          refine rr_iconst (-1) rfl dX4_readSum_57 ?_
          refine rr_icmp_ne dX4_readSum_58 (fun _ => ?_) (fun c => absurd c (by decide))
          refine rr_aload_n 1 rfl rfl dX4_readSum_63 ?_
          refine rr_callV (As := []) (rest := []) (kc2 := 0) (ks2 := 0) dX4_readSum_64 okX5_advance lX4_71 lo_13 sh_13 rfl rfl (Nat.le_of_ble_eq_true rfl) (Nat.le_of_ble_eq_true rfl) rfl (by omega) (by simp [jj_rk]) (by simp [jj_rk]) ?_
          refine cl_adv (clst_R he) he6 m (by omega) (fun h m => ?_)
          show jj_R _ _ kc ks (jj_S, 782, h, g) 67 [(0, .ref 7), (1, .ref 13), (2, .int v), (3, .int 1), (4, .int (nI i)), (5, .int 2002)] [] Q
          refine rr_aload_n 0 rfl rfl dX4_readSum_67 ?_
          refine rr_aload_n 1 rfl rfl dX4_readSum_68 ?_
          refine rr_iload_n 2 rfl rfl dX4_readSum_69 ?_
          refine rr_callV (As := [.ref 13, .int v]) (rest := []) (kc2 := 0) (ks2 := 0) dX4_readSum_70 okX4_readProduct lX4_64 lo_7 sh_7 rfl rfl (Nat.le_of_ble_eq_true rfl) (Nat.le_of_ble_eq_true rfl) rfl (by omega) (by simp [jj_rk]) (by simp [jj_rk]) ?_
          refine hP (by omega) hv trivial (clst_t (t2 := t + 1) (s2 := 0) m (by omega)) (fun L2 b2 h e1 hb2 m => ?_) (fun k p h e1 m => ?_)
          · skip
            rw [pb_ok e1] at k1 k2
            show jj_R _ _ kc ks (jj_S, 782, h, g) 73 [(0, .ref 7), (1, .ref 13), (2, .int v), (3, .int 1), (4, .int (nI i)), (5, .int 2002)] [.int 1] Q
            refine rr_istore_n [(0, .ref 7), (1, .ref 13), (2, .int v), (3, .int 1), (4, .int (nI i)), (5, .int 2002)] dX4_readSum_73 rfl (by decide) rfl ?_
            refine rr_aload_n 0 rfl rfl dX4_readSum_74 ?_
            refine rr_iload 5 rfl dX4_readSum_75 ?_
            refine rr_callV (As := [.int 2002]) (rest := []) (kc2 := 0) (ks2 := 0) dX4_readSum_77 okX4_addCell lX4_74 lo_7 sh_7 rfl rfl (Nat.le_of_ble_eq_true rfl) (Nat.le_of_ble_eq_true rfl) rfl (by omega) (by simp [jj_rk]) (by simp [jj_rk]) ?_
            have hl5 := m.2.2.1
            have ht5 := m.1.2.1.1
            refine cl_add (t2 := t) (s2 := 0) (z := (3, 0)) m (by omega) rfl (by omega) (fun h m => ?_)
            show jj_R _ _ kc ks (jj_S, 782, h, g) 80 [(0, .ref 7), (1, .ref 13), (2, .int v), (3, .int 1), (4, .int (nI i)), (5, .int 2002)] [] Q
            refine rr_iinc 4 1 [(0, .ref 7), (1, .ref 13), (2, .int v), (3, .int 1), (4, .int ((nI i) + 1)), (5, .int 2002)] dX4_readSum_80 rfl rfl (by decide) rfl ?_
            refine rr_goto dX4_readSum_83 ?_
            refine rr_drop (ls := [(0, .ref 7), (1, .ref 13), (2, .int v), (3, .int 1), (4, .int ((nI i) + 1))]) [0, 1, 2, 3, 4] rfl ?_
            rw [nI_1]
            have m9 : clst c e t 0 (L0 ++ (F ++ L2 ++ [(3, 0)])) h0 b2 h := by simpa only [List.append_assoc] using m
            refine ih (F := F ++ L2 ++ [(3, 0)]) hD hv (by omega) (by omega) m9 (fun L b h9 q1 q2 q3 => k1 L b h9 q1 (by omega) q3) (fun k p h9 q1 q2 => k2 k p h9 q1 q2)
          · skip
            rw [pb_er e1] at k2
            show jj_R _ _ kc ks (jj_S, 782, h, g) 73 [(0, .ref 7), (1, .ref 13), (2, .int v), (3, .int 1), (4, .int (nI i)), (5, .int 2002)] [.int 0] Q
            refine rr_istore_n [(0, .ref 7), (1, .ref 13), (2, .int v), (3, .int 0), (4, .int (nI i)), (5, .int 2002)] dX4_readSum_73 rfl (by decide) rfl ?_
            refine rr_aload_n 0 rfl rfl dX4_readSum_74 ?_
            refine rr_iload 5 rfl dX4_readSum_75 ?_
            refine rr_callV (As := [.int 2002]) (rest := []) (kc2 := 0) (ks2 := 0) dX4_readSum_77 okX4_addCell lX4_74 lo_7 sh_7 rfl rfl (Nat.le_of_ble_eq_true rfl) (Nat.le_of_ble_eq_true rfl) rfl (by omega) (by simp [jj_rk]) (by simp [jj_rk]) ?_
            refine cl_adde m (fun h m => ?_)
            show jj_R _ _ kc ks (jj_S, 782, h, g) 80 [(0, .ref 7), (1, .ref 13), (2, .int v), (3, .int 0), (4, .int (nI i)), (5, .int 2002)] [] Q
            refine rr_iinc 4 1 [(0, .ref 7), (1, .ref 13), (2, .int v), (3, .int 0), (4, .int ((nI i) + 1)), (5, .int 2002)] dX4_readSum_80 rfl rfl (by decide) rfl ?_
            refine rr_goto dX4_readSum_83 ?_
            refine rr_iload 4 rfl dX4_readSum_10 ?_
            refine rr_sipush 150 rfl dX4_readSum_12 ?_
            refine rr_icmp_ge dX4_readSum_15 (fun c3 => ?_) (fun c3 => ?_)
            · skip
              refine rr_iload_n 3 rfl rfl dX4_readSum_86 ?_
              refine rr_nreturn dX4_readSum_87 rfl (by first | rfl | assumption) ?_
              exact k2 k p _ rfl m
            · skip
              refine rr_iload_n 3 rfl rfl dX4_readSum_18 ?_
              refine rr_if_eq dX4_readSum_19 (fun _ => ?_) (fun c => absurd (by decide) c)
              refine rr_iload_n 3 rfl rfl dX4_readSum_86 ?_
              refine rr_nreturn dX4_readSum_87 rfl (by first | rfl | assumption) ?_
              exact k2 k p _ rfl m
        · skip
          have hop : osum c e a = 0 := by unfold osum; rw [if_neg s0, if_neg s1]
          show jj_R _ _ kc ks (jj_S, 782, h, g) 43 [(0, .ref 7), (1, .ref 13), (2, .int v), (3, .int 1), (4, .int (nI i))] [.int 0] Q
          refine rr_if_eq dX4_readSum_43 (fun _ => ?_) (fun c => absurd (by decide) c)
          refine rr_iconst (-1) rfl dX4_readSum_52 ?_
          refine rr_istore [(0, .ref 7), (1, .ref 13), (2, .int v), (3, .int 1), (4, .int (nI i)), (5, .int (-1))] dX4_readSum_53 (by decide) rfl ?_
          refine rr_iload 5 rfl dX4_readSum_55 ?_
          refine rr_iconst (-1) rfl dX4_readSum_57 ?_
          refine rr_icmp_ne dX4_readSum_58 (fun c => absurd c (by decide)) (fun _ => ?_)
          refine rr_iconst 1 rfl dX4_readSum_61 ?_
          refine rr_nreturn dX4_readSum_62 rfl (by first | rfl | assumption) ?_
          exact k1 F a h (plp_0 hop _) (Nat.le_refl a) m
set_option maxHeartbeats 2000000 in
theorem cs_readSum {c : Nat → Nat} {e o B : Nat} {P : Nat → pC_} (he : e ≤ 150) (hB : 2 ≤ B) (hP : cspec mX4_readProduct B (fun _ => True) P c e o) : cspec mX4_readSum (B + 1) (fun _ => True) (fun a => pb (P a) (fun z => plp P (osum c e) c e e z.1 z.2)) c e o := by
  intro D kc ks a t v L0 h0 h g Q hD hv _ m k1 k2
  obtain ⟨d, rfl⟩ : ∃ d, D = d + 3 := ⟨D - 3, by omega⟩
  dsimp only at k1 k2
  refine rr_aload_n 0 rfl rfl dX4_readSum_0 ?_
  refine rr_aload_n 1 rfl rfl dX4_readSum_1 ?_
  refine rr_iload_n 2 rfl rfl dX4_readSum_2 ?_
  refine rr_callV (As := [.ref 13, .int v]) (rest := []) (kc2 := 0) (ks2 := 0) dX4_readSum_3 okX4_readProduct lX4_64 lo_7 sh_7 rfl rfl (Nat.le_of_ble_eq_true rfl) (Nat.le_of_ble_eq_true rfl) rfl (by omega) (by simp [jj_rk]) (by simp [jj_rk]) ?_
  refine hP (by omega) hv trivial m (fun L1 b1 h e1 hb1 m => ?_) (fun k p h e1 m => ?_)
  · skip
    have k1b : pb (P a) (fun z => plp P (osum c e) c e e z.1 z.2) = plp P (osum c e) c e e L1 b1 := pb_ok e1
    rw [k1b] at k1 k2
    show jj_R _ _ kc ks (jj_S, 782, h, g) 6 [(0, .ref 7), (1, .ref 13), (2, .int v)] [.int 1] Q
    refine rr_istore_n [(0, .ref 7), (1, .ref 13), (2, .int v), (3, .int 1)] dX4_readSum_6 rfl (by decide) rfl ?_
    refine rr_iconst 0 rfl dX4_readSum_7 ?_
    refine rr_istore [(0, .ref 7), (1, .ref 13), (2, .int v), (3, .int 1), (4, .int 0)] dX4_readSum_8 (by decide) rfl ?_
    refine cs_readSumL (i := 0) he hB hP e hD hv (by omega) (by omega) m (fun L b h9 q1 q2 q3 => k1 L b h9 q1 (by omega) q3) k2
  · skip
    have k1b : pb (P a) (fun z => plp P (osum c e) c e e z.1 z.2) = .error (k, p) := pb_er e1
    rw [k1b] at k2
    show jj_R _ _ kc ks (jj_S, 782, h, g) 6 [(0, .ref 7), (1, .ref 13), (2, .int v)] [.int 0] Q
    refine rr_istore_n [(0, .ref 7), (1, .ref 13), (2, .int v), (3, .int 0)] dX4_readSum_6 rfl (by decide) rfl ?_
    refine rr_iconst 0 rfl dX4_readSum_7 ?_
    refine rr_istore [(0, .ref 7), (1, .ref 13), (2, .int v), (3, .int 0), (4, .int 0)] dX4_readSum_8 (by decide) rfl ?_
    refine rr_iload 4 rfl dX4_readSum_10 ?_
    refine rr_sipush 150 rfl dX4_readSum_12 ?_
    refine rr_icmp_ge dX4_readSum_15 (fun c => absurd c (by decide)) (fun _ => ?_)
    refine rr_iload_n 3 rfl rfl dX4_readSum_18 ?_
    refine rr_if_eq dX4_readSum_19 (fun _ => ?_) (fun c => absurd (by decide) c)
    refine rr_iload_n 3 rfl rfl dX4_readSum_86 ?_
    refine rr_nreturn dX4_readSum_87 rfl (by first | rfl | assumption) ?_
    exact k2 k p _ rfl m
/-- the class reads a sum at any level -/
theorem cs_lev {c : Nat → Nat} {e : Nat} (he : e ≤ 150) : ∀ l o, o + l = 6 → cspec mX4_readSum (8 + 4 * l) (fun _ => True) (psum c e l) c e o
  | 0, o, h => by
    have h1 := cs_unit (c := c) (e := e) (o := o) (B := 4) (S := none) he (by omega) ⟨fun _ => by omega, fun _ => rfl⟩ (by decide) (fun s q => by cases q)
    exact cs_readSum he (by decide) (cs_readProduct he (by decide) h1)
  | l + 1, o, h => by
    have h0 := cs_lev (c := c) he l (o + 1) (by omega)
    have h1 := cs_unit (c := c) (e := e) (o := o) (B := 8 + 4 * l) (S := some (psum c e l)) he (by omega) ⟨fun q => (by cases q), fun q => absurd q (by omega)⟩ (by omega) (fun s q => by cases q; exact h0)
    have h2 := cs_readSum he (by omega) (cs_readProduct he (by omega) h1)
    intro D kc ks a t v L0 h0 h g Q hD
    exact h2 (by omega)
