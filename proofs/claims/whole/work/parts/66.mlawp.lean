set_option maxHeartbeats 2000000 in
theorem rs_productL {c : Nat → Nat} {e o B : Nat} {P : Nat → pC_} (he : e ≤ 150) (hB : 2 ≤ B) (hP : rspec mX10_one B P c e o) (f : Nat) : ∀ {D kc ks x t : Nat} {L0 F : List (Nat × Nat)} {h0 h : hp_} {g : Nat → Nat → Int64} {Q : jj_Rs → jj_St → Prop}, B + 1 ≤ D → e - spn isB c e x ≤ f → lst c e o t (L0 ++ F) h0 x h → (∀ L b y h9, plp P (oprod c e) c e f F (spn isB c e x) = .ok (L, b) → x ≤ y → spn isB c e y = b → lst c e o t (L0 ++ L) h0 y h9 → Q (.inl none) (jj_S, 782, h9, g)) → (∀ k p h9, plp P (oprod c e) c e f F (spn isB c e x) = .error (k, p) → ler c e h0 k p h9 → Q (.inl none) (jj_S, 782, h9, g)) → jj_R mX10_product D kc ks (jj_S, 782, h, g) 4 [(0, .ref 49)] [] Q := by
  have he6 : e ≤ 600 := by omega
  induction f with
  | zero =>
    intro D0 kc ks x t L0 F h0 h g Q hD hm m k1 k2
    obtain ⟨d, rfl⟩ : ∃ d, D0 = d + 3 := ⟨D0 - 3, by omega⟩
    have hl0 := m.2.2.2.1
    obtain ⟨a, ea⟩ : ∃ a, a = spn isB c e x := ⟨_, rfl⟩
    rw [← ea] at hm k1 k2
    have hb : spn isB c e a = a := by rw [ea, spn_idem]
    have hxa : x ≤ a := by rw [ea]; exact spn_ge
    refine rr_aload_n 0 rfl rfl dX10_product_4 ?_
    refine rr_getI dX10_product_5 fX10_111 lo_49 sh_49 rfl ?_
    rw [show (h 49) 5 = 0 from m.1.2.2.2.2]
    refine rr_if_ne dX10_product_8 (fun c => absurd c (by decide)) (fun _ => ?_)
    refine rr_aload_n 0 rfl rfl dX10_product_11 ?_
    refine rr_bipush 42 rfl dX10_product_12 ?_
    refine rr_callV (As := [.int 42]) (rest := []) (kc2 := 0) (ks2 := 0) dX10_product_14 okX10_takesSign lX10_209 lo_49 sh_49 rfl rfl (Nat.le_of_ble_eq_true rfl) (Nat.le_of_ble_eq_true rfl) rfl (by omega) (by simp [jj_rk]) (by simp [jj_rk]) ?_
    refine ll_tsign (X := 42) lst_R he6 sg_42 m (by omega) (fun s0 y h hy sy m => ?_) (fun s0 h m => ?_)
    · skip
      rw [← ea] at s0 sy
      have hop : oprod c e a = 4 := by unfold oprod; rw [if_pos s0]
      have ae := kd_in (c := c) (e := e) (a := a) (by omega)
      exact absurd ae (by omega)
    · skip
      rw [← ea] at s0 m
      show jj_R _ _ kc ks (jj_S, 782, h, g) 17 [(0, .ref 49)] [.int 0] Q
      refine rr_if_eq dX10_product_17 (fun _ => ?_) (fun c => absurd (by decide) c)
      refine rr_aload_n 0 rfl rfl dX10_product_24 ?_
      refine rr_bipush 47 rfl dX10_product_25 ?_
      refine rr_callV (As := [.int 47]) (rest := []) (kc2 := 0) (ks2 := 0) dX10_product_27 okX10_takesSign lX10_209 lo_49 sh_49 rfl rfl (Nat.le_of_ble_eq_true rfl) (Nat.le_of_ble_eq_true rfl) rfl (by omega) (by simp [jj_rk]) (by simp [jj_rk]) ?_
      refine ll_tsign (X := 47) lst_R he6 sg_47 m (by omega) (fun s1 y h hy sy m => ?_) (fun s1 h m => ?_)
      · skip
        rw [hb] at s1 sy
        have hop : oprod c e a = 5 := by unfold oprod; rw [if_neg s0, if_pos s1]
        have ae := kd_in (c := c) (e := e) (a := a) (by omega)
        exact absurd ae (by omega)
      · skip
        rw [hb] at s1 m
        show jj_R _ _ kc ks (jj_S, 782, h, g) 30 [(0, .ref 49)] [.int 0] Q
        refine rr_if_eq dX10_product_30 (fun _ => ?_) (fun c => absurd (by decide) c)
        refine rr_aload_n 0 rfl rfl dX10_product_37 ?_
        refine rr_bipush 37 rfl dX10_product_38 ?_
        refine rr_callV (As := [.int 37]) (rest := []) (kc2 := 0) (ks2 := 0) dX10_product_40 okX10_takesSign lX10_209 lo_49 sh_49 rfl rfl (Nat.le_of_ble_eq_true rfl) (Nat.le_of_ble_eq_true rfl) rfl (by omega) (by simp [jj_rk]) (by simp [jj_rk]) ?_
        refine ll_tsign (X := 37) lst_R he6 sg_37 m (by omega) (fun s2 y h hy sy m => ?_) (fun s2 h m => ?_)
        · skip
          rw [hb] at s2 sy
          have hop : oprod c e a = 6 := by unfold oprod; rw [if_neg s0, if_neg s1, if_pos s2]
          have ae := kd_in (c := c) (e := e) (a := a) (by omega)
          exact absurd ae (by omega)
        · skip
          rw [hb] at s2 m
          have hop : oprod c e a = 0 := by unfold oprod; rw [if_neg s0, if_neg s1, if_neg s2]
          show jj_R _ _ kc ks (jj_S, 782, h, g) 43 [(0, .ref 49)] [.int 0] Q
          refine rr_if_eq dX10_product_43 (fun _ => ?_) (fun c => absurd (by decide) c)
          refine rr_iconst (-1) rfl dX10_product_51 ?_
          refine rr_istore_n [(0, .ref 49), (1, .int (-1))] dX10_product_52 rfl (by decide) rfl ?_
          refine rr_iload_n 1 rfl rfl dX10_product_53 ?_
          refine rr_iconst (-1) rfl dX10_product_54 ?_
          refine rr_icmp_ne dX10_product_55 (fun c => absurd c (by decide)) (fun _ => ?_)
          refine rr_return dX10_product_58 rfl ?_
          exact k1 F a a h (plp_0 hop _) hxa hb m
  | succ f ih =>
    intro D0 kc ks x t L0 F h0 h g Q hD hm m k1 k2
    obtain ⟨d, rfl⟩ : ∃ d, D0 = d + 3 := ⟨D0 - 3, by omega⟩
    have hl0 := m.2.2.2.1
    obtain ⟨a, ea⟩ : ∃ a, a = spn isB c e x := ⟨_, rfl⟩
    rw [← ea] at hm k1 k2
    have hb : spn isB c e a = a := by rw [ea, spn_idem]
    have hxa : x ≤ a := by rw [ea]; exact spn_ge
    refine rr_aload_n 0 rfl rfl dX10_product_4 ?_
    refine rr_getI dX10_product_5 fX10_111 lo_49 sh_49 rfl ?_
    rw [show (h 49) 5 = 0 from m.1.2.2.2.2]
    refine rr_if_ne dX10_product_8 (fun c => absurd c (by decide)) (fun _ => ?_)
    refine rr_aload_n 0 rfl rfl dX10_product_11 ?_
    refine rr_bipush 42 rfl dX10_product_12 ?_
    refine rr_callV (As := [.int 42]) (rest := []) (kc2 := 0) (ks2 := 0) dX10_product_14 okX10_takesSign lX10_209 lo_49 sh_49 rfl rfl (Nat.le_of_ble_eq_true rfl) (Nat.le_of_ble_eq_true rfl) rfl (by omega) (by simp [jj_rk]) (by simp [jj_rk]) ?_
    refine ll_tsign (X := 42) lst_R he6 sg_42 m (by omega) (fun s0 y h hy sy m => ?_) (fun s0 h m => ?_)
    · skip
      rw [← ea] at s0 sy
      have hop : oprod c e a = 4 := by unfold oprod; rw [if_pos s0]
      have ae := kd_in (c := c) (e := e) (a := a) (by omega)
      rw [plp_s hop (by decide)] at k1 k2
      show jj_R _ _ kc ks (jj_S, 782, h, g) 17 [(0, .ref 49)] [.int 1] Q
      refine rr_if_eq dX10_product_17 (fun c => absurd c (by decide)) (fun _ => ?_)
      refine rr_iconst 4 rfl dX10_product_20 ?_
      refine rr_goto dX10_product_21 ?_
      refine rr_istore_n [(0, .ref 49), (1, .int 4)] dX10_product_52 rfl (by decide) rfl ?_
      refine rr_iload_n 1 rfl rfl dX10_product_53 ?_
      refine rr_iconst (-1) rfl dX10_product_54 ?_
      refine rr_icmp_ne dX10_product_55 (fun _ => ?_) (fun c => absurd c (by decide))
      refine rr_aload_n 0 rfl rfl dX10_product_59 ?_
      refine rr_callV (As := []) (rest := []) (kc2 := 0) (ks2 := 0) dX10_product_60 okX10_one lX10_215 lo_49 sh_49 rfl rfl (Nat.le_of_ble_eq_true rfl) (Nat.le_of_ble_eq_true rfl) rfl (by omega) (by simp [jj_rk]) (by simp [jj_rk]) ?_
      refine hP (by omega) (lst_t (t2 := t + 1) m (by omega)) (fun L2 b2 y2 h e1 hy2 sy2 m => ?_) (fun k p h e1 m => ?_)
      · skip
        rw [sy] at e1
        rw [pb_ok e1] at k1 k2
        show jj_R _ _ kc ks (jj_S, 782, h, g) 63 [(0, .ref 49), (1, .int 4)] [] Q
        refine rr_aload_n 0 rfl rfl dX10_product_63 ?_
        refine rr_iload_n 1 rfl rfl dX10_product_64 ?_
        refine rr_iconst 0 rfl dX10_product_65 ?_
        refine rr_callV (As := [.int 4, .int 0]) (rest := []) (kc2 := 0) (ks2 := 0) dX10_product_66 okX10_notes lX10_212 lo_49 sh_49 rfl rfl (Nat.le_of_ble_eq_true rfl) (Nat.le_of_ble_eq_true rfl) rfl (by omega) (by simp [jj_rk]) (by simp [jj_rk]) ?_
        refine ll_notes (a1 := 4) (a2 := 0) he m rfl rfl (fun h m => ?_)
        show jj_R _ _ kc ks (jj_S, 782, h, g) 69 [(0, .ref 49), (1, .int 4)] [] Q
        refine rr_goto dX10_product_69 ?_
        refine rr_drop (ls := [(0, .ref 49)]) [0] rfl ?_
        have sl := spn_ge (P := isB) (c := c) (e := e) (x := y2)
        have sl2 := spn_ge (P := isB) (c := c) (e := e) (x := y)
        have m9 : lst c e o t (L0 ++ (F ++ L2 ++ [(4, 0)])) h0 y2 h := by simpa only [List.append_assoc] using m
        refine ih (F := F ++ L2 ++ [(4, 0)]) hD (by omega) m9 (fun L b y9 h9 q1 q2 q3 q4 => k1 L b y9 h9 (by rw [sy2] at q1; exact q1) (by omega) q3 q4) (fun k p h9 q1 q2 => k2 k p h9 (by rw [sy2] at q1; exact q1) q2)
      · skip
        rw [sy] at e1
        rw [pb_er e1] at k2
        show jj_R _ _ kc ks (jj_S, 782, h, g) 63 [(0, .ref 49), (1, .int 4)] [] Q
        refine rr_aload_n 0 rfl rfl dX10_product_63 ?_
        refine rr_iload_n 1 rfl rfl dX10_product_64 ?_
        refine rr_iconst 0 rfl dX10_product_65 ?_
        refine rr_callV (As := [.int 4, .int 0]) (rest := []) (kc2 := 0) (ks2 := 0) dX10_product_66 okX10_notes lX10_212 lo_49 sh_49 rfl rfl (Nat.le_of_ble_eq_true rfl) (Nat.le_of_ble_eq_true rfl) rfl (by omega) (by simp [jj_rk]) (by simp [jj_rk]) ?_
        refine nf_notes (by omega) m.2.2.1 ?_
        show jj_R _ _ kc ks (jj_S, 782, h, g) 69 [(0, .ref 49), (1, .int 4)] [] Q
        refine rr_goto dX10_product_69 ?_
        refine rr_aload_n 0 rfl rfl dX10_product_4 ?_
        refine rr_getI dX10_product_5 fX10_111 lo_49 sh_49 rfl ?_
        refine rr_if_ne dX10_product_8 (fun _ => ?_) (fun c => absurd c m.2.2.1)
        refine rr_return dX10_product_72 rfl ?_
        exact k2 k p _ rfl m
    · skip
      rw [← ea] at s0 m
      show jj_R _ _ kc ks (jj_S, 782, h, g) 17 [(0, .ref 49)] [.int 0] Q
      refine rr_if_eq dX10_product_17 (fun _ => ?_) (fun c => absurd (by decide) c)
      refine rr_aload_n 0 rfl rfl dX10_product_24 ?_
      refine rr_bipush 47 rfl dX10_product_25 ?_
      refine rr_callV (As := [.int 47]) (rest := []) (kc2 := 0) (ks2 := 0) dX10_product_27 okX10_takesSign lX10_209 lo_49 sh_49 rfl rfl (Nat.le_of_ble_eq_true rfl) (Nat.le_of_ble_eq_true rfl) rfl (by omega) (by simp [jj_rk]) (by simp [jj_rk]) ?_
      refine ll_tsign (X := 47) lst_R he6 sg_47 m (by omega) (fun s1 y h hy sy m => ?_) (fun s1 h m => ?_)
      · skip
        rw [hb] at s1 sy
        have hop : oprod c e a = 5 := by unfold oprod; rw [if_neg s0, if_pos s1]
        have ae := kd_in (c := c) (e := e) (a := a) (by omega)
        rw [plp_s hop (by decide)] at k1 k2
        show jj_R _ _ kc ks (jj_S, 782, h, g) 30 [(0, .ref 49)] [.int 1] Q
        refine rr_if_eq dX10_product_30 (fun c => absurd c (by decide)) (fun _ => ?_)
        refine rr_iconst 5 rfl dX10_product_33 ?_
        refine rr_goto dX10_product_34 ?_
        refine rr_istore_n [(0, .ref 49), (1, .int 5)] dX10_product_52 rfl (by decide) rfl ?_
        refine rr_iload_n 1 rfl rfl dX10_product_53 ?_
        refine rr_iconst (-1) rfl dX10_product_54 ?_
        refine rr_icmp_ne dX10_product_55 (fun _ => ?_) (fun c => absurd c (by decide))
        refine rr_aload_n 0 rfl rfl dX10_product_59 ?_
        refine rr_callV (As := []) (rest := []) (kc2 := 0) (ks2 := 0) dX10_product_60 okX10_one lX10_215 lo_49 sh_49 rfl rfl (Nat.le_of_ble_eq_true rfl) (Nat.le_of_ble_eq_true rfl) rfl (by omega) (by simp [jj_rk]) (by simp [jj_rk]) ?_
        refine hP (by omega) (lst_t (t2 := t + 1) m (by omega)) (fun L2 b2 y2 h e1 hy2 sy2 m => ?_) (fun k p h e1 m => ?_)
        · skip
          rw [sy] at e1
          rw [pb_ok e1] at k1 k2
          show jj_R _ _ kc ks (jj_S, 782, h, g) 63 [(0, .ref 49), (1, .int 5)] [] Q
          refine rr_aload_n 0 rfl rfl dX10_product_63 ?_
          refine rr_iload_n 1 rfl rfl dX10_product_64 ?_
          refine rr_iconst 0 rfl dX10_product_65 ?_
          refine rr_callV (As := [.int 5, .int 0]) (rest := []) (kc2 := 0) (ks2 := 0) dX10_product_66 okX10_notes lX10_212 lo_49 sh_49 rfl rfl (Nat.le_of_ble_eq_true rfl) (Nat.le_of_ble_eq_true rfl) rfl (by omega) (by simp [jj_rk]) (by simp [jj_rk]) ?_
          refine ll_notes (a1 := 5) (a2 := 0) he m rfl rfl (fun h m => ?_)
          show jj_R _ _ kc ks (jj_S, 782, h, g) 69 [(0, .ref 49), (1, .int 5)] [] Q
          refine rr_goto dX10_product_69 ?_
          refine rr_drop (ls := [(0, .ref 49)]) [0] rfl ?_
          have sl := spn_ge (P := isB) (c := c) (e := e) (x := y2)
          have sl2 := spn_ge (P := isB) (c := c) (e := e) (x := y)
          have m9 : lst c e o t (L0 ++ (F ++ L2 ++ [(5, 0)])) h0 y2 h := by simpa only [List.append_assoc] using m
          refine ih (F := F ++ L2 ++ [(5, 0)]) hD (by omega) m9 (fun L b y9 h9 q1 q2 q3 q4 => k1 L b y9 h9 (by rw [sy2] at q1; exact q1) (by omega) q3 q4) (fun k p h9 q1 q2 => k2 k p h9 (by rw [sy2] at q1; exact q1) q2)
        · skip
          rw [sy] at e1
          rw [pb_er e1] at k2
          show jj_R _ _ kc ks (jj_S, 782, h, g) 63 [(0, .ref 49), (1, .int 5)] [] Q
          refine rr_aload_n 0 rfl rfl dX10_product_63 ?_
          refine rr_iload_n 1 rfl rfl dX10_product_64 ?_
          refine rr_iconst 0 rfl dX10_product_65 ?_
          refine rr_callV (As := [.int 5, .int 0]) (rest := []) (kc2 := 0) (ks2 := 0) dX10_product_66 okX10_notes lX10_212 lo_49 sh_49 rfl rfl (Nat.le_of_ble_eq_true rfl) (Nat.le_of_ble_eq_true rfl) rfl (by omega) (by simp [jj_rk]) (by simp [jj_rk]) ?_
          refine nf_notes (by omega) m.2.2.1 ?_
          show jj_R _ _ kc ks (jj_S, 782, h, g) 69 [(0, .ref 49), (1, .int 5)] [] Q
          refine rr_goto dX10_product_69 ?_
          refine rr_aload_n 0 rfl rfl dX10_product_4 ?_
          refine rr_getI dX10_product_5 fX10_111 lo_49 sh_49 rfl ?_
          refine rr_if_ne dX10_product_8 (fun _ => ?_) (fun c => absurd c m.2.2.1)
          refine rr_return dX10_product_72 rfl ?_
          exact k2 k p _ rfl m
      · skip
        rw [hb] at s1 m
        show jj_R _ _ kc ks (jj_S, 782, h, g) 30 [(0, .ref 49)] [.int 0] Q
        refine rr_if_eq dX10_product_30 (fun _ => ?_) (fun c => absurd (by decide) c)
        refine rr_aload_n 0 rfl rfl dX10_product_37 ?_
        refine rr_bipush 37 rfl dX10_product_38 ?_
        refine rr_callV (As := [.int 37]) (rest := []) (kc2 := 0) (ks2 := 0) dX10_product_40 okX10_takesSign lX10_209 lo_49 sh_49 rfl rfl (Nat.le_of_ble_eq_true rfl) (Nat.le_of_ble_eq_true rfl) rfl (by omega) (by simp [jj_rk]) (by simp [jj_rk]) ?_
        refine ll_tsign (X := 37) lst_R he6 sg_37 m (by omega) (fun s2 y h hy sy m => ?_) (fun s2 h m => ?_)
        · skip
          rw [hb] at s2 sy
          have hop : oprod c e a = 6 := by unfold oprod; rw [if_neg s0, if_neg s1, if_pos s2]
          have ae := kd_in (c := c) (e := e) (a := a) (by omega)
          rw [plp_s hop (by decide)] at k1 k2
          show jj_R _ _ kc ks (jj_S, 782, h, g) 43 [(0, .ref 49)] [.int 1] Q
          refine rr_if_eq dX10_product_43 (fun c => absurd c (by decide)) (fun _ => ?_)
          refine rr_bipush 6 rfl dX10_product_46 ?_
          refine rr_goto dX10_product_48 ?_
          refine rr_istore_n [(0, .ref 49), (1, .int 6)] dX10_product_52 rfl (by decide) rfl ?_
          refine rr_iload_n 1 rfl rfl dX10_product_53 ?_
          refine rr_iconst (-1) rfl dX10_product_54 ?_
          refine rr_icmp_ne dX10_product_55 (fun _ => ?_) (fun c => absurd c (by decide))
          refine rr_aload_n 0 rfl rfl dX10_product_59 ?_
          refine rr_callV (As := []) (rest := []) (kc2 := 0) (ks2 := 0) dX10_product_60 okX10_one lX10_215 lo_49 sh_49 rfl rfl (Nat.le_of_ble_eq_true rfl) (Nat.le_of_ble_eq_true rfl) rfl (by omega) (by simp [jj_rk]) (by simp [jj_rk]) ?_
          refine hP (by omega) (lst_t (t2 := t + 1) m (by omega)) (fun L2 b2 y2 h e1 hy2 sy2 m => ?_) (fun k p h e1 m => ?_)
          · skip
            rw [sy] at e1
            rw [pb_ok e1] at k1 k2
            show jj_R _ _ kc ks (jj_S, 782, h, g) 63 [(0, .ref 49), (1, .int 6)] [] Q
            refine rr_aload_n 0 rfl rfl dX10_product_63 ?_
            refine rr_iload_n 1 rfl rfl dX10_product_64 ?_
            refine rr_iconst 0 rfl dX10_product_65 ?_
            refine rr_callV (As := [.int 6, .int 0]) (rest := []) (kc2 := 0) (ks2 := 0) dX10_product_66 okX10_notes lX10_212 lo_49 sh_49 rfl rfl (Nat.le_of_ble_eq_true rfl) (Nat.le_of_ble_eq_true rfl) rfl (by omega) (by simp [jj_rk]) (by simp [jj_rk]) ?_
            refine ll_notes (a1 := 6) (a2 := 0) he m rfl rfl (fun h m => ?_)
            show jj_R _ _ kc ks (jj_S, 782, h, g) 69 [(0, .ref 49), (1, .int 6)] [] Q
            refine rr_goto dX10_product_69 ?_
            refine rr_drop (ls := [(0, .ref 49)]) [0] rfl ?_
            have sl := spn_ge (P := isB) (c := c) (e := e) (x := y2)
            have sl2 := spn_ge (P := isB) (c := c) (e := e) (x := y)
            have m9 : lst c e o t (L0 ++ (F ++ L2 ++ [(6, 0)])) h0 y2 h := by simpa only [List.append_assoc] using m
            refine ih (F := F ++ L2 ++ [(6, 0)]) hD (by omega) m9 (fun L b y9 h9 q1 q2 q3 q4 => k1 L b y9 h9 (by rw [sy2] at q1; exact q1) (by omega) q3 q4) (fun k p h9 q1 q2 => k2 k p h9 (by rw [sy2] at q1; exact q1) q2)
          · skip
            rw [sy] at e1
            rw [pb_er e1] at k2
            show jj_R _ _ kc ks (jj_S, 782, h, g) 63 [(0, .ref 49), (1, .int 6)] [] Q
            refine rr_aload_n 0 rfl rfl dX10_product_63 ?_
            refine rr_iload_n 1 rfl rfl dX10_product_64 ?_
            refine rr_iconst 0 rfl dX10_product_65 ?_
            refine rr_callV (As := [.int 6, .int 0]) (rest := []) (kc2 := 0) (ks2 := 0) dX10_product_66 okX10_notes lX10_212 lo_49 sh_49 rfl rfl (Nat.le_of_ble_eq_true rfl) (Nat.le_of_ble_eq_true rfl) rfl (by omega) (by simp [jj_rk]) (by simp [jj_rk]) ?_
            refine nf_notes (by omega) m.2.2.1 ?_
            show jj_R _ _ kc ks (jj_S, 782, h, g) 69 [(0, .ref 49), (1, .int 6)] [] Q
            refine rr_goto dX10_product_69 ?_
            refine rr_aload_n 0 rfl rfl dX10_product_4 ?_
            refine rr_getI dX10_product_5 fX10_111 lo_49 sh_49 rfl ?_
            refine rr_if_ne dX10_product_8 (fun _ => ?_) (fun c => absurd c m.2.2.1)
            refine rr_return dX10_product_72 rfl ?_
            exact k2 k p _ rfl m
        · skip
          rw [hb] at s2 m
          have hop : oprod c e a = 0 := by unfold oprod; rw [if_neg s0, if_neg s1, if_neg s2]
          show jj_R _ _ kc ks (jj_S, 782, h, g) 43 [(0, .ref 49)] [.int 0] Q
          refine rr_if_eq dX10_product_43 (fun _ => ?_) (fun c => absurd (by decide) c)
          refine rr_iconst (-1) rfl dX10_product_51 ?_
          refine rr_istore_n [(0, .ref 49), (1, .int (-1))] dX10_product_52 rfl (by decide) rfl ?_
          refine rr_iload_n 1 rfl rfl dX10_product_53 ?_
          refine rr_iconst (-1) rfl dX10_product_54 ?_
          refine rr_icmp_ne dX10_product_55 (fun c => absurd c (by decide)) (fun _ => ?_)
          refine rr_return dX10_product_58 rfl ?_
          exact k1 F a a h (plp_0 hop _) hxa hb m
set_option maxHeartbeats 2000000 in
theorem rs_product {c : Nat → Nat} {e o B : Nat} {P : Nat → pC_} (he : e ≤ 150) (hB : 2 ≤ B) (hP : rspec mX10_one B P c e o) : rspec mX10_product (B + 1) (fun a => pb (P a) (fun z => plp P (oprod c e) c e e z.1 z.2)) c e o := by
  intro D kc ks x t L0 h0 h g Q hD m k1 k2
  obtain ⟨d, rfl⟩ : ∃ d, D = d + 3 := ⟨D - 3, by omega⟩
  dsimp only at k1 k2
  refine rr_aload_n 0 rfl rfl dX10_product_0 ?_
  refine rr_callV (As := []) (rest := []) (kc2 := 0) (ks2 := 0) dX10_product_1 okX10_one lX10_215 lo_49 sh_49 rfl rfl (Nat.le_of_ble_eq_true rfl) (Nat.le_of_ble_eq_true rfl) rfl (by omega) (by simp [jj_rk]) (by simp [jj_rk]) ?_
  refine hP (by omega) m (fun L1 b1 y1 h e1 hy1 sy1 m => ?_) (fun k p h e1 m => ?_)
  · skip
    have k1b : pb (P (spn isB c e x)) (fun z => plp P (oprod c e) c e e z.1 z.2) = plp P (oprod c e) c e e L1 b1 := pb_ok e1
    rw [k1b] at k1 k2
    have sl := spn_le (P := isB) (c := c) m.1.2.2.2.1
    show jj_R _ _ kc ks (jj_S, 782, h, g) 4 [(0, .ref 49)] [] Q
    refine rs_productL he hB hP e hD (by omega) m (fun L b y h9 q1 q2 q3 q4 => k1 L b y h9 (by rw [sy1] at q1; exact q1) (by omega) q3 q4) (fun k p h9 q1 q2 => k2 k p h9 (by rw [sy1] at q1; exact q1) q2)
  · skip
    have k1b : pb (P (spn isB c e x)) (fun z => plp P (oprod c e) c e e z.1 z.2) = .error (k, p) := pb_er e1
    rw [k1b] at k2
    show jj_R _ _ kc ks (jj_S, 782, h, g) 4 [(0, .ref 49)] [] Q
    refine rr_aload_n 0 rfl rfl dX10_product_4 ?_
    refine rr_getI dX10_product_5 fX10_111 lo_49 sh_49 rfl ?_
    refine rr_if_ne dX10_product_8 (fun _ => ?_) (fun c => absurd c m.2.2.1)
    refine rr_return dX10_product_72 rfl ?_
    exact k2 k p _ rfl m
set_option maxHeartbeats 2000000 in
theorem rs_sumL {c : Nat → Nat} {e o B : Nat} {P : Nat → pC_} (he : e ≤ 150) (hB : 2 ≤ B) (hP : rspec mX10_product B P c e o) (f : Nat) : ∀ {D kc ks x t : Nat} {L0 F : List (Nat × Nat)} {h0 h : hp_} {g : Nat → Nat → Int64} {Q : jj_Rs → jj_St → Prop}, B + 1 ≤ D → e - spn isB c e x ≤ f → lst c e o t (L0 ++ F) h0 x h → (∀ L b y h9, plp P (osum c e) c e f F (spn isB c e x) = .ok (L, b) → x ≤ y → spn isB c e y = b → lst c e o t (L0 ++ L) h0 y h9 → Q (.inl none) (jj_S, 782, h9, g)) → (∀ k p h9, plp P (osum c e) c e f F (spn isB c e x) = .error (k, p) → ler c e h0 k p h9 → Q (.inl none) (jj_S, 782, h9, g)) → jj_R mX10_sum D kc ks (jj_S, 782, h, g) 4 [(0, .ref 49)] [] Q := by
  have he6 : e ≤ 600 := by omega
  induction f with
  | zero =>
    intro D0 kc ks x t L0 F h0 h g Q hD hm m k1 k2
    obtain ⟨d, rfl⟩ : ∃ d, D0 = d + 3 := ⟨D0 - 3, by omega⟩
    have hl0 := m.2.2.2.1
    obtain ⟨a, ea⟩ : ∃ a, a = spn isB c e x := ⟨_, rfl⟩
    rw [← ea] at hm k1 k2
    have hb : spn isB c e a = a := by rw [ea, spn_idem]
    have hxa : x ≤ a := by rw [ea]; exact spn_ge
    refine rr_aload_n 0 rfl rfl dX10_sum_4 ?_
    refine rr_getI dX10_sum_5 fX10_111 lo_49 sh_49 rfl ?_
    rw [show (h 49) 5 = 0 from m.1.2.2.2.2]
    refine rr_if_ne dX10_sum_8 (fun c => absurd c (by decide)) (fun _ => ?_)
    refine rr_aload_n 0 rfl rfl dX10_sum_11 ?_
    refine rr_bipush 43 rfl dX10_sum_12 ?_
    refine rr_callV (As := [.int 43]) (rest := []) (kc2 := 0) (ks2 := 0) dX10_sum_14 okX10_takesSign lX10_209 lo_49 sh_49 rfl rfl (Nat.le_of_ble_eq_true rfl) (Nat.le_of_ble_eq_true rfl) rfl (by omega) (by simp [jj_rk]) (by simp [jj_rk]) ?_
    refine ll_tsign (X := 43) lst_R he6 sg_43 m (by omega) (fun s0 y h hy sy m => ?_) (fun s0 h m => ?_)
    · skip
      rw [← ea] at s0 sy
      have hop : osum c e a = 2 := by unfold osum; rw [if_pos s0]
      have ae := kd_in (c := c) (e := e) (a := a) (by omega)
      exact absurd ae (by omega)
    · skip
      rw [← ea] at s0 m
      show jj_R _ _ kc ks (jj_S, 782, h, g) 17 [(0, .ref 49)] [.int 0] Q
      refine rr_if_eq dX10_sum_17 (fun _ => ?_) (fun c => absurd (by decide) c)
      refine rr_aload_n 0 rfl rfl dX10_sum_24 ?_
      refine rr_bipush 45 rfl dX10_sum_25 ?_
      refine rr_callV (As := [.int 45]) (rest := []) (kc2 := 0) (ks2 := 0) dX10_sum_27 okX10_takesSign lX10_209 lo_49 sh_49 rfl rfl (Nat.le_of_ble_eq_true rfl) (Nat.le_of_ble_eq_true rfl) rfl (by omega) (by simp [jj_rk]) (by simp [jj_rk]) ?_
      refine ll_tsign (X := 45) lst_R he6 sg_45 m (by omega) (fun s1 y h hy sy m => ?_) (fun s1 h m => ?_)
      · skip
        rw [hb] at s1 sy
        have hop : osum c e a = 3 := by unfold osum; rw [if_neg s0, if_pos s1]
        have ae := kd_in (c := c) (e := e) (a := a) (by omega)
        exact absurd ae (by omega)
      · skip
        rw [hb] at s1 m
        have hop : osum c e a = 0 := by unfold osum; rw [if_neg s0, if_neg s1]
        show jj_R _ _ kc ks (jj_S, 782, h, g) 30 [(0, .ref 49)] [.int 0] Q
        refine rr_if_eq dX10_sum_30 (fun _ => ?_) (fun c => absurd (by decide) c)
        refine rr_iconst (-1) rfl dX10_sum_37 ?_
        refine rr_istore_n [(0, .ref 49), (1, .int (-1))] dX10_sum_38 rfl (by decide) rfl ?_
        refine rr_iload_n 1 rfl rfl dX10_sum_39 ?_
        refine rr_iconst (-1) rfl dX10_sum_40 ?_
        refine rr_icmp_ne dX10_sum_41 (fun c => absurd c (by decide)) (fun _ => ?_)
        refine rr_return dX10_sum_44 rfl ?_
        exact k1 F a a h (plp_0 hop _) hxa hb m
  | succ f ih =>
    intro D0 kc ks x t L0 F h0 h g Q hD hm m k1 k2
    obtain ⟨d, rfl⟩ : ∃ d, D0 = d + 3 := ⟨D0 - 3, by omega⟩
    have hl0 := m.2.2.2.1
    obtain ⟨a, ea⟩ : ∃ a, a = spn isB c e x := ⟨_, rfl⟩
    rw [← ea] at hm k1 k2
    have hb : spn isB c e a = a := by rw [ea, spn_idem]
    have hxa : x ≤ a := by rw [ea]; exact spn_ge
    refine rr_aload_n 0 rfl rfl dX10_sum_4 ?_
    refine rr_getI dX10_sum_5 fX10_111 lo_49 sh_49 rfl ?_
    rw [show (h 49) 5 = 0 from m.1.2.2.2.2]
    refine rr_if_ne dX10_sum_8 (fun c => absurd c (by decide)) (fun _ => ?_)
    refine rr_aload_n 0 rfl rfl dX10_sum_11 ?_
    refine rr_bipush 43 rfl dX10_sum_12 ?_
    refine rr_callV (As := [.int 43]) (rest := []) (kc2 := 0) (ks2 := 0) dX10_sum_14 okX10_takesSign lX10_209 lo_49 sh_49 rfl rfl (Nat.le_of_ble_eq_true rfl) (Nat.le_of_ble_eq_true rfl) rfl (by omega) (by simp [jj_rk]) (by simp [jj_rk]) ?_
    refine ll_tsign (X := 43) lst_R he6 sg_43 m (by omega) (fun s0 y h hy sy m => ?_) (fun s0 h m => ?_)
    · skip
      rw [← ea] at s0 sy
      have hop : osum c e a = 2 := by unfold osum; rw [if_pos s0]
      have ae := kd_in (c := c) (e := e) (a := a) (by omega)
      rw [plp_s hop (by decide)] at k1 k2
      show jj_R _ _ kc ks (jj_S, 782, h, g) 17 [(0, .ref 49)] [.int 1] Q
      refine rr_if_eq dX10_sum_17 (fun c => absurd c (by decide)) (fun _ => ?_)
      refine rr_iconst 2 rfl dX10_sum_20 ?_
      refine rr_goto dX10_sum_21 ?_
      refine rr_istore_n [(0, .ref 49), (1, .int 2)] dX10_sum_38 rfl (by decide) rfl ?_
      refine rr_iload_n 1 rfl rfl dX10_sum_39 ?_
      refine rr_iconst (-1) rfl dX10_sum_40 ?_
      refine rr_icmp_ne dX10_sum_41 (fun _ => ?_) (fun c => absurd c (by decide))
      refine rr_aload_n 0 rfl rfl dX10_sum_45 ?_
      refine rr_callV (As := []) (rest := []) (kc2 := 0) (ks2 := 0) dX10_sum_46 okX10_product lX10_206 lo_49 sh_49 rfl rfl (Nat.le_of_ble_eq_true rfl) (Nat.le_of_ble_eq_true rfl) rfl (by omega) (by simp [jj_rk]) (by simp [jj_rk]) ?_
      refine hP (by omega) (lst_t (t2 := t + 1) m (by omega)) (fun L2 b2 y2 h e1 hy2 sy2 m => ?_) (fun k p h e1 m => ?_)
      · skip
        rw [sy] at e1
        rw [pb_ok e1] at k1 k2
        show jj_R _ _ kc ks (jj_S, 782, h, g) 49 [(0, .ref 49), (1, .int 2)] [] Q
        refine rr_aload_n 0 rfl rfl dX10_sum_49 ?_
        refine rr_iload_n 1 rfl rfl dX10_sum_50 ?_
        refine rr_iconst 0 rfl dX10_sum_51 ?_
        refine rr_callV (As := [.int 2, .int 0]) (rest := []) (kc2 := 0) (ks2 := 0) dX10_sum_52 okX10_notes lX10_212 lo_49 sh_49 rfl rfl (Nat.le_of_ble_eq_true rfl) (Nat.le_of_ble_eq_true rfl) rfl (by omega) (by simp [jj_rk]) (by simp [jj_rk]) ?_
        refine ll_notes (a1 := 2) (a2 := 0) he m rfl rfl (fun h m => ?_)
        show jj_R _ _ kc ks (jj_S, 782, h, g) 55 [(0, .ref 49), (1, .int 2)] [] Q
        refine rr_goto dX10_sum_55 ?_
        refine rr_drop (ls := [(0, .ref 49)]) [0] rfl ?_
        have sl := spn_ge (P := isB) (c := c) (e := e) (x := y2)
        have sl2 := spn_ge (P := isB) (c := c) (e := e) (x := y)
        have m9 : lst c e o t (L0 ++ (F ++ L2 ++ [(2, 0)])) h0 y2 h := by simpa only [List.append_assoc] using m
        refine ih (F := F ++ L2 ++ [(2, 0)]) hD (by omega) m9 (fun L b y9 h9 q1 q2 q3 q4 => k1 L b y9 h9 (by rw [sy2] at q1; exact q1) (by omega) q3 q4) (fun k p h9 q1 q2 => k2 k p h9 (by rw [sy2] at q1; exact q1) q2)
      · skip
        rw [sy] at e1
        rw [pb_er e1] at k2
        show jj_R _ _ kc ks (jj_S, 782, h, g) 49 [(0, .ref 49), (1, .int 2)] [] Q
        refine rr_aload_n 0 rfl rfl dX10_sum_49 ?_
        refine rr_iload_n 1 rfl rfl dX10_sum_50 ?_
        refine rr_iconst 0 rfl dX10_sum_51 ?_
        refine rr_callV (As := [.int 2, .int 0]) (rest := []) (kc2 := 0) (ks2 := 0) dX10_sum_52 okX10_notes lX10_212 lo_49 sh_49 rfl rfl (Nat.le_of_ble_eq_true rfl) (Nat.le_of_ble_eq_true rfl) rfl (by omega) (by simp [jj_rk]) (by simp [jj_rk]) ?_
        refine nf_notes (by omega) m.2.2.1 ?_
        show jj_R _ _ kc ks (jj_S, 782, h, g) 55 [(0, .ref 49), (1, .int 2)] [] Q
        refine rr_goto dX10_sum_55 ?_
        refine rr_aload_n 0 rfl rfl dX10_sum_4 ?_
        refine rr_getI dX10_sum_5 fX10_111 lo_49 sh_49 rfl ?_
        refine rr_if_ne dX10_sum_8 (fun _ => ?_) (fun c => absurd c m.2.2.1)
        refine rr_return dX10_sum_58 rfl ?_
        exact k2 k p _ rfl m
    · skip
      rw [← ea] at s0 m
      show jj_R _ _ kc ks (jj_S, 782, h, g) 17 [(0, .ref 49)] [.int 0] Q
      refine rr_if_eq dX10_sum_17 (fun _ => ?_) (fun c => absurd (by decide) c)
      refine rr_aload_n 0 rfl rfl dX10_sum_24 ?_
      refine rr_bipush 45 rfl dX10_sum_25 ?_
      refine rr_callV (As := [.int 45]) (rest := []) (kc2 := 0) (ks2 := 0) dX10_sum_27 okX10_takesSign lX10_209 lo_49 sh_49 rfl rfl (Nat.le_of_ble_eq_true rfl) (Nat.le_of_ble_eq_true rfl) rfl (by omega) (by simp [jj_rk]) (by simp [jj_rk]) ?_
      refine ll_tsign (X := 45) lst_R he6 sg_45 m (by omega) (fun s1 y h hy sy m => ?_) (fun s1 h m => ?_)
      · skip
        rw [hb] at s1 sy
        have hop : osum c e a = 3 := by unfold osum; rw [if_neg s0, if_pos s1]
        have ae := kd_in (c := c) (e := e) (a := a) (by omega)
        rw [plp_s hop (by decide)] at k1 k2
        show jj_R _ _ kc ks (jj_S, 782, h, g) 30 [(0, .ref 49)] [.int 1] Q
        refine rr_if_eq dX10_sum_30 (fun c => absurd c (by decide)) (fun _ => ?_)
        refine rr_iconst 3 rfl dX10_sum_33 ?_
        refine rr_goto dX10_sum_34 ?_
        refine rr_istore_n [(0, .ref 49), (1, .int 3)] dX10_sum_38 rfl (by decide) rfl ?_
        refine rr_iload_n 1 rfl rfl dX10_sum_39 ?_
        refine rr_iconst (-1) rfl dX10_sum_40 ?_
        refine rr_icmp_ne dX10_sum_41 (fun _ => ?_) (fun c => absurd c (by decide))
        refine rr_aload_n 0 rfl rfl dX10_sum_45 ?_
        refine rr_callV (As := []) (rest := []) (kc2 := 0) (ks2 := 0) dX10_sum_46 okX10_product lX10_206 lo_49 sh_49 rfl rfl (Nat.le_of_ble_eq_true rfl) (Nat.le_of_ble_eq_true rfl) rfl (by omega) (by simp [jj_rk]) (by simp [jj_rk]) ?_
        refine hP (by omega) (lst_t (t2 := t + 1) m (by omega)) (fun L2 b2 y2 h e1 hy2 sy2 m => ?_) (fun k p h e1 m => ?_)
        · skip
          rw [sy] at e1
          rw [pb_ok e1] at k1 k2
          show jj_R _ _ kc ks (jj_S, 782, h, g) 49 [(0, .ref 49), (1, .int 3)] [] Q
          refine rr_aload_n 0 rfl rfl dX10_sum_49 ?_
          refine rr_iload_n 1 rfl rfl dX10_sum_50 ?_
          refine rr_iconst 0 rfl dX10_sum_51 ?_
          refine rr_callV (As := [.int 3, .int 0]) (rest := []) (kc2 := 0) (ks2 := 0) dX10_sum_52 okX10_notes lX10_212 lo_49 sh_49 rfl rfl (Nat.le_of_ble_eq_true rfl) (Nat.le_of_ble_eq_true rfl) rfl (by omega) (by simp [jj_rk]) (by simp [jj_rk]) ?_
          refine ll_notes (a1 := 3) (a2 := 0) he m rfl rfl (fun h m => ?_)
          show jj_R _ _ kc ks (jj_S, 782, h, g) 55 [(0, .ref 49), (1, .int 3)] [] Q
          refine rr_goto dX10_sum_55 ?_
          refine rr_drop (ls := [(0, .ref 49)]) [0] rfl ?_
          have sl := spn_ge (P := isB) (c := c) (e := e) (x := y2)
          have sl2 := spn_ge (P := isB) (c := c) (e := e) (x := y)
          have m9 : lst c e o t (L0 ++ (F ++ L2 ++ [(3, 0)])) h0 y2 h := by simpa only [List.append_assoc] using m
          refine ih (F := F ++ L2 ++ [(3, 0)]) hD (by omega) m9 (fun L b y9 h9 q1 q2 q3 q4 => k1 L b y9 h9 (by rw [sy2] at q1; exact q1) (by omega) q3 q4) (fun k p h9 q1 q2 => k2 k p h9 (by rw [sy2] at q1; exact q1) q2)
        · skip
          rw [sy] at e1
          rw [pb_er e1] at k2
          show jj_R _ _ kc ks (jj_S, 782, h, g) 49 [(0, .ref 49), (1, .int 3)] [] Q
          refine rr_aload_n 0 rfl rfl dX10_sum_49 ?_
          refine rr_iload_n 1 rfl rfl dX10_sum_50 ?_
          refine rr_iconst 0 rfl dX10_sum_51 ?_
          refine rr_callV (As := [.int 3, .int 0]) (rest := []) (kc2 := 0) (ks2 := 0) dX10_sum_52 okX10_notes lX10_212 lo_49 sh_49 rfl rfl (Nat.le_of_ble_eq_true rfl) (Nat.le_of_ble_eq_true rfl) rfl (by omega) (by simp [jj_rk]) (by simp [jj_rk]) ?_
          refine nf_notes (by omega) m.2.2.1 ?_
          show jj_R _ _ kc ks (jj_S, 782, h, g) 55 [(0, .ref 49), (1, .int 3)] [] Q
          refine rr_goto dX10_sum_55 ?_
          refine rr_aload_n 0 rfl rfl dX10_sum_4 ?_
          refine rr_getI dX10_sum_5 fX10_111 lo_49 sh_49 rfl ?_
          refine rr_if_ne dX10_sum_8 (fun _ => ?_) (fun c => absurd c m.2.2.1)
          refine rr_return dX10_sum_58 rfl ?_
          exact k2 k p _ rfl m
      · skip
        rw [hb] at s1 m
        have hop : osum c e a = 0 := by unfold osum; rw [if_neg s0, if_neg s1]
        show jj_R _ _ kc ks (jj_S, 782, h, g) 30 [(0, .ref 49)] [.int 0] Q
        refine rr_if_eq dX10_sum_30 (fun _ => ?_) (fun c => absurd (by decide) c)
        refine rr_iconst (-1) rfl dX10_sum_37 ?_
        refine rr_istore_n [(0, .ref 49), (1, .int (-1))] dX10_sum_38 rfl (by decide) rfl ?_
        refine rr_iload_n 1 rfl rfl dX10_sum_39 ?_
        refine rr_iconst (-1) rfl dX10_sum_40 ?_
        refine rr_icmp_ne dX10_sum_41 (fun c => absurd c (by decide)) (fun _ => ?_)
        refine rr_return dX10_sum_44 rfl ?_
        exact k1 F a a h (plp_0 hop _) hxa hb m
set_option maxHeartbeats 2000000 in
theorem rs_sum {c : Nat → Nat} {e o B : Nat} {P : Nat → pC_} (he : e ≤ 150) (hB : 2 ≤ B) (hP : rspec mX10_product B P c e o) : rspec mX10_sum (B + 1) (fun a => pb (P a) (fun z => plp P (osum c e) c e e z.1 z.2)) c e o := by
  intro D kc ks x t L0 h0 h g Q hD m k1 k2
  obtain ⟨d, rfl⟩ : ∃ d, D = d + 3 := ⟨D - 3, by omega⟩
  dsimp only at k1 k2
  refine rr_aload_n 0 rfl rfl dX10_sum_0 ?_
  refine rr_callV (As := []) (rest := []) (kc2 := 0) (ks2 := 0) dX10_sum_1 okX10_product lX10_206 lo_49 sh_49 rfl rfl (Nat.le_of_ble_eq_true rfl) (Nat.le_of_ble_eq_true rfl) rfl (by omega) (by simp [jj_rk]) (by simp [jj_rk]) ?_
  refine hP (by omega) m (fun L1 b1 y1 h e1 hy1 sy1 m => ?_) (fun k p h e1 m => ?_)
  · skip
    have k1b : pb (P (spn isB c e x)) (fun z => plp P (osum c e) c e e z.1 z.2) = plp P (osum c e) c e e L1 b1 := pb_ok e1
    rw [k1b] at k1 k2
    have sl := spn_le (P := isB) (c := c) m.1.2.2.2.1
    show jj_R _ _ kc ks (jj_S, 782, h, g) 4 [(0, .ref 49)] [] Q
    refine rs_sumL he hB hP e hD (by omega) m (fun L b y h9 q1 q2 q3 q4 => k1 L b y h9 (by rw [sy1] at q1; exact q1) (by omega) q3 q4) (fun k p h9 q1 q2 => k2 k p h9 (by rw [sy1] at q1; exact q1) q2)
  · skip
    have k1b : pb (P (spn isB c e x)) (fun z => plp P (osum c e) c e e z.1 z.2) = .error (k, p) := pb_er e1
    rw [k1b] at k2
    show jj_R _ _ kc ks (jj_S, 782, h, g) 4 [(0, .ref 49)] [] Q
    refine rr_aload_n 0 rfl rfl dX10_sum_4 ?_
    refine rr_getI dX10_sum_5 fX10_111 lo_49 sh_49 rfl ?_
    refine rr_if_ne dX10_sum_8 (fun _ => ?_) (fun c => absurd c m.2.2.1)
    refine rr_return dX10_sum_58 rfl ?_
    exact k2 k p _ rfl m
/-- the reference reads a sum at any level -/
theorem rs_lev {c : Nat → Nat} {e : Nat} (he : e ≤ 150) : ∀ l o, o + l = 6 → rspec mX10_sum (8 + 3 * l) (psum c e l) c e o
  | 0, o, h => by
    have h1 := rs_one (c := c) (e := e) (o := o) (B := 5) (S := none) he (by omega) ⟨fun _ => by omega, fun _ => rfl⟩ (by decide) (fun s q => by cases q)
    exact rs_sum he (by decide) (rs_product he (by decide) h1)
  | l + 1, o, h => by
    have h0 := rs_lev (c := c) he l (o + 1) (by omega)
    have h1 := rs_one (c := c) (e := e) (o := o) (B := 8 + 3 * l) (S := some (psum c e l)) he (by omega) ⟨fun q => (by cases q), fun q => absurd q (by omega)⟩ (by omega) (fun s q => by cases q; exact h0)
    have h2 := rs_sum he (by omega) (rs_product he (by omega) h1)
    intro D kc ks x t L0 h0 h g Q hD
    exact h2 (by omega)
