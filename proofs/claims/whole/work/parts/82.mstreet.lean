/-! ===== the reference's street: its loop ===== -/
theorem pcl_no {c : Nat → Nat} {e j a : Nat} {S : sT_} (h : ¬ kd c e a = 2) : pclause c e j S a = .error (1, a) := by
  have key : ∀ L : List Nat, ¬ wis c e a L = true := fun L q => h (wis_2 q)
  unfold pclause
  rw [if_neg (key _), if_neg (key _), if_neg (key _)]
theorem ter_R {c : Nat → Nat} {e N : Nat} {h0 : hp_} : rdr c e (fun _ _ => False) (ter c e N h0) := by
  refine ⟨fun x h m => m.elim, fun x y h r m => m.elim, fun x h r k p m => m.elim, fun k p h m => ⟨m.2.2.2.2.1, m.2.2.2.2.2.1, m.2.2.2.2.2.2.1, m.2.2.1⟩, fun k p y h r m hy r4 ro => ?_⟩
  obtain ⟨m1, m2, m3, m4, m5, m6, m7, m8⟩ := m
  exact ⟨(ro 5 (by decide)).trans m1, (ro 6 (by decide)).trans m2, (fun q => m3 ((ro 5 (by decide)).symm.trans q)), fr_tr m4 (fr_put (fun i p => ro i (fT_no p).1)), (ro 2 (by decide)).trans m5, m6, ⟨y, hy, r4⟩, m8⟩
set_option maxHeartbeats 2000000 in
theorem st_loop {c : Nat → Nat} {e : Nat} {v : Int32} (he6 : e ≤ 600) (f : Nat) : ∀ {D kc ks x j : Nat} {S : sT_} {h0 h : hp_} {g : Nat → Nat → Int64} {Q : jj_Rs → jj_St → Prop}, 6 ≤ D → e - x ≤ f → j ≤ 60 → spn isB c e x = x → tst c e j S [] h0 x h → (∀ S2 b j2 h9, pls c e f j S x = .ok (S2, b) → e ≤ b → tst c e j2 S2 [] h0 b h9 → jj_R mX10_street D kc ks (jj_S, 782, h9, g) 71 [(0, .ref 49), (1, .int v)] [] Q) → (∀ k p h9 N, (pls c e f j S x = .error (k, p) ∨ ∃ S2 b, pls c e f j S x = .ok (S2, b) ∧ ¬ e ≤ b ∧ k = 1 ∧ p = b) → ter c e N h0 k p h9 → jj_R mX10_street D kc ks (jj_S, 782, h9, g) 71 [(0, .ref 49), (1, .int v)] [] Q) → jj_R mX10_street D kc ks (jj_S, 782, h, g) 42 [(0, .ref 49), (1, .int v)] [] Q := by
  induction f with
  | zero =>
    intro D0 kc ks x j S h0 h g Q hD hm hj hb m k1 k2
    obtain ⟨d, rfl⟩ : ∃ d, D0 = d + 6 := ⟨D0 - 6, by omega⟩
    have hxe := m.1.2.2.2.1
    refine rr_aload_n 0 rfl rfl dX10_street_42 ?_
    refine rr_getI dX10_street_43 fX10_111 lo_49 sh_49 rfl ?_
    rw [show (h 49) 5 = 0 from m.1.2.2.2.2]
    refine rr_if_ne dX10_street_46 (fun c => absurd c (by decide)) (fun _ => ?_)
    refine rr_aload_n 0 rfl rfl dX10_street_49 ?_
    refine rr_getI dX10_street_50 fX10_104 lo_49 sh_49 rfl ?_
    rw [show (h 49) 4 = (nI x) from m.1.2.1]
    refine rr_aload_n 0 rfl rfl dX10_street_53 ?_
    refine rr_getI dX10_street_54 fX10_101 lo_49 sh_49 rfl ?_
    rw [show (h 49) 2 = (nI e) from m.1.1]
    refine rr_icmp_ge dX10_street_57 (fun c1 => ?_) (fun c1 => ?_)
    · skip
      have q : e ≤ x := (nI_leI (by omega) (by omega)).mp c1
      have hop : ¬ kd c e x = 2 := by rw [kd_end.mpr q]; decide
      exact k1 S x j h (pls_0 hop _) q m
    · skip
      have q : ¬ e ≤ x := fun z => c1 ((nI_leI (by omega) (by omega)).mpr z)
      exact absurd hm (by omega)
  | succ f ih =>
    intro D0 kc ks x j S h0 h g Q hD hm hj hb m k1 k2
    obtain ⟨d, rfl⟩ : ∃ d, D0 = d + 6 := ⟨D0 - 6, by omega⟩
    have hxe := m.1.2.2.2.1
    refine rr_aload_n 0 rfl rfl dX10_street_42 ?_
    refine rr_getI dX10_street_43 fX10_111 lo_49 sh_49 rfl ?_
    rw [show (h 49) 5 = 0 from m.1.2.2.2.2]
    refine rr_if_ne dX10_street_46 (fun c => absurd c (by decide)) (fun _ => ?_)
    refine rr_aload_n 0 rfl rfl dX10_street_49 ?_
    refine rr_getI dX10_street_50 fX10_104 lo_49 sh_49 rfl ?_
    rw [show (h 49) 4 = (nI x) from m.1.2.1]
    refine rr_aload_n 0 rfl rfl dX10_street_53 ?_
    refine rr_getI dX10_street_54 fX10_101 lo_49 sh_49 rfl ?_
    rw [show (h 49) 2 = (nI e) from m.1.1]
    refine rr_icmp_ge dX10_street_57 (fun c1 => ?_) (fun c1 => ?_)
    · skip
      have q : e ≤ x := (nI_leI (by omega) (by omega)).mp c1
      have hop : ¬ kd c e x = 2 := by rw [kd_end.mpr q]; decide
      exact k1 S x j h (pls_0 hop _) q m
    · skip
      have q : ¬ e ≤ x := fun z => c1 ((nI_leI (by omega) (by omega)).mpr z)
      refine rr_aload_n 0 rfl rfl dX10_street_60 ?_
      refine rr_callV (As := []) (rest := []) (kc2 := 0) (ks2 := 0) dX10_street_61 okX10_clause lX10_178 lo_49 sh_49 rfl rfl (Nat.le_of_ble_eq_true rfl) (Nat.le_of_ble_eq_true rfl) rfl (by omega) (by simp [jj_rk]) (by simp [jj_rk]) ?_
      refine st_clause he6 (by omega) hb m (fun S2 b2 y2 h e1 hy2 sy2 m => ?_) (fun k p h N e1 m => ?_)
      · skip
        have k2x : kd c e x = 2 := by
          by_cases z : kd c e x = 2
          · exact z
          · rw [pcl_no z] at e1; cases e1
        have j6 := pcl_60 e1
        rw [pls_s k2x, pb_ok e1] at k1 k2
        show jj_R _ _ kc ks (jj_S, 782, h, g) 64 [(0, .ref 49), (1, .int v)] [] Q
        refine rr_aload_n 0 rfl rfl dX10_street_64 ?_
        refine rr_callV (As := []) (rest := []) (kc2 := 0) (ks2 := 0) dX10_street_65 okX10_blanks lX10_117 lo_49 sh_49 rfl rfl (Nat.le_of_ble_eq_true rfl) (Nat.le_of_ble_eq_true rfl) rfl (by omega) (by simp [jj_rk]) (by simp [jj_rk]) ?_
        refine ll_blanks tst_R he6 m (by omega) (fun h m => ?_)
        rw [sy2] at m
        have sb : spn isB c e b2 = b2 := by rw [← sy2, spn_idem]
        have sl := spn_ge (P := isB) (c := c) (e := e) (x := y2)
        show jj_R _ _ kc ks (jj_S, 782, h, g) 68 [(0, .ref 49), (1, .int v)] [] Q
        refine rr_goto dX10_street_68 ?_
        exact ih (j := j + 1) hD (by omega) (by omega) sb m k1 k2
      · skip
        show jj_R _ _ kc ks (jj_S, 782, h, g) 64 [(0, .ref 49), (1, .int v)] [] Q
        refine rr_aload_n 0 rfl rfl dX10_street_64 ?_
        refine rr_callV (As := []) (rest := []) (kc2 := 0) (ks2 := 0) dX10_street_65 okX10_blanks lX10_117 lo_49 sh_49 rfl rfl (Nat.le_of_ble_eq_true rfl) (Nat.le_of_ble_eq_true rfl) rfl (by omega) (by simp [jj_rk]) (by simp [jj_rk]) ?_
        refine ll_blanksE (I := fun _ _ => False) (E := ter c e N h0) ter_R he6 m (by omega) (fun h m => ?_)
        show jj_R _ _ kc ks (jj_S, 782, h, g) 68 [(0, .ref 49), (1, .int v)] [] Q
        refine rr_goto dX10_street_68 ?_
        refine rr_aload_n 0 rfl rfl dX10_street_42 ?_
        refine rr_getI dX10_street_43 fX10_111 lo_49 sh_49 rfl ?_
        refine rr_if_ne dX10_street_46 (fun _ => ?_) (fun c => absurd c m.2.2.1)
        refine k2 k p h N ?_ m
        by_cases z : kd c e x = 2
        · exact Or.inl (by rw [pls_s z, pb_er e1])
        · rw [pcl_no z] at e1
          cases e1
          exact Or.inr ⟨S, x, pls_0 z _, q, rfl, rfl⟩
