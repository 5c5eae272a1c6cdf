set_option maxHeartbeats 2000000 in
theorem ws_loop {c : Nat → Nat} {e n o B : Nat} {P : Nat → Nat → pW_} (he : e ≤ 150) (hB : 1 ≤ B) (hP : wspec B P c e n o) (hPe : ∀ row a, ¬ kd c e a = 2 → P row a = .error (1, a)) (f : Nat) : ∀ {D kc ks x row w : Nat} {L1 F : List wE_} {h0 h : hp_} {g : Nat → Nat → Int64} {Q : jj_Rs → jj_St → Prop}, B + 1 ≤ D → w < 80 → row = L1.length → e - x ≤ f → spn isB c e x = x → wst c e n o (L1 ++ F) h0 x h → (∀ B9 b h9, plw P c e row f F x = .ok (B9, b) → kd c e b = 3 ∧ c b = 93 → x ≤ b → spn isB c e b = b → wst c e n o (L1 ++ B9) h0 b h9 → jj_R mX10_readsStep D kc ks (jj_S, 782, h9, g) 168 [(0, .ref 49), (1, .int 6), (2, .ref (417 + (nI w).toNatClampNeg))] [] Q) → (∀ k p h9, (plw P c e row f F x = .error (k, p) ∨ ∃ B9 b, plw P c e row f F x = .ok (B9, b) ∧ psign c e 93 b = .error (k, p)) → wer c e h0 k p h9 → jj_R mX10_readsStep D kc ks (jj_S, 782, h9, g) 168 [(0, .ref 49), (1, .int 6), (2, .ref (417 + (nI w).toNatClampNeg))] [] Q) → jj_R mX10_readsStep D kc ks (jj_S, 782, h, g) 137 [(0, .ref 49), (1, .int 6), (2, .ref (417 + (nI w).toNatClampNeg))] [] Q := by
  have he6 : e ≤ 600 := by omega
  induction f with
  | zero =>
    intro D0 kc ks x row w L1 F h0 h g Q hD hw hrow hm hb m k1 k2
    obtain ⟨d, rfl⟩ : ∃ d, D0 = d + 2 := ⟨D0 - 2, by omega⟩
    have hF := m.1.2.2.1
    have hs0 := m.1.1
    have hae := m.1.2.2.2.1
    have sg := sg_at (c := c) (e := e) (a := x) sg_93 (fun q => (hF _ (by omega)).2)
    refine rr_aload_n 0 rfl rfl dX10_readsStep_137 ?_
    refine rr_getI dX10_readsStep_138 fX10_111 lo_49 sh_49 rfl ?_
    rw [show (h 49) 5 = 0 from m.1.2.2.2.2]
    refine rr_if_ne dX10_readsStep_141 (fun c => absurd c (by decide)) (fun _ => ?_)
    refine rr_aload_n 0 rfl rfl dX10_readsStep_144 ?_
    refine rr_aload_n 0 rfl rfl dX10_readsStep_145 ?_
    refine rr_getI dX10_readsStep_146 fX10_104 lo_49 sh_49 rfl ?_
    rw [show (h 49) 4 = (nI x) from m.1.2.1]
    refine rr_callV (As := [.int (nI x)]) (rest := []) (kc2 := 0) (ks2 := 0) dX10_readsStep_149 okX10_byteAt lX10_107 lo_49 sh_49 rfl rfl (Nat.le_of_ble_eq_true rfl) (Nat.le_of_ble_eq_true rfl) rfl (by omega) (by simp [jj_rk] <;> first | exact Or.inl (lr_416 (jj_ink (i := (nI w)) (vp_in_nI (by omega) (by decide))))) (by simp [jj_rk] <;> first | exact Or.inl (lr_416 (jj_ink (i := (nI w)) (vp_in_nI (by omega) (by decide))))) ?_
    refine sp_X10_byteAt (by_in he6 hs0 (by omega)) ?_
    show jj_R _ _ kc ks (jj_S, 782, h, g) 152 [(0, .ref 49), (1, .int 6), (2, .ref (417 + ((nI w) : Int32).toNatClampNeg))] [.int (vX10_byteAt (h 49) (h 50) (nI x))] Q
    refine rr_bipush 93 rfl dX10_readsStep_152 ?_
    refine rr_icmp_eq dX10_readsStep_154 (fun c1 => ?_) (fun c1 => ?_)
    · skip
      rw [by_at hF he6 (by omega) hs0, show (93 : Int32) = nI 93 from rfl, sg] at c1
      exact k1 F x h (plw_0 (by rw [c1.1]; decide) _) c1 (Nat.le_refl x) hb m
    · skip
      rw [by_at hF he6 (by omega) hs0, show (93 : Int32) = nI 93 from rfl, sg] at c1
      refine rr_aload_n 0 rfl rfl dX10_readsStep_157 ?_
      refine rr_callV (As := []) (rest := []) (kc2 := 0) (ks2 := 0) dX10_readsStep_158 okX10_readsStep lX10_251 lo_49 sh_49 rfl rfl (Nat.le_of_ble_eq_true rfl) (Nat.le_of_ble_eq_true rfl) rfl (by omega) (by simp [jj_rk] <;> first | exact Or.inl (lr_416 (jj_ink (i := (nI w)) (vp_in_nI (by omega) (by decide))))) (by simp [jj_rk] <;> first | exact Or.inl (lr_416 (jj_ink (i := (nI w)) (vp_in_nI (by omega) (by decide))))) ?_
      refine hP (by omega) hb m (fun L2 b2 y2 h e1 hy2 sy2 m => ?_) (fun k p h e1 m => ?_)
      · skip
        rw [List.length_append, ← hrow] at e1
        have k2x : kd c e x = 2 := by
          by_cases z : kd c e x = 2
          · exact z
          · rw [hPe _ _ z] at e1; cases e1
        have ae := kd_in (c := c) (e := e) (a := x) (by omega)
        exact absurd ae (by omega)
      · skip
        rw [List.length_append, ← hrow] at e1
        show jj_R _ _ kc ks (jj_S, 782, h, g) 161 [(0, .ref 49), (1, .int 6), (2, .ref (417 + ((nI w) : Int32).toNatClampNeg))] [] Q
        refine rr_aload_n 0 rfl rfl dX10_readsStep_161 ?_
        refine rr_callV (As := []) (rest := []) (kc2 := 0) (ks2 := 0) dX10_readsStep_162 okX10_blanks lX10_117 lo_49 sh_49 rfl rfl (Nat.le_of_ble_eq_true rfl) (Nat.le_of_ble_eq_true rfl) rfl (by omega) (by simp [jj_rk] <;> first | exact Or.inl (lr_416 (jj_ink (i := (nI w)) (vp_in_nI (by omega) (by decide))))) (by simp [jj_rk] <;> first | exact Or.inl (lr_416 (jj_ink (i := (nI w)) (vp_in_nI (by omega) (by decide))))) ?_
        refine ll_blanksE (wst_R (n := n) (o := o) (L := [])) he6 m (by omega) (fun h m => ?_)
        show jj_R _ _ kc ks (jj_S, 782, h, g) 165 [(0, .ref 49), (1, .int 6), (2, .ref (417 + ((nI w) : Int32).toNatClampNeg))] [] Q
        refine rr_goto dX10_readsStep_165 ?_
        refine rr_aload_n 0 rfl rfl dX10_readsStep_137 ?_
        refine rr_getI dX10_readsStep_138 fX10_111 lo_49 sh_49 rfl ?_
        refine rr_if_ne dX10_readsStep_141 (fun _ => ?_) (fun c => absurd c m.2.2.1)
        refine k2 k p h ?_ m
        by_cases z : kd c e x = 2
        · exact absurd (kd_in (c := c) (e := e) (a := x) (by omega)) (by omega)
        · refine Or.inr ⟨F, x, plw_0 z _, ?_⟩
          rw [hPe _ _ z] at e1
          cases e1
          unfold psign
          rw [if_neg c1]
  | succ f ih =>
    intro D0 kc ks x row w L1 F h0 h g Q hD hw hrow hm hb m k1 k2
    obtain ⟨d, rfl⟩ : ∃ d, D0 = d + 2 := ⟨D0 - 2, by omega⟩
    have hF := m.1.2.2.1
    have hs0 := m.1.1
    have hae := m.1.2.2.2.1
    have sg := sg_at (c := c) (e := e) (a := x) sg_93 (fun q => (hF _ (by omega)).2)
    refine rr_aload_n 0 rfl rfl dX10_readsStep_137 ?_
    refine rr_getI dX10_readsStep_138 fX10_111 lo_49 sh_49 rfl ?_
    rw [show (h 49) 5 = 0 from m.1.2.2.2.2]
    refine rr_if_ne dX10_readsStep_141 (fun c => absurd c (by decide)) (fun _ => ?_)
    refine rr_aload_n 0 rfl rfl dX10_readsStep_144 ?_
    refine rr_aload_n 0 rfl rfl dX10_readsStep_145 ?_
    refine rr_getI dX10_readsStep_146 fX10_104 lo_49 sh_49 rfl ?_
    rw [show (h 49) 4 = (nI x) from m.1.2.1]
    refine rr_callV (As := [.int (nI x)]) (rest := []) (kc2 := 0) (ks2 := 0) dX10_readsStep_149 okX10_byteAt lX10_107 lo_49 sh_49 rfl rfl (Nat.le_of_ble_eq_true rfl) (Nat.le_of_ble_eq_true rfl) rfl (by omega) (by simp [jj_rk] <;> first | exact Or.inl (lr_416 (jj_ink (i := (nI w)) (vp_in_nI (by omega) (by decide))))) (by simp [jj_rk] <;> first | exact Or.inl (lr_416 (jj_ink (i := (nI w)) (vp_in_nI (by omega) (by decide))))) ?_
    refine sp_X10_byteAt (by_in he6 hs0 (by omega)) ?_
    show jj_R _ _ kc ks (jj_S, 782, h, g) 152 [(0, .ref 49), (1, .int 6), (2, .ref (417 + ((nI w) : Int32).toNatClampNeg))] [.int (vX10_byteAt (h 49) (h 50) (nI x))] Q
    refine rr_bipush 93 rfl dX10_readsStep_152 ?_
    refine rr_icmp_eq dX10_readsStep_154 (fun c1 => ?_) (fun c1 => ?_)
    · skip
      rw [by_at hF he6 (by omega) hs0, show (93 : Int32) = nI 93 from rfl, sg] at c1
      exact k1 F x h (plw_0 (by rw [c1.1]; decide) _) c1 (Nat.le_refl x) hb m
    · skip
      rw [by_at hF he6 (by omega) hs0, show (93 : Int32) = nI 93 from rfl, sg] at c1
      refine rr_aload_n 0 rfl rfl dX10_readsStep_157 ?_
      refine rr_callV (As := []) (rest := []) (kc2 := 0) (ks2 := 0) dX10_readsStep_158 okX10_readsStep lX10_251 lo_49 sh_49 rfl rfl (Nat.le_of_ble_eq_true rfl) (Nat.le_of_ble_eq_true rfl) rfl (by omega) (by simp [jj_rk] <;> first | exact Or.inl (lr_416 (jj_ink (i := (nI w)) (vp_in_nI (by omega) (by decide))))) (by simp [jj_rk] <;> first | exact Or.inl (lr_416 (jj_ink (i := (nI w)) (vp_in_nI (by omega) (by decide))))) ?_
      refine hP (by omega) hb m (fun L2 b2 y2 h e1 hy2 sy2 m => ?_) (fun k p h e1 m => ?_)
      · skip
        rw [List.length_append, ← hrow] at e1
        have k2x : kd c e x = 2 := by
          by_cases z : kd c e x = 2
          · exact z
          · rw [hPe _ _ z] at e1; cases e1
        have ae := kd_in (c := c) (e := e) (a := x) (by omega)
        rw [plw_s k2x, pb_ok e1] at k1 k2
        show jj_R _ _ kc ks (jj_S, 782, h, g) 161 [(0, .ref 49), (1, .int 6), (2, .ref (417 + ((nI w) : Int32).toNatClampNeg))] [] Q
        refine rr_aload_n 0 rfl rfl dX10_readsStep_161 ?_
        refine rr_callV (As := []) (rest := []) (kc2 := 0) (ks2 := 0) dX10_readsStep_162 okX10_blanks lX10_117 lo_49 sh_49 rfl rfl (Nat.le_of_ble_eq_true rfl) (Nat.le_of_ble_eq_true rfl) rfl (by omega) (by simp [jj_rk] <;> first | exact Or.inl (lr_416 (jj_ink (i := (nI w)) (vp_in_nI (by omega) (by decide))))) (by simp [jj_rk] <;> first | exact Or.inl (lr_416 (jj_ink (i := (nI w)) (vp_in_nI (by omega) (by decide))))) ?_
        refine ll_blanks wst_R he6 m (by omega) (fun h m => ?_)
        rw [sy2] at m
        have sb : spn isB c e b2 = b2 := by rw [← sy2, spn_idem]
        have sl := spn_ge (P := isB) (c := c) (e := e) (x := y2)
        show jj_R _ _ kc ks (jj_S, 782, h, g) 165 [(0, .ref 49), (1, .int 6), (2, .ref (417 + ((nI w) : Int32).toNatClampNeg))] [] Q
        refine rr_goto dX10_readsStep_165 ?_
        have m9 : wst c e n o (L1 ++ (F ++ L2)) h0 b2 h := by simpa only [List.append_assoc] using m
        refine ih (F := F ++ L2) hD hw hrow (by omega) sb m9 (fun B9 b9 h9 q1 q2 q3 q4 q5 => k1 B9 b9 h9 q1 q2 (by omega) q4 q5) k2
      · skip
        rw [List.length_append, ← hrow] at e1
        show jj_R _ _ kc ks (jj_S, 782, h, g) 161 [(0, .ref 49), (1, .int 6), (2, .ref (417 + ((nI w) : Int32).toNatClampNeg))] [] Q
        refine rr_aload_n 0 rfl rfl dX10_readsStep_161 ?_
        refine rr_callV (As := []) (rest := []) (kc2 := 0) (ks2 := 0) dX10_readsStep_162 okX10_blanks lX10_117 lo_49 sh_49 rfl rfl (Nat.le_of_ble_eq_true rfl) (Nat.le_of_ble_eq_true rfl) rfl (by omega) (by simp [jj_rk] <;> first | exact Or.inl (lr_416 (jj_ink (i := (nI w)) (vp_in_nI (by omega) (by decide))))) (by simp [jj_rk] <;> first | exact Or.inl (lr_416 (jj_ink (i := (nI w)) (vp_in_nI (by omega) (by decide))))) ?_
        refine ll_blanksE (wst_R (n := n) (o := o) (L := [])) he6 m (by omega) (fun h m => ?_)
        show jj_R _ _ kc ks (jj_S, 782, h, g) 165 [(0, .ref 49), (1, .int 6), (2, .ref (417 + ((nI w) : Int32).toNatClampNeg))] [] Q
        refine rr_goto dX10_readsStep_165 ?_
        refine rr_aload_n 0 rfl rfl dX10_readsStep_137 ?_
        refine rr_getI dX10_readsStep_138 fX10_111 lo_49 sh_49 rfl ?_
        refine rr_if_ne dX10_readsStep_141 (fun _ => ?_) (fun c => absurd c m.2.2.1)
        refine k2 k p h ?_ m
        by_cases z : kd c e x = 2
        · exact Or.inl (by rw [plw_s z, pb_er e1])
        · refine Or.inr ⟨F, x, plw_0 z _, ?_⟩
          rw [hPe _ _ z] at e1
          cases e1
          unfold psign
          rw [if_neg c1]
set_option maxHeartbeats 4000000 in
theorem ws_step {c : Nat → Nat} {e n o B : Nat} {S : Option (Nat → Nat → pW_)} (he : e ≤ 150) (hn : n ≤ 8) (ho : o ≤ 6) (hN : S = none ↔ o = 6) (hB : 4 ≤ B) (hS : ∀ s, S = some s → ∃ P, s = (fun row a => plw P c e row e [] a) ∧ (∀ row a, ¬ kd c e a = 2 → P row a = .error (1, a)) ∧ wspec B P c e n (o + 1)) : wspec (B + 1) (pstep S c e n) c e n o := by
  intro D kc ks x L0 h0 h g Q hD hb m k1 k2
  obtain ⟨d, rfl⟩ : ∃ d, D = d + 5 := ⟨D - 5, by omega⟩
  have he6 : e ≤ 600 := by omega
  have hxe := m.1.2.2.2.1
  have hl0 := m.2.2.2.1
  have hl80 : L0.length < 80 := by omega
  refine rr_aload_n 0 rfl rfl dX10_readsStep_0 ?_
  refine rr_callV (As := []) (rest := []) (kc2 := 0) (ks2 := 0) dX10_readsStep_1 okX10_stepHere lX10_245 lo_49 sh_49 rfl rfl (Nat.le_of_ble_eq_true rfl) (Nat.le_of_ble_eq_true rfl) rfl (by omega) (by simp [jj_rk]) (by simp [jj_rk]) ?_
  refine ll_step wst_R he6 m hb (by omega) (fun h m => ?_)
  rcases sk_cs c e x with q | q | q | q | q | q | q | q
  · skip
    have hp : pstep S c e n L0.length x = .error (1, x) := by unfold pstep; rw [q, if_neg (by decide), if_neg (by decide), if_neg (by decide), if_neg (by decide), if_neg (by decide), if_neg (by decide), if_neg (by decide)]
    rw [hp] at k1 k2
    rw [q]
    show jj_R _ _ kc ks (jj_S, 782, h, g) 4 [(0, .ref 49)] [.int (-1)] Q
    refine rr_istore_n [(0, .ref 49), (1, .int (-1))] dX10_readsStep_4 rfl (by decide) rfl ?_
    refine rr_iload_n 1 rfl rfl dX10_readsStep_5 ?_
    refine rr_iconst (-1) rfl dX10_readsStep_6 ?_
    refine rr_icmp_ne dX10_readsStep_7 (fun c => absurd c (by decide)) (fun _ => ?_)
    refine rr_aload_n 0 rfl rfl dX10_readsStep_10 ?_
    refine rr_iconst 1 rfl dX10_readsStep_11 ?_
    refine rr_aload_n 0 rfl rfl dX10_readsStep_12 ?_
    refine rr_getI dX10_readsStep_13 fX10_104 lo_49 sh_49 rfl ?_
    rw [show (h 49) 4 = (nI x) from m.1.2.1]
    refine rr_callV (As := [.int 1, .int (nI x)]) (rest := []) (kc2 := 0) (ks2 := 0) dX10_readsStep_16 okX10_wrong lX10_124 lo_49 sh_49 rfl rfl (Nat.le_of_ble_eq_true rfl) (Nat.le_of_ble_eq_true rfl) rfl (by omega) (by simp [jj_rk]) (by simp [jj_rk]) ?_
    refine ll_wrong (K := 1) wst_R m (by decide) (by decide) rfl rfl (fun h m => ?_)
    show jj_R _ _ kc ks (jj_S, 782, h, g) 19 [(0, .ref 49), (1, .int (-1))] [] Q
    refine rr_iload_n 1 rfl rfl dX10_readsStep_19 ?_
    refine rr_bipush 6 rfl dX10_readsStep_20 ?_
    refine rr_icmp_ne dX10_readsStep_22 (fun _ => ?_) (fun c => absurd c (by decide))
    refine rr_aload_n 0 rfl rfl dX10_readsStep_33 ?_
    refine rr_getI dX10_readsStep_34 fX10_111 lo_49 sh_49 rfl ?_
    refine rr_if_eq dX10_readsStep_37 (fun c => absurd c m.2.2.1) (fun _ => ?_)
    refine rr_return dX10_readsStep_40 rfl ?_
    exact k2 1 x h rfl m
  · skip
    have hp : pstep S c e n L0.length x = ptwo c e n 0 L0.length x := by unfold pstep; rw [q, if_pos rfl]
    rw [hp] at k1 k2
    rw [q]
    have sk2 := sk_2 (c := c) (e := e) (a := x) (by rw [q]; decide)
    unfold ptwo at k1 k2
    show jj_R _ _ kc ks (jj_S, 782, h, g) 4 [(0, .ref 49)] [.int 0] Q
    refine rr_istore_n [(0, .ref 49), (1, .int 0)] dX10_readsStep_4 rfl (by decide) rfl ?_
    refine rr_iload_n 1 rfl rfl dX10_readsStep_5 ?_
    refine rr_iconst (-1) rfl dX10_readsStep_6 ?_
    refine rr_icmp_ne dX10_readsStep_7 (fun _ => ?_) (fun c => absurd c (by decide))
    refine rr_iload_n 1 rfl rfl dX10_readsStep_19 ?_
    refine rr_bipush 6 rfl dX10_readsStep_20 ?_
    refine rr_icmp_ne dX10_readsStep_22 (fun _ => ?_) (fun c => absurd c (by decide))
    refine rr_aload_n 0 rfl rfl dX10_readsStep_33 ?_
    refine rr_getI dX10_readsStep_34 fX10_111 lo_49 sh_49 rfl ?_
    rw [show (h 49) 5 = 0 from m.1.2.2.2.2]
    refine rr_if_eq dX10_readsStep_37 (fun _ => ?_) (fun c => absurd (by decide) c)
    refine rr_aload_n 0 rfl rfl dX10_readsStep_41 ?_
    refine rr_callV (As := []) (rest := []) (kc2 := 0) (ks2 := 0) dX10_readsStep_42 okX10_skipWord lX10_144 lo_49 sh_49 rfl rfl (Nat.le_of_ble_eq_true rfl) (Nat.le_of_ble_eq_true rfl) rfl (by omega) (by simp [jj_rk]) (by simp [jj_rk]) ?_
    refine ll_skip wst_R he6 m sk2.1 (by omega) (fun y0 h hy0 hye sy0 m => ?_)
    show jj_R _ _ kc ks (jj_S, 782, h, g) 45 [(0, .ref 49), (1, .int 0)] [] Q
    refine rr_aload_n 0 rfl rfl dX10_readsStep_45 ?_
    refine rr_getR dX10_readsStep_46 fX10_58 lo_49 sh_49 rfl ?_
    refine rr_aload_n 0 rfl rfl dX10_readsStep_49 ?_
    refine rr_getI dX10_readsStep_50 fX10_248 lo_49 sh_49 rfl ?_
    rw [show (h 49) 26 = (nI (L0.length)) from m.2.2.1]
    refine rr_aaload dX10_readsStep_53 lo_416 sh_416 (vp_in_nI (by omega) (by decide)) ?_
    refine rr_astore_n [(0, .ref 49), (1, .int 0), (2, .ref (417 + ((nI (L0.length)) : Int32).toNatClampNeg))] dX10_readsStep_54 rfl (by decide) rfl ?_
    refine rr_aload_n 0 rfl rfl dX10_readsStep_55 ?_
    refine rr_dup rfl dX10_readsStep_56 ?_
    refine rr_getI dX10_readsStep_57 fX10_248 lo_49 sh_49 rfl ?_
    rw [show (h 49) 26 = (nI (L0.length)) from m.2.2.1]
    refine rr_iconst 1 rfl dX10_readsStep_60 ?_
    refine rr_iadd dX10_readsStep_61 ?_
    refine rr_putI dX10_readsStep_62 fX10_248 ni10_26 lo_49 sh_49 rfl ?_
    rw [jj_rs_set0 (B := h) (o := 49) (r := (h 49)) rfl]
    refine rr_aload_n 2 rfl rfl dX10_readsStep_65 ?_
    refine rr_iconst 0 rfl dX10_readsStep_66 ?_
    refine rr_iload_n 1 rfl rfl dX10_readsStep_67 ?_
    refine rr_iastore dX10_readsStep_68 (lr_416 (jj_ink (i := (nI (L0.length))) (vp_in_nI (by omega) (by decide)))) (sr_416 (jj_ink (i := (nI (L0.length))) (vp_in_nI (by omega) (by decide)))) (jj_inL rfl) ?_
    rw [show (0 : Int32).toNatClampNeg = 0 from rfl]
    refine jj_Rh (jj_gs_set0 (B := h) (L := [(49, (upd (h 49) (26) ((nI (L0.length)) + 1)))]) (b := 417) (len := 80) (x := ((nI (L0.length)) : Int32).toNatClampNeg) rfl (jj_ink (i := (nI (L0.length))) (vp_in_nI (by omega) (by decide)))) ?_
    refine jj_fl (fun h9 eh => ?_)
    have m9 : wst c e n o (L0 ++ [(0, none, none, none)]) h0 y0 h9 := by
      rw [eh]
      exact wst_new he m (by omega) rfl
    clear eh
    revert h9
    intro h m
    show jj_R _ _ kc ks (jj_S, 782, h, g) 69 [(0, .ref 49), (1, .int 0), (2, .ref (417 + ((nI (L0.length)) : Int32).toNatClampNeg))] [] Q
    refine rr_iload_n 1 rfl rfl dX10_readsStep_69 ?_
    refine rr_iconst 5 rfl dX10_readsStep_70 ?_
    refine rr_icmp_ge dX10_readsStep_71 (fun c => absurd c (by decide)) (fun _ => ?_)
    refine rr_aload_n 2 rfl rfl dX10_readsStep_74 ?_
    refine rr_iconst 1 rfl dX10_readsStep_75 ?_
    refine rr_aload_n 0 rfl rfl dX10_readsStep_76 ?_
    refine rr_iconst 0 rfl dX10_readsStep_77 ?_
    refine rr_aload_n 0 rfl rfl dX10_readsStep_78 ?_
    refine rr_getR dX10_readsStep_79 fX10_23 lo_49 sh_49 rfl ?_
    refine rr_iconst 0 rfl dX10_readsStep_82 ?_
    refine rr_iaload dX10_readsStep_83 lo_53 sh_53 (jj_inL rfl) ?_
    rw [show (h 53) (0 : Int32).toNatClampNeg = (nI n) from m.2.2.2.2.1]
    refine rr_iconst 1 rfl dX10_readsStep_84 ?_
    refine rr_isub dX10_readsStep_85 ?_
    refine rr_callV (As := [.int 0, .int ((nI n) - 1)]) (rest := [.int 1, .ref (417 + ((nI (L0.length)) : Int32).toNatClampNeg)]) (kc2 := 0) (ks2 := 0) dX10_readsStep_86 okX10_number lX10_157 lo_49 sh_49 rfl rfl (Nat.le_of_ble_eq_true rfl) (Nat.le_of_ble_eq_true rfl) rfl (by omega) (by simp [jj_rk] <;> first | exact Or.inl (lr_416 (jj_ink (i := (nI (L0.length))) (vp_in_nI (by omega) (by decide)))) | exact Or.inl (lr_416 (jj_ink (i := (nI (L0.length))) (vp_in_nI (by omega) (by decide))))) (by simp [jj_rk] <;> first | exact Or.inl (lr_416 (jj_ink (i := (nI (L0.length))) (vp_in_nI (by omega) (by decide)))) | exact Or.inl (lr_416 (jj_ink (i := (nI (L0.length))) (vp_in_nI (by omega) (by decide))))) ?_
    refine ll_num (lim := n) wst_R he6 m (by omega) rfl (by omega) (fun v1 b1 y1 h e1 hv1 hy1 sy1 m => ?_) (fun k p h e1 m => ?_)
    · skip
      rw [sy0] at e1
      rw [pb_ok e1] at k1 k2
      show jj_R _ _ kc ks (jj_S, 782, h, g) 89 [(0, .ref 49), (1, .int 0), (2, .ref (417 + ((nI (L0.length)) : Int32).toNatClampNeg))] [.int (nI v1), .int 1, .ref (417 + ((nI (L0.length)) : Int32).toNatClampNeg)] Q
      refine rr_iastore dX10_readsStep_89 (lr_416 (jj_ink (i := (nI (L0.length))) (vp_in_nI (by omega) (by decide)))) (sr_416 (jj_ink (i := (nI (L0.length))) (vp_in_nI (by omega) (by decide)))) (jj_inL rfl) ?_
      rw [show (1 : Int32).toNatClampNeg = 1 from rfl]
      refine jj_Rh (jj_gs_set0 (B := h) (L := []) (b := 417) (len := 80) (x := ((nI (L0.length)) : Int32).toNatClampNeg) rfl (jj_ink (i := (nI (L0.length))) (vp_in_nI (by omega) (by decide)))) ?_
      rw [jj_rs_nil]
      refine jj_fl (fun h9 eh => ?_)
      have m9 : wst c e n o (L0 ++ [(0, some v1, none, none)]) h0 y1 h9 := by
        rw [eh]
        exact wst_set he m la_get la_set (fun r q => wrl_1 q)
      clear eh
      revert h9
      intro h m
      show jj_R _ _ kc ks (jj_S, 782, h, g) 90 [(0, .ref 49), (1, .int 0), (2, .ref (417 + ((nI (L0.length)) : Int32).toNatClampNeg))] [] Q
      refine rr_iload_n 1 rfl rfl dX10_readsStep_90 ?_
      refine rr_iconst 2 rfl dX10_readsStep_91 ?_
      refine rr_icmp_ge dX10_readsStep_92 (fun c => absurd c (by decide)) (fun _ => ?_)
      refine rr_aload_n 2 rfl rfl dX10_readsStep_95 ?_
      refine rr_iconst 2 rfl dX10_readsStep_96 ?_
      refine rr_aload_n 0 rfl rfl dX10_readsStep_97 ?_
      refine rr_iconst 0 rfl dX10_readsStep_98 ?_
      refine rr_aload_n 0 rfl rfl dX10_readsStep_99 ?_
      refine rr_getR dX10_readsStep_100 fX10_23 lo_49 sh_49 rfl ?_
      refine rr_iconst 0 rfl dX10_readsStep_103 ?_
      refine rr_iaload dX10_readsStep_104 lo_53 sh_53 (jj_inL rfl) ?_
      rw [show (h 53) (0 : Int32).toNatClampNeg = (nI n) from m.2.2.2.2.1]
      refine rr_iconst 1 rfl dX10_readsStep_105 ?_
      refine rr_isub dX10_readsStep_106 ?_
      refine rr_callV (As := [.int 0, .int ((nI n) - 1)]) (rest := [.int 2, .ref (417 + ((nI (L0.length)) : Int32).toNatClampNeg)]) (kc2 := 0) (ks2 := 0) dX10_readsStep_107 okX10_number lX10_157 lo_49 sh_49 rfl rfl (Nat.le_of_ble_eq_true rfl) (Nat.le_of_ble_eq_true rfl) rfl (by omega) (by simp [jj_rk] <;> first | exact Or.inl (lr_416 (jj_ink (i := (nI (L0.length))) (vp_in_nI (by omega) (by decide)))) | exact Or.inl (lr_416 (jj_ink (i := (nI (L0.length))) (vp_in_nI (by omega) (by decide))))) (by simp [jj_rk] <;> first | exact Or.inl (lr_416 (jj_ink (i := (nI (L0.length))) (vp_in_nI (by omega) (by decide)))) | exact Or.inl (lr_416 (jj_ink (i := (nI (L0.length))) (vp_in_nI (by omega) (by decide))))) ?_
      refine ll_num (lim := n) wst_R he6 m (by omega) rfl (by omega) (fun v2 b2 y2 h e1 hv2 hy2 sy2 m => ?_) (fun k p h e1 m => ?_)
      · skip
        rw [sy1] at e1
        rw [pb_ok e1] at k1 k2
        show jj_R _ _ kc ks (jj_S, 782, h, g) 110 [(0, .ref 49), (1, .int 0), (2, .ref (417 + ((nI (L0.length)) : Int32).toNatClampNeg))] [.int (nI v2), .int 2, .ref (417 + ((nI (L0.length)) : Int32).toNatClampNeg)] Q
        refine rr_iastore dX10_readsStep_110 (lr_416 (jj_ink (i := (nI (L0.length))) (vp_in_nI (by omega) (by decide)))) (sr_416 (jj_ink (i := (nI (L0.length))) (vp_in_nI (by omega) (by decide)))) (jj_inL rfl) ?_
        rw [show (2 : Int32).toNatClampNeg = 2 from rfl]
        refine jj_Rh (jj_gs_set0 (B := h) (L := []) (b := 417) (len := 80) (x := ((nI (L0.length)) : Int32).toNatClampNeg) rfl (jj_ink (i := (nI (L0.length))) (vp_in_nI (by omega) (by decide)))) ?_
        rw [jj_rs_nil]
        refine jj_fl (fun h9 eh => ?_)
        have m9 : wst c e n o (L0 ++ [(0, some v1, some v2, none)]) h0 y2 h9 := by
          rw [eh]
          exact wst_set he m la_get la_set (fun r q => wrl_2 q)
        clear eh
        revert h9
        intro h m
        show jj_R _ _ kc ks (jj_S, 782, h, g) 111 [(0, .ref 49), (1, .int 0), (2, .ref (417 + ((nI (L0.length)) : Int32).toNatClampNeg))] [] Q
        refine rr_iload_n 1 rfl rfl dX10_readsStep_111 ?_
        refine rr_bipush 6 rfl dX10_readsStep_112 ?_
        refine rr_icmp_ne dX10_readsStep_114 (fun _ => ?_) (fun c => absurd c (by decide))
        refine rr_aload_n 2 rfl rfl dX10_readsStep_184 ?_
        refine rr_iconst 3 rfl dX10_readsStep_185 ?_
        refine rr_aload_n 0 rfl rfl dX10_readsStep_186 ?_
        refine rr_getI dX10_readsStep_187 fX10_248 lo_49 sh_49 rfl ?_
        rw [show (h 49) 26 = (nI (L0.length + 1)) from (m.2.2.1.trans (congrArg nI (by rw [List.length_append, List.length_cons, List.length_nil])))]
        refine rr_iastore dX10_readsStep_190 (lr_416 (jj_ink (i := (nI (L0.length))) (vp_in_nI (by omega) (by decide)))) (sr_416 (jj_ink (i := (nI (L0.length))) (vp_in_nI (by omega) (by decide)))) (jj_inL rfl) ?_
        rw [show (3 : Int32).toNatClampNeg = 3 from rfl]
        refine jj_Rh (jj_gs_set0 (B := h) (L := []) (b := 417) (len := 80) (x := ((nI (L0.length)) : Int32).toNatClampNeg) rfl (jj_ink (i := (nI (L0.length))) (vp_in_nI (by omega) (by decide)))) ?_
        rw [jj_rs_nil]
        refine jj_fl (fun h9 eh => ?_)
        have m9 : wst c e n o (L0 ++ (0, some v1, some v2, some (L0.length + 1)) :: []) h0 y2 h9 := by
          rw [eh]
          exact wst_set he m la_get la_set (fun r q => wrl_3 q)
        clear eh
        revert h9
        intro h m
        show jj_R _ _ kc ks (jj_S, 782, h, g) 191 [(0, .ref 49), (1, .int 0), (2, .ref (417 + ((nI (L0.length)) : Int32).toNatClampNeg))] [] Q
        refine rr_aload_n 0 rfl rfl dX10_readsStep_191 ?_
        refine rr_bipush 59 rfl dX10_readsStep_192 ?_
        refine rr_callV (As := [.int 59]) (rest := []) (kc2 := 0) (ks2 := 0) dX10_readsStep_194 okX10_sign lX10_167 lo_49 sh_49 rfl rfl (Nat.le_of_ble_eq_true rfl) (Nat.le_of_ble_eq_true rfl) rfl (by omega) (by simp [jj_rk] <;> first | exact Or.inl (lr_416 (jj_ink (i := (nI (L0.length))) (vp_in_nI (by omega) (by decide))))) (by simp [jj_rk] <;> first | exact Or.inl (lr_416 (jj_ink (i := (nI (L0.length))) (vp_in_nI (by omega) (by decide))))) ?_
        refine ll_sign (X := 59) wst_R he6 sg_59 m (by omega) (fun b9 y9 h e1 hy9 sy9 m => ?_) (fun k p h e1 m => ?_)
        · skip
          rw [sy2] at e1
          rw [pb_ok e1] at k1 k2
          show jj_R _ _ kc ks (jj_S, 782, h, g) 197 [(0, .ref 49), (1, .int 0), (2, .ref (417 + ((nI (L0.length)) : Int32).toNatClampNeg))] [] Q
          refine rr_return dX10_readsStep_197 rfl ?_
          exact k1 _ b9 y9 _ rfl (by omega) sy9 m
        · skip
          rw [sy2] at e1
          rw [pb_er e1] at k2
          show jj_R _ _ kc ks (jj_S, 782, h, g) 197 [(0, .ref 49), (1, .int 0), (2, .ref (417 + ((nI (L0.length)) : Int32).toNatClampNeg))] [] Q
          refine rr_return dX10_readsStep_197 rfl ?_
          exact k2 k p _ rfl m
      · skip
        rw [sy1] at e1
        rw [pb_er e1] at k2
        show jj_R _ _ kc ks (jj_S, 782, h, g) 110 [(0, .ref 49), (1, .int 0), (2, .ref (417 + ((nI (L0.length)) : Int32).toNatClampNeg))] [.int 0, .int 2, .ref (417 + ((nI (L0.length)) : Int32).toNatClampNeg)] Q
        refine rr_iastore dX10_readsStep_110 (lr_416 (jj_ink (i := (nI (L0.length))) (vp_in_nI (by omega) (by decide)))) (sr_416 (jj_ink (i := (nI (L0.length))) (vp_in_nI (by omega) (by decide)))) (jj_inL rfl) ?_
        rw [show (2 : Int32).toNatClampNeg = 2 from rfl]
        refine jj_Rh (jj_gs_set0 (B := h) (L := []) (b := 417) (len := 80) (x := ((nI (L0.length)) : Int32).toNatClampNeg) rfl (jj_ink (i := (nI (L0.length))) (vp_in_nI (by omega) (by decide)))) ?_
        rw [jj_rs_nil]
        refine jj_fl (fun h9 eh => ?_)
        have m9 : wer c e h0 k p h9 := by
          rw [eh]
          exact wer_g m
        clear eh
        revert h9
        intro h m
        show jj_R _ _ kc ks (jj_S, 782, h, g) 111 [(0, .ref 49), (1, .int 0), (2, .ref (417 + ((nI (L0.length)) : Int32).toNatClampNeg))] [] Q
        refine rr_iload_n 1 rfl rfl dX10_readsStep_111 ?_
        refine rr_bipush 6 rfl dX10_readsStep_112 ?_
        refine rr_icmp_ne dX10_readsStep_114 (fun _ => ?_) (fun c => absurd c (by decide))
        refine rr_aload_n 2 rfl rfl dX10_readsStep_184 ?_
        refine rr_iconst 3 rfl dX10_readsStep_185 ?_
        refine rr_aload_n 0 rfl rfl dX10_readsStep_186 ?_
        refine rr_getI dX10_readsStep_187 fX10_248 lo_49 sh_49 rfl ?_
        refine rr_iastore dX10_readsStep_190 (lr_416 (jj_ink (i := (nI (L0.length))) (vp_in_nI (by omega) (by decide)))) (sr_416 (jj_ink (i := (nI (L0.length))) (vp_in_nI (by omega) (by decide)))) (jj_inL rfl) ?_
        rw [show (3 : Int32).toNatClampNeg = 3 from rfl]
        refine jj_Rh (jj_gs_set0 (B := h) (L := []) (b := 417) (len := 80) (x := ((nI (L0.length)) : Int32).toNatClampNeg) rfl (jj_ink (i := (nI (L0.length))) (vp_in_nI (by omega) (by decide)))) ?_
        rw [jj_rs_nil]
        refine jj_fl (fun h9 eh => ?_)
        have m9 : wer c e h0 k p h9 := by
          rw [eh]
          exact wer_g m
        clear eh
        revert h9
        intro h m
        show jj_R _ _ kc ks (jj_S, 782, h, g) 191 [(0, .ref 49), (1, .int 0), (2, .ref (417 + ((nI (L0.length)) : Int32).toNatClampNeg))] [] Q
        refine rr_aload_n 0 rfl rfl dX10_readsStep_191 ?_
        refine rr_bipush 59 rfl dX10_readsStep_192 ?_
        refine rr_callV (As := [.int 59]) (rest := []) (kc2 := 0) (ks2 := 0) dX10_readsStep_194 okX10_sign lX10_167 lo_49 sh_49 rfl rfl (Nat.le_of_ble_eq_true rfl) (Nat.le_of_ble_eq_true rfl) rfl (by omega) (by simp [jj_rk] <;> first | exact Or.inl (lr_416 (jj_ink (i := (nI (L0.length))) (vp_in_nI (by omega) (by decide))))) (by simp [jj_rk] <;> first | exact Or.inl (lr_416 (jj_ink (i := (nI (L0.length))) (vp_in_nI (by omega) (by decide))))) ?_
        refine nf_sign (by omega) m.2.2.1 ?_
        show jj_R _ _ kc ks (jj_S, 782, h, g) 197 [(0, .ref 49), (1, .int 0), (2, .ref (417 + ((nI (L0.length)) : Int32).toNatClampNeg))] [] Q
        refine rr_return dX10_readsStep_197 rfl ?_
        exact k2 k p _ rfl m
    · skip
      rw [sy0] at e1
      rw [pb_er e1] at k2
      show jj_R _ _ kc ks (jj_S, 782, h, g) 89 [(0, .ref 49), (1, .int 0), (2, .ref (417 + ((nI (L0.length)) : Int32).toNatClampNeg))] [.int 0, .int 1, .ref (417 + ((nI (L0.length)) : Int32).toNatClampNeg)] Q
      refine rr_iastore dX10_readsStep_89 (lr_416 (jj_ink (i := (nI (L0.length))) (vp_in_nI (by omega) (by decide)))) (sr_416 (jj_ink (i := (nI (L0.length))) (vp_in_nI (by omega) (by decide)))) (jj_inL rfl) ?_
      rw [show (1 : Int32).toNatClampNeg = 1 from rfl]
      refine jj_Rh (jj_gs_set0 (B := h) (L := []) (b := 417) (len := 80) (x := ((nI (L0.length)) : Int32).toNatClampNeg) rfl (jj_ink (i := (nI (L0.length))) (vp_in_nI (by omega) (by decide)))) ?_
      rw [jj_rs_nil]
      refine jj_fl (fun h9 eh => ?_)
      have m9 : wer c e h0 k p h9 := by
        rw [eh]
        exact wer_g m
      clear eh
      revert h9
      intro h m
      show jj_R _ _ kc ks (jj_S, 782, h, g) 90 [(0, .ref 49), (1, .int 0), (2, .ref (417 + ((nI (L0.length)) : Int32).toNatClampNeg))] [] Q
      refine rr_iload_n 1 rfl rfl dX10_readsStep_90 ?_
      refine rr_iconst 2 rfl dX10_readsStep_91 ?_
      refine rr_icmp_ge dX10_readsStep_92 (fun c => absurd c (by decide)) (fun _ => ?_)
      refine rr_aload_n 2 rfl rfl dX10_readsStep_95 ?_
      refine rr_iconst 2 rfl dX10_readsStep_96 ?_
      refine rr_aload_n 0 rfl rfl dX10_readsStep_97 ?_
      refine rr_iconst 0 rfl dX10_readsStep_98 ?_
      refine rr_aload_n 0 rfl rfl dX10_readsStep_99 ?_
      refine rr_getR dX10_readsStep_100 fX10_23 lo_49 sh_49 rfl ?_
      refine rr_iconst 0 rfl dX10_readsStep_103 ?_
      refine rr_iaload dX10_readsStep_104 lo_53 sh_53 (jj_inL rfl) ?_
      rw [show (h 53) (0 : Int32).toNatClampNeg = (h 53) 0 from rfl]
      refine rr_iconst 1 rfl dX10_readsStep_105 ?_
      refine rr_isub dX10_readsStep_106 ?_
      refine rr_callV (As := [.int 0, .int (((h 53) 0) - 1)]) (rest := [.int 2, .ref (417 + ((nI (L0.length)) : Int32).toNatClampNeg)]) (kc2 := 0) (ks2 := 0) dX10_readsStep_107 okX10_number lX10_157 lo_49 sh_49 rfl rfl (Nat.le_of_ble_eq_true rfl) (Nat.le_of_ble_eq_true rfl) rfl (by omega) (by simp [jj_rk] <;> first | exact Or.inl (lr_416 (jj_ink (i := (nI (L0.length))) (vp_in_nI (by omega) (by decide)))) | exact Or.inl (lr_416 (jj_ink (i := (nI (L0.length))) (vp_in_nI (by omega) (by decide))))) (by simp [jj_rk] <;> first | exact Or.inl (lr_416 (jj_ink (i := (nI (L0.length))) (vp_in_nI (by omega) (by decide)))) | exact Or.inl (lr_416 (jj_ink (i := (nI (L0.length))) (vp_in_nI (by omega) (by decide))))) ?_
      refine nf_number (by omega) m.2.2.1 ?_
      show jj_R _ _ kc ks (jj_S, 782, h, g) 110 [(0, .ref 49), (1, .int 0), (2, .ref (417 + ((nI (L0.length)) : Int32).toNatClampNeg))] [.int 0, .int 2, .ref (417 + ((nI (L0.length)) : Int32).toNatClampNeg)] Q
      refine rr_iastore dX10_readsStep_110 (lr_416 (jj_ink (i := (nI (L0.length))) (vp_in_nI (by omega) (by decide)))) (sr_416 (jj_ink (i := (nI (L0.length))) (vp_in_nI (by omega) (by decide)))) (jj_inL rfl) ?_
      rw [show (2 : Int32).toNatClampNeg = 2 from rfl]
      refine jj_Rh (jj_gs_set0 (B := h) (L := []) (b := 417) (len := 80) (x := ((nI (L0.length)) : Int32).toNatClampNeg) rfl (jj_ink (i := (nI (L0.length))) (vp_in_nI (by omega) (by decide)))) ?_
      rw [jj_rs_nil]
      refine jj_fl (fun h9 eh => ?_)
      have m9 : wer c e h0 k p h9 := by
        rw [eh]
        exact wer_g m
      clear eh
      revert h9
      intro h m
      show jj_R _ _ kc ks (jj_S, 782, h, g) 111 [(0, .ref 49), (1, .int 0), (2, .ref (417 + ((nI (L0.length)) : Int32).toNatClampNeg))] [] Q
      refine rr_iload_n 1 rfl rfl dX10_readsStep_111 ?_
      refine rr_bipush 6 rfl dX10_readsStep_112 ?_
      refine rr_icmp_ne dX10_readsStep_114 (fun _ => ?_) (fun c => absurd c (by decide))
      refine rr_aload_n 2 rfl rfl dX10_readsStep_184 ?_
      refine rr_iconst 3 rfl dX10_readsStep_185 ?_
      refine rr_aload_n 0 rfl rfl dX10_readsStep_186 ?_
      refine rr_getI dX10_readsStep_187 fX10_248 lo_49 sh_49 rfl ?_
      refine rr_iastore dX10_readsStep_190 (lr_416 (jj_ink (i := (nI (L0.length))) (vp_in_nI (by omega) (by decide)))) (sr_416 (jj_ink (i := (nI (L0.length))) (vp_in_nI (by omega) (by decide)))) (jj_inL rfl) ?_
      rw [show (3 : Int32).toNatClampNeg = 3 from rfl]
      refine jj_Rh (jj_gs_set0 (B := h) (L := []) (b := 417) (len := 80) (x := ((nI (L0.length)) : Int32).toNatClampNeg) rfl (jj_ink (i := (nI (L0.length))) (vp_in_nI (by omega) (by decide)))) ?_
      rw [jj_rs_nil]
      refine jj_fl (fun h9 eh => ?_)
      have m9 : wer c e h0 k p h9 := by
        rw [eh]
        exact wer_g m
      clear eh
      revert h9
      intro h m
      show jj_R _ _ kc ks (jj_S, 782, h, g) 191 [(0, .ref 49), (1, .int 0), (2, .ref (417 + ((nI (L0.length)) : Int32).toNatClampNeg))] [] Q
      refine rr_aload_n 0 rfl rfl dX10_readsStep_191 ?_
      refine rr_bipush 59 rfl dX10_readsStep_192 ?_
      refine rr_callV (As := [.int 59]) (rest := []) (kc2 := 0) (ks2 := 0) dX10_readsStep_194 okX10_sign lX10_167 lo_49 sh_49 rfl rfl (Nat.le_of_ble_eq_true rfl) (Nat.le_of_ble_eq_true rfl) rfl (by omega) (by simp [jj_rk] <;> first | exact Or.inl (lr_416 (jj_ink (i := (nI (L0.length))) (vp_in_nI (by omega) (by decide))))) (by simp [jj_rk] <;> first | exact Or.inl (lr_416 (jj_ink (i := (nI (L0.length))) (vp_in_nI (by omega) (by decide))))) ?_
      refine nf_sign (by omega) m.2.2.1 ?_
      show jj_R _ _ kc ks (jj_S, 782, h, g) 197 [(0, .ref 49), (1, .int 0), (2, .ref (417 + ((nI (L0.length)) : Int32).toNatClampNeg))] [] Q
      refine rr_return dX10_readsStep_197 rfl ?_
      exact k2 k p _ rfl m
  · skip
    have hp : pstep S c e n L0.length x = ptwo c e n 1 L0.length x := by unfold pstep; rw [q, if_neg (by decide), if_pos rfl]
    rw [hp] at k1 k2
    rw [q]
    have sk2 := sk_2 (c := c) (e := e) (a := x) (by rw [q]; decide)
    unfold ptwo at k1 k2
    show jj_R _ _ kc ks (jj_S, 782, h, g) 4 [(0, .ref 49)] [.int 1] Q
    refine rr_istore_n [(0, .ref 49), (1, .int 1)] dX10_readsStep_4 rfl (by decide) rfl ?_
    refine rr_iload_n 1 rfl rfl dX10_readsStep_5 ?_
    refine rr_iconst (-1) rfl dX10_readsStep_6 ?_
    refine rr_icmp_ne dX10_readsStep_7 (fun _ => ?_) (fun c => absurd c (by decide))
    refine rr_iload_n 1 rfl rfl dX10_readsStep_19 ?_
    refine rr_bipush 6 rfl dX10_readsStep_20 ?_
    refine rr_icmp_ne dX10_readsStep_22 (fun _ => ?_) (fun c => absurd c (by decide))
    refine rr_aload_n 0 rfl rfl dX10_readsStep_33 ?_
    refine rr_getI dX10_readsStep_34 fX10_111 lo_49 sh_49 rfl ?_
    rw [show (h 49) 5 = 0 from m.1.2.2.2.2]
    refine rr_if_eq dX10_readsStep_37 (fun _ => ?_) (fun c => absurd (by decide) c)
    refine rr_aload_n 0 rfl rfl dX10_readsStep_41 ?_
    refine rr_callV (As := []) (rest := []) (kc2 := 0) (ks2 := 0) dX10_readsStep_42 okX10_skipWord lX10_144 lo_49 sh_49 rfl rfl (Nat.le_of_ble_eq_true rfl) (Nat.le_of_ble_eq_true rfl) rfl (by omega) (by simp [jj_rk]) (by simp [jj_rk]) ?_
    refine ll_skip wst_R he6 m sk2.1 (by omega) (fun y0 h hy0 hye sy0 m => ?_)
    show jj_R _ _ kc ks (jj_S, 782, h, g) 45 [(0, .ref 49), (1, .int 1)] [] Q
    refine rr_aload_n 0 rfl rfl dX10_readsStep_45 ?_
    refine rr_getR dX10_readsStep_46 fX10_58 lo_49 sh_49 rfl ?_
    refine rr_aload_n 0 rfl rfl dX10_readsStep_49 ?_
    refine rr_getI dX10_readsStep_50 fX10_248 lo_49 sh_49 rfl ?_
    rw [show (h 49) 26 = (nI (L0.length)) from m.2.2.1]
    refine rr_aaload dX10_readsStep_53 lo_416 sh_416 (vp_in_nI (by omega) (by decide)) ?_
    refine rr_astore_n [(0, .ref 49), (1, .int 1), (2, .ref (417 + ((nI (L0.length)) : Int32).toNatClampNeg))] dX10_readsStep_54 rfl (by decide) rfl ?_
    refine rr_aload_n 0 rfl rfl dX10_readsStep_55 ?_
    refine rr_dup rfl dX10_readsStep_56 ?_
    refine rr_getI dX10_readsStep_57 fX10_248 lo_49 sh_49 rfl ?_
    rw [show (h 49) 26 = (nI (L0.length)) from m.2.2.1]
    refine rr_iconst 1 rfl dX10_readsStep_60 ?_
    refine rr_iadd dX10_readsStep_61 ?_
    refine rr_putI dX10_readsStep_62 fX10_248 ni10_26 lo_49 sh_49 rfl ?_
    rw [jj_rs_set0 (B := h) (o := 49) (r := (h 49)) rfl]
    refine rr_aload_n 2 rfl rfl dX10_readsStep_65 ?_
    refine rr_iconst 0 rfl dX10_readsStep_66 ?_
    refine rr_iload_n 1 rfl rfl dX10_readsStep_67 ?_
    refine rr_iastore dX10_readsStep_68 (lr_416 (jj_ink (i := (nI (L0.length))) (vp_in_nI (by omega) (by decide)))) (sr_416 (jj_ink (i := (nI (L0.length))) (vp_in_nI (by omega) (by decide)))) (jj_inL rfl) ?_
    rw [show (0 : Int32).toNatClampNeg = 0 from rfl]
    refine jj_Rh (jj_gs_set0 (B := h) (L := [(49, (upd (h 49) (26) ((nI (L0.length)) + 1)))]) (b := 417) (len := 80) (x := ((nI (L0.length)) : Int32).toNatClampNeg) rfl (jj_ink (i := (nI (L0.length))) (vp_in_nI (by omega) (by decide)))) ?_
    refine jj_fl (fun h9 eh => ?_)
    have m9 : wst c e n o (L0 ++ [(1, none, none, none)]) h0 y0 h9 := by
      rw [eh]
      exact wst_new he m (by omega) rfl
    clear eh
    revert h9
    intro h m
    show jj_R _ _ kc ks (jj_S, 782, h, g) 69 [(0, .ref 49), (1, .int 1), (2, .ref (417 + ((nI (L0.length)) : Int32).toNatClampNeg))] [] Q
    refine rr_iload_n 1 rfl rfl dX10_readsStep_69 ?_
    refine rr_iconst 5 rfl dX10_readsStep_70 ?_
    refine rr_icmp_ge dX10_readsStep_71 (fun c => absurd c (by decide)) (fun _ => ?_)
    refine rr_aload_n 2 rfl rfl dX10_readsStep_74 ?_
    refine rr_iconst 1 rfl dX10_readsStep_75 ?_
    refine rr_aload_n 0 rfl rfl dX10_readsStep_76 ?_
    refine rr_iconst 0 rfl dX10_readsStep_77 ?_
    refine rr_aload_n 0 rfl rfl dX10_readsStep_78 ?_
    refine rr_getR dX10_readsStep_79 fX10_23 lo_49 sh_49 rfl ?_
    refine rr_iconst 0 rfl dX10_readsStep_82 ?_
    refine rr_iaload dX10_readsStep_83 lo_53 sh_53 (jj_inL rfl) ?_
    rw [show (h 53) (0 : Int32).toNatClampNeg = (nI n) from m.2.2.2.2.1]
    refine rr_iconst 1 rfl dX10_readsStep_84 ?_
    refine rr_isub dX10_readsStep_85 ?_
    refine rr_callV (As := [.int 0, .int ((nI n) - 1)]) (rest := [.int 1, .ref (417 + ((nI (L0.length)) : Int32).toNatClampNeg)]) (kc2 := 0) (ks2 := 0) dX10_readsStep_86 okX10_number lX10_157 lo_49 sh_49 rfl rfl (Nat.le_of_ble_eq_true rfl) (Nat.le_of_ble_eq_true rfl) rfl (by omega) (by simp [jj_rk] <;> first | exact Or.inl (lr_416 (jj_ink (i := (nI (L0.length))) (vp_in_nI (by omega) (by decide)))) | exact Or.inl (lr_416 (jj_ink (i := (nI (L0.length))) (vp_in_nI (by omega) (by decide))))) (by simp [jj_rk] <;> first | exact Or.inl (lr_416 (jj_ink (i := (nI (L0.length))) (vp_in_nI (by omega) (by decide)))) | exact Or.inl (lr_416 (jj_ink (i := (nI (L0.length))) (vp_in_nI (by omega) (by decide))))) ?_
    refine ll_num (lim := n) wst_R he6 m (by omega) rfl (by omega) (fun v1 b1 y1 h e1 hv1 hy1 sy1 m => ?_) (fun k p h e1 m => ?_)
    · skip
      rw [sy0] at e1
      rw [pb_ok e1] at k1 k2
      show jj_R _ _ kc ks (jj_S, 782, h, g) 89 [(0, .ref 49), (1, .int 1), (2, .ref (417 + ((nI (L0.length)) : Int32).toNatClampNeg))] [.int (nI v1), .int 1, .ref (417 + ((nI (L0.length)) : Int32).toNatClampNeg)] Q
      refine rr_iastore dX10_readsStep_89 (lr_416 (jj_ink (i := (nI (L0.length))) (vp_in_nI (by omega) (by decide)))) (sr_416 (jj_ink (i := (nI (L0.length))) (vp_in_nI (by omega) (by decide)))) (jj_inL rfl) ?_
      rw [show (1 : Int32).toNatClampNeg = 1 from rfl]
      refine jj_Rh (jj_gs_set0 (B := h) (L := []) (b := 417) (len := 80) (x := ((nI (L0.length)) : Int32).toNatClampNeg) rfl (jj_ink (i := (nI (L0.length))) (vp_in_nI (by omega) (by decide)))) ?_
      rw [jj_rs_nil]
      refine jj_fl (fun h9 eh => ?_)
      have m9 : wst c e n o (L0 ++ [(1, some v1, none, none)]) h0 y1 h9 := by
        rw [eh]
        exact wst_set he m la_get la_set (fun r q => wrl_1 q)
      clear eh
      revert h9
      intro h m
      show jj_R _ _ kc ks (jj_S, 782, h, g) 90 [(0, .ref 49), (1, .int 1), (2, .ref (417 + ((nI (L0.length)) : Int32).toNatClampNeg))] [] Q
      refine rr_iload_n 1 rfl rfl dX10_readsStep_90 ?_
      refine rr_iconst 2 rfl dX10_readsStep_91 ?_
      refine rr_icmp_ge dX10_readsStep_92 (fun c => absurd c (by decide)) (fun _ => ?_)
      refine rr_aload_n 2 rfl rfl dX10_readsStep_95 ?_
      refine rr_iconst 2 rfl dX10_readsStep_96 ?_
      refine rr_aload_n 0 rfl rfl dX10_readsStep_97 ?_
      refine rr_iconst 0 rfl dX10_readsStep_98 ?_
      refine rr_aload_n 0 rfl rfl dX10_readsStep_99 ?_
      refine rr_getR dX10_readsStep_100 fX10_23 lo_49 sh_49 rfl ?_
      refine rr_iconst 0 rfl dX10_readsStep_103 ?_
      refine rr_iaload dX10_readsStep_104 lo_53 sh_53 (jj_inL rfl) ?_
      rw [show (h 53) (0 : Int32).toNatClampNeg = (nI n) from m.2.2.2.2.1]
      refine rr_iconst 1 rfl dX10_readsStep_105 ?_
      refine rr_isub dX10_readsStep_106 ?_
      refine rr_callV (As := [.int 0, .int ((nI n) - 1)]) (rest := [.int 2, .ref (417 + ((nI (L0.length)) : Int32).toNatClampNeg)]) (kc2 := 0) (ks2 := 0) dX10_readsStep_107 okX10_number lX10_157 lo_49 sh_49 rfl rfl (Nat.le_of_ble_eq_true rfl) (Nat.le_of_ble_eq_true rfl) rfl (by omega) (by simp [jj_rk] <;> first | exact Or.inl (lr_416 (jj_ink (i := (nI (L0.length))) (vp_in_nI (by omega) (by decide)))) | exact Or.inl (lr_416 (jj_ink (i := (nI (L0.length))) (vp_in_nI (by omega) (by decide))))) (by simp [jj_rk] <;> first | exact Or.inl (lr_416 (jj_ink (i := (nI (L0.length))) (vp_in_nI (by omega) (by decide)))) | exact Or.inl (lr_416 (jj_ink (i := (nI (L0.length))) (vp_in_nI (by omega) (by decide))))) ?_
      refine ll_num (lim := n) wst_R he6 m (by omega) rfl (by omega) (fun v2 b2 y2 h e1 hv2 hy2 sy2 m => ?_) (fun k p h e1 m => ?_)
      · skip
        rw [sy1] at e1
        rw [pb_ok e1] at k1 k2
        show jj_R _ _ kc ks (jj_S, 782, h, g) 110 [(0, .ref 49), (1, .int 1), (2, .ref (417 + ((nI (L0.length)) : Int32).toNatClampNeg))] [.int (nI v2), .int 2, .ref (417 + ((nI (L0.length)) : Int32).toNatClampNeg)] Q
        refine rr_iastore dX10_readsStep_110 (lr_416 (jj_ink (i := (nI (L0.length))) (vp_in_nI (by omega) (by decide)))) (sr_416 (jj_ink (i := (nI (L0.length))) (vp_in_nI (by omega) (by decide)))) (jj_inL rfl) ?_
        rw [show (2 : Int32).toNatClampNeg = 2 from rfl]
        refine jj_Rh (jj_gs_set0 (B := h) (L := []) (b := 417) (len := 80) (x := ((nI (L0.length)) : Int32).toNatClampNeg) rfl (jj_ink (i := (nI (L0.length))) (vp_in_nI (by omega) (by decide)))) ?_
        rw [jj_rs_nil]
        refine jj_fl (fun h9 eh => ?_)
        have m9 : wst c e n o (L0 ++ [(1, some v1, some v2, none)]) h0 y2 h9 := by
          rw [eh]
          exact wst_set he m la_get la_set (fun r q => wrl_2 q)
        clear eh
        revert h9
        intro h m
        show jj_R _ _ kc ks (jj_S, 782, h, g) 111 [(0, .ref 49), (1, .int 1), (2, .ref (417 + ((nI (L0.length)) : Int32).toNatClampNeg))] [] Q
        refine rr_iload_n 1 rfl rfl dX10_readsStep_111 ?_
        refine rr_bipush 6 rfl dX10_readsStep_112 ?_
        refine rr_icmp_ne dX10_readsStep_114 (fun _ => ?_) (fun c => absurd c (by decide))
        refine rr_aload_n 2 rfl rfl dX10_readsStep_184 ?_
        refine rr_iconst 3 rfl dX10_readsStep_185 ?_
        refine rr_aload_n 0 rfl rfl dX10_readsStep_186 ?_
        refine rr_getI dX10_readsStep_187 fX10_248 lo_49 sh_49 rfl ?_
        rw [show (h 49) 26 = (nI (L0.length + 1)) from (m.2.2.1.trans (congrArg nI (by rw [List.length_append, List.length_cons, List.length_nil])))]
        refine rr_iastore dX10_readsStep_190 (lr_416 (jj_ink (i := (nI (L0.length))) (vp_in_nI (by omega) (by decide)))) (sr_416 (jj_ink (i := (nI (L0.length))) (vp_in_nI (by omega) (by decide)))) (jj_inL rfl) ?_
        rw [show (3 : Int32).toNatClampNeg = 3 from rfl]
        refine jj_Rh (jj_gs_set0 (B := h) (L := []) (b := 417) (len := 80) (x := ((nI (L0.length)) : Int32).toNatClampNeg) rfl (jj_ink (i := (nI (L0.length))) (vp_in_nI (by omega) (by decide)))) ?_
        rw [jj_rs_nil]
        refine jj_fl (fun h9 eh => ?_)
        have m9 : wst c e n o (L0 ++ (1, some v1, some v2, some (L0.length + 1)) :: []) h0 y2 h9 := by
          rw [eh]
          exact wst_set he m la_get la_set (fun r q => wrl_3 q)
        clear eh
        revert h9
        intro h m
        show jj_R _ _ kc ks (jj_S, 782, h, g) 191 [(0, .ref 49), (1, .int 1), (2, .ref (417 + ((nI (L0.length)) : Int32).toNatClampNeg))] [] Q
        refine rr_aload_n 0 rfl rfl dX10_readsStep_191 ?_
        refine rr_bipush 59 rfl dX10_readsStep_192 ?_
        refine rr_callV (As := [.int 59]) (rest := []) (kc2 := 0) (ks2 := 0) dX10_readsStep_194 okX10_sign lX10_167 lo_49 sh_49 rfl rfl (Nat.le_of_ble_eq_true rfl) (Nat.le_of_ble_eq_true rfl) rfl (by omega) (by simp [jj_rk] <;> first | exact Or.inl (lr_416 (jj_ink (i := (nI (L0.length))) (vp_in_nI (by omega) (by decide))))) (by simp [jj_rk] <;> first | exact Or.inl (lr_416 (jj_ink (i := (nI (L0.length))) (vp_in_nI (by omega) (by decide))))) ?_
        refine ll_sign (X := 59) wst_R he6 sg_59 m (by omega) (fun b9 y9 h e1 hy9 sy9 m => ?_) (fun k p h e1 m => ?_)
        · skip
          rw [sy2] at e1
          rw [pb_ok e1] at k1 k2
          show jj_R _ _ kc ks (jj_S, 782, h, g) 197 [(0, .ref 49), (1, .int 1), (2, .ref (417 + ((nI (L0.length)) : Int32).toNatClampNeg))] [] Q
          refine rr_return dX10_readsStep_197 rfl ?_
          exact k1 _ b9 y9 _ rfl (by omega) sy9 m
        · skip
          rw [sy2] at e1
          rw [pb_er e1] at k2
          show jj_R _ _ kc ks (jj_S, 782, h, g) 197 [(0, .ref 49), (1, .int 1), (2, .ref (417 + ((nI (L0.length)) : Int32).toNatClampNeg))] [] Q
          refine rr_return dX10_readsStep_197 rfl ?_
          exact k2 k p _ rfl m
      · skip
        rw [sy1] at e1
        rw [pb_er e1] at k2
        show jj_R _ _ kc ks (jj_S, 782, h, g) 110 [(0, .ref 49), (1, .int 1), (2, .ref (417 + ((nI (L0.length)) : Int32).toNatClampNeg))] [.int 0, .int 2, .ref (417 + ((nI (L0.length)) : Int32).toNatClampNeg)] Q
        refine rr_iastore dX10_readsStep_110 (lr_416 (jj_ink (i := (nI (L0.length))) (vp_in_nI (by omega) (by decide)))) (sr_416 (jj_ink (i := (nI (L0.length))) (vp_in_nI (by omega) (by decide)))) (jj_inL rfl) ?_
        rw [show (2 : Int32).toNatClampNeg = 2 from rfl]
        refine jj_Rh (jj_gs_set0 (B := h) (L := []) (b := 417) (len := 80) (x := ((nI (L0.length)) : Int32).toNatClampNeg) rfl (jj_ink (i := (nI (L0.length))) (vp_in_nI (by omega) (by decide)))) ?_
        rw [jj_rs_nil]
        refine jj_fl (fun h9 eh => ?_)
        have m9 : wer c e h0 k p h9 := by
          rw [eh]
          exact wer_g m
        clear eh
        revert h9
        intro h m
        show jj_R _ _ kc ks (jj_S, 782, h, g) 111 [(0, .ref 49), (1, .int 1), (2, .ref (417 + ((nI (L0.length)) : Int32).toNatClampNeg))] [] Q
        refine rr_iload_n 1 rfl rfl dX10_readsStep_111 ?_
        refine rr_bipush 6 rfl dX10_readsStep_112 ?_
        refine rr_icmp_ne dX10_readsStep_114 (fun _ => ?_) (fun c => absurd c (by decide))
        refine rr_aload_n 2 rfl rfl dX10_readsStep_184 ?_
        refine rr_iconst 3 rfl dX10_readsStep_185 ?_
        refine rr_aload_n 0 rfl rfl dX10_readsStep_186 ?_
        refine rr_getI dX10_readsStep_187 fX10_248 lo_49 sh_49 rfl ?_
        refine rr_iastore dX10_readsStep_190 (lr_416 (jj_ink (i := (nI (L0.length))) (vp_in_nI (by omega) (by decide)))) (sr_416 (jj_ink (i := (nI (L0.length))) (vp_in_nI (by omega) (by decide)))) (jj_inL rfl) ?_
        rw [show (3 : Int32).toNatClampNeg = 3 from rfl]
        refine jj_Rh (jj_gs_set0 (B := h) (L := []) (b := 417) (len := 80) (x := ((nI (L0.length)) : Int32).toNatClampNeg) rfl (jj_ink (i := (nI (L0.length))) (vp_in_nI (by omega) (by decide)))) ?_
        rw [jj_rs_nil]
        refine jj_fl (fun h9 eh => ?_)
        have m9 : wer c e h0 k p h9 := by
          rw [eh]
          exact wer_g m
        clear eh
        revert h9
        intro h m
        show jj_R _ _ kc ks (jj_S, 782, h, g) 191 [(0, .ref 49), (1, .int 1), (2, .ref (417 + ((nI (L0.length)) : Int32).toNatClampNeg))] [] Q
        refine rr_aload_n 0 rfl rfl dX10_readsStep_191 ?_
        refine rr_bipush 59 rfl dX10_readsStep_192 ?_
        refine rr_callV (As := [.int 59]) (rest := []) (kc2 := 0) (ks2 := 0) dX10_readsStep_194 okX10_sign lX10_167 lo_49 sh_49 rfl rfl (Nat.le_of_ble_eq_true rfl) (Nat.le_of_ble_eq_true rfl) rfl (by omega) (by simp [jj_rk] <;> first | exact Or.inl (lr_416 (jj_ink (i := (nI (L0.length))) (vp_in_nI (by omega) (by decide))))) (by simp [jj_rk] <;> first | exact Or.inl (lr_416 (jj_ink (i := (nI (L0.length))) (vp_in_nI (by omega) (by decide))))) ?_
        refine nf_sign (by omega) m.2.2.1 ?_
        show jj_R _ _ kc ks (jj_S, 782, h, g) 197 [(0, .ref 49), (1, .int 1), (2, .ref (417 + ((nI (L0.length)) : Int32).toNatClampNeg))] [] Q
        refine rr_return dX10_readsStep_197 rfl ?_
        exact k2 k p _ rfl m
    · skip
      rw [sy0] at e1
      rw [pb_er e1] at k2
      show jj_R _ _ kc ks (jj_S, 782, h, g) 89 [(0, .ref 49), (1, .int 1), (2, .ref (417 + ((nI (L0.length)) : Int32).toNatClampNeg))] [.int 0, .int 1, .ref (417 + ((nI (L0.length)) : Int32).toNatClampNeg)] Q
      refine rr_iastore dX10_readsStep_89 (lr_416 (jj_ink (i := (nI (L0.length))) (vp_in_nI (by omega) (by decide)))) (sr_416 (jj_ink (i := (nI (L0.length))) (vp_in_nI (by omega) (by decide)))) (jj_inL rfl) ?_
      rw [show (1 : Int32).toNatClampNeg = 1 from rfl]
      refine jj_Rh (jj_gs_set0 (B := h) (L := []) (b := 417) (len := 80) (x := ((nI (L0.length)) : Int32).toNatClampNeg) rfl (jj_ink (i := (nI (L0.length))) (vp_in_nI (by omega) (by decide)))) ?_
      rw [jj_rs_nil]
      refine jj_fl (fun h9 eh => ?_)
      have m9 : wer c e h0 k p h9 := by
        rw [eh]
        exact wer_g m
      clear eh
      revert h9
      intro h m
      show jj_R _ _ kc ks (jj_S, 782, h, g) 90 [(0, .ref 49), (1, .int 1), (2, .ref (417 + ((nI (L0.length)) : Int32).toNatClampNeg))] [] Q
      refine rr_iload_n 1 rfl rfl dX10_readsStep_90 ?_
      refine rr_iconst 2 rfl dX10_readsStep_91 ?_
      refine rr_icmp_ge dX10_readsStep_92 (fun c => absurd c (by decide)) (fun _ => ?_)
      refine rr_aload_n 2 rfl rfl dX10_readsStep_95 ?_
      refine rr_iconst 2 rfl dX10_readsStep_96 ?_
      refine rr_aload_n 0 rfl rfl dX10_readsStep_97 ?_
      refine rr_iconst 0 rfl dX10_readsStep_98 ?_
      refine rr_aload_n 0 rfl rfl dX10_readsStep_99 ?_
      refine rr_getR dX10_readsStep_100 fX10_23 lo_49 sh_49 rfl ?_
      refine rr_iconst 0 rfl dX10_readsStep_103 ?_
      refine rr_iaload dX10_readsStep_104 lo_53 sh_53 (jj_inL rfl) ?_
      rw [show (h 53) (0 : Int32).toNatClampNeg = (h 53) 0 from rfl]
      refine rr_iconst 1 rfl dX10_readsStep_105 ?_
      refine rr_isub dX10_readsStep_106 ?_
      refine rr_callV (As := [.int 0, .int (((h 53) 0) - 1)]) (rest := [.int 2, .ref (417 + ((nI (L0.length)) : Int32).toNatClampNeg)]) (kc2 := 0) (ks2 := 0) dX10_readsStep_107 okX10_number lX10_157 lo_49 sh_49 rfl rfl (Nat.le_of_ble_eq_true rfl) (Nat.le_of_ble_eq_true rfl) rfl (by omega) (by simp [jj_rk] <;> first | exact Or.inl (lr_416 (jj_ink (i := (nI (L0.length))) (vp_in_nI (by omega) (by decide)))) | exact Or.inl (lr_416 (jj_ink (i := (nI (L0.length))) (vp_in_nI (by omega) (by decide))))) (by simp [jj_rk] <;> first | exact Or.inl (lr_416 (jj_ink (i := (nI (L0.length))) (vp_in_nI (by omega) (by decide)))) | exact Or.inl (lr_416 (jj_ink (i := (nI (L0.length))) (vp_in_nI (by omega) (by decide))))) ?_
      refine nf_number (by omega) m.2.2.1 ?_
      show jj_R _ _ kc ks (jj_S, 782, h, g) 110 [(0, .ref 49), (1, .int 1), (2, .ref (417 + ((nI (L0.length)) : Int32).toNatClampNeg))] [.int 0, .int 2, .ref (417 + ((nI (L0.length)) : Int32).toNatClampNeg)] Q
      refine rr_iastore dX10_readsStep_110 (lr_416 (jj_ink (i := (nI (L0.length))) (vp_in_nI (by omega) (by decide)))) (sr_416 (jj_ink (i := (nI (L0.length))) (vp_in_nI (by omega) (by decide)))) (jj_inL rfl) ?_
      rw [show (2 : Int32).toNatClampNeg = 2 from rfl]
      refine jj_Rh (jj_gs_set0 (B := h) (L := []) (b := 417) (len := 80) (x := ((nI (L0.length)) : Int32).toNatClampNeg) rfl (jj_ink (i := (nI (L0.length))) (vp_in_nI (by omega) (by decide)))) ?_
      rw [jj_rs_nil]
      refine jj_fl (fun h9 eh => ?_)
      have m9 : wer c e h0 k p h9 := by
        rw [eh]
        exact wer_g m
      clear eh
      revert h9
      intro h m
      show jj_R _ _ kc ks (jj_S, 782, h, g) 111 [(0, .ref 49), (1, .int 1), (2, .ref (417 + ((nI (L0.length)) : Int32).toNatClampNeg))] [] Q
      refine rr_iload_n 1 rfl rfl dX10_readsStep_111 ?_
      refine rr_bipush 6 rfl dX10_readsStep_112 ?_
      refine rr_icmp_ne dX10_readsStep_114 (fun _ => ?_) (fun c => absurd c (by decide))
      refine rr_aload_n 2 rfl rfl dX10_readsStep_184 ?_
      refine rr_iconst 3 rfl dX10_readsStep_185 ?_
      refine rr_aload_n 0 rfl rfl dX10_readsStep_186 ?_
      refine rr_getI dX10_readsStep_187 fX10_248 lo_49 sh_49 rfl ?_
      refine rr_iastore dX10_readsStep_190 (lr_416 (jj_ink (i := (nI (L0.length))) (vp_in_nI (by omega) (by decide)))) (sr_416 (jj_ink (i := (nI (L0.length))) (vp_in_nI (by omega) (by decide)))) (jj_inL rfl) ?_
      rw [show (3 : Int32).toNatClampNeg = 3 from rfl]
      refine jj_Rh (jj_gs_set0 (B := h) (L := []) (b := 417) (len := 80) (x := ((nI (L0.length)) : Int32).toNatClampNeg) rfl (jj_ink (i := (nI (L0.length))) (vp_in_nI (by omega) (by decide)))) ?_
      rw [jj_rs_nil]
      refine jj_fl (fun h9 eh => ?_)
      have m9 : wer c e h0 k p h9 := by
        rw [eh]
        exact wer_g m
      clear eh
      revert h9
      intro h m
      show jj_R _ _ kc ks (jj_S, 782, h, g) 191 [(0, .ref 49), (1, .int 1), (2, .ref (417 + ((nI (L0.length)) : Int32).toNatClampNeg))] [] Q
      refine rr_aload_n 0 rfl rfl dX10_readsStep_191 ?_
      refine rr_bipush 59 rfl dX10_readsStep_192 ?_
      refine rr_callV (As := [.int 59]) (rest := []) (kc2 := 0) (ks2 := 0) dX10_readsStep_194 okX10_sign lX10_167 lo_49 sh_49 rfl rfl (Nat.le_of_ble_eq_true rfl) (Nat.le_of_ble_eq_true rfl) rfl (by omega) (by simp [jj_rk] <;> first | exact Or.inl (lr_416 (jj_ink (i := (nI (L0.length))) (vp_in_nI (by omega) (by decide))))) (by simp [jj_rk] <;> first | exact Or.inl (lr_416 (jj_ink (i := (nI (L0.length))) (vp_in_nI (by omega) (by decide))))) ?_
      refine nf_sign (by omega) m.2.2.1 ?_
      show jj_R _ _ kc ks (jj_S, 782, h, g) 197 [(0, .ref 49), (1, .int 1), (2, .ref (417 + ((nI (L0.length)) : Int32).toNatClampNeg))] [] Q
      refine rr_return dX10_readsStep_197 rfl ?_
      exact k2 k p _ rfl m
  · skip
    have hp : pstep S c e n L0.length x = psgl c e n 2 L0.length x := by unfold pstep; rw [q, if_neg (by decide), if_neg (by decide), if_pos rfl]
    rw [hp] at k1 k2
    rw [q]
    have sk2 := sk_2 (c := c) (e := e) (a := x) (by rw [q]; decide)
    unfold psgl at k1 k2
    show jj_R _ _ kc ks (jj_S, 782, h, g) 4 [(0, .ref 49)] [.int 2] Q
    refine rr_istore_n [(0, .ref 49), (1, .int 2)] dX10_readsStep_4 rfl (by decide) rfl ?_
    refine rr_iload_n 1 rfl rfl dX10_readsStep_5 ?_
    refine rr_iconst (-1) rfl dX10_readsStep_6 ?_
    refine rr_icmp_ne dX10_readsStep_7 (fun _ => ?_) (fun c => absurd c (by decide))
    refine rr_iload_n 1 rfl rfl dX10_readsStep_19 ?_
    refine rr_bipush 6 rfl dX10_readsStep_20 ?_
    refine rr_icmp_ne dX10_readsStep_22 (fun _ => ?_) (fun c => absurd c (by decide))
    refine rr_aload_n 0 rfl rfl dX10_readsStep_33 ?_
    refine rr_getI dX10_readsStep_34 fX10_111 lo_49 sh_49 rfl ?_
    rw [show (h 49) 5 = 0 from m.1.2.2.2.2]
    refine rr_if_eq dX10_readsStep_37 (fun _ => ?_) (fun c => absurd (by decide) c)
    refine rr_aload_n 0 rfl rfl dX10_readsStep_41 ?_
    refine rr_callV (As := []) (rest := []) (kc2 := 0) (ks2 := 0) dX10_readsStep_42 okX10_skipWord lX10_144 lo_49 sh_49 rfl rfl (Nat.le_of_ble_eq_true rfl) (Nat.le_of_ble_eq_true rfl) rfl (by omega) (by simp [jj_rk]) (by simp [jj_rk]) ?_
    refine ll_skip wst_R he6 m sk2.1 (by omega) (fun y0 h hy0 hye sy0 m => ?_)
    show jj_R _ _ kc ks (jj_S, 782, h, g) 45 [(0, .ref 49), (1, .int 2)] [] Q
    refine rr_aload_n 0 rfl rfl dX10_readsStep_45 ?_
    refine rr_getR dX10_readsStep_46 fX10_58 lo_49 sh_49 rfl ?_
    refine rr_aload_n 0 rfl rfl dX10_readsStep_49 ?_
    refine rr_getI dX10_readsStep_50 fX10_248 lo_49 sh_49 rfl ?_
    rw [show (h 49) 26 = (nI (L0.length)) from m.2.2.1]
    refine rr_aaload dX10_readsStep_53 lo_416 sh_416 (vp_in_nI (by omega) (by decide)) ?_
    refine rr_astore_n [(0, .ref 49), (1, .int 2), (2, .ref (417 + ((nI (L0.length)) : Int32).toNatClampNeg))] dX10_readsStep_54 rfl (by decide) rfl ?_
    refine rr_aload_n 0 rfl rfl dX10_readsStep_55 ?_
    refine rr_dup rfl dX10_readsStep_56 ?_
    refine rr_getI dX10_readsStep_57 fX10_248 lo_49 sh_49 rfl ?_
    rw [show (h 49) 26 = (nI (L0.length)) from m.2.2.1]
    refine rr_iconst 1 rfl dX10_readsStep_60 ?_
    refine rr_iadd dX10_readsStep_61 ?_
    refine rr_putI dX10_readsStep_62 fX10_248 ni10_26 lo_49 sh_49 rfl ?_
    rw [jj_rs_set0 (B := h) (o := 49) (r := (h 49)) rfl]
    refine rr_aload_n 2 rfl rfl dX10_readsStep_65 ?_
    refine rr_iconst 0 rfl dX10_readsStep_66 ?_
    refine rr_iload_n 1 rfl rfl dX10_readsStep_67 ?_
    refine rr_iastore dX10_readsStep_68 (lr_416 (jj_ink (i := (nI (L0.length))) (vp_in_nI (by omega) (by decide)))) (sr_416 (jj_ink (i := (nI (L0.length))) (vp_in_nI (by omega) (by decide)))) (jj_inL rfl) ?_
    rw [show (0 : Int32).toNatClampNeg = 0 from rfl]
    refine jj_Rh (jj_gs_set0 (B := h) (L := [(49, (upd (h 49) (26) ((nI (L0.length)) + 1)))]) (b := 417) (len := 80) (x := ((nI (L0.length)) : Int32).toNatClampNeg) rfl (jj_ink (i := (nI (L0.length))) (vp_in_nI (by omega) (by decide)))) ?_
    refine jj_fl (fun h9 eh => ?_)
    have m9 : wst c e n o (L0 ++ [(2, none, none, none)]) h0 y0 h9 := by
      rw [eh]
      exact wst_new he m (by omega) rfl
    clear eh
    revert h9
    intro h m
    show jj_R _ _ kc ks (jj_S, 782, h, g) 69 [(0, .ref 49), (1, .int 2), (2, .ref (417 + ((nI (L0.length)) : Int32).toNatClampNeg))] [] Q
    refine rr_iload_n 1 rfl rfl dX10_readsStep_69 ?_
    refine rr_iconst 5 rfl dX10_readsStep_70 ?_
    refine rr_icmp_ge dX10_readsStep_71 (fun c => absurd c (by decide)) (fun _ => ?_)
    refine rr_aload_n 2 rfl rfl dX10_readsStep_74 ?_
    refine rr_iconst 1 rfl dX10_readsStep_75 ?_
    refine rr_aload_n 0 rfl rfl dX10_readsStep_76 ?_
    refine rr_iconst 0 rfl dX10_readsStep_77 ?_
    refine rr_aload_n 0 rfl rfl dX10_readsStep_78 ?_
    refine rr_getR dX10_readsStep_79 fX10_23 lo_49 sh_49 rfl ?_
    refine rr_iconst 0 rfl dX10_readsStep_82 ?_
    refine rr_iaload dX10_readsStep_83 lo_53 sh_53 (jj_inL rfl) ?_
    rw [show (h 53) (0 : Int32).toNatClampNeg = (nI n) from m.2.2.2.2.1]
    refine rr_iconst 1 rfl dX10_readsStep_84 ?_
    refine rr_isub dX10_readsStep_85 ?_
    refine rr_callV (As := [.int 0, .int ((nI n) - 1)]) (rest := [.int 1, .ref (417 + ((nI (L0.length)) : Int32).toNatClampNeg)]) (kc2 := 0) (ks2 := 0) dX10_readsStep_86 okX10_number lX10_157 lo_49 sh_49 rfl rfl (Nat.le_of_ble_eq_true rfl) (Nat.le_of_ble_eq_true rfl) rfl (by omega) (by simp [jj_rk] <;> first | exact Or.inl (lr_416 (jj_ink (i := (nI (L0.length))) (vp_in_nI (by omega) (by decide)))) | exact Or.inl (lr_416 (jj_ink (i := (nI (L0.length))) (vp_in_nI (by omega) (by decide))))) (by simp [jj_rk] <;> first | exact Or.inl (lr_416 (jj_ink (i := (nI (L0.length))) (vp_in_nI (by omega) (by decide)))) | exact Or.inl (lr_416 (jj_ink (i := (nI (L0.length))) (vp_in_nI (by omega) (by decide))))) ?_
    refine ll_num (lim := n) wst_R he6 m (by omega) rfl (by omega) (fun v1 b1 y1 h e1 hv1 hy1 sy1 m => ?_) (fun k p h e1 m => ?_)
    · skip
      rw [sy0] at e1
      rw [pb_ok e1] at k1 k2
      show jj_R _ _ kc ks (jj_S, 782, h, g) 89 [(0, .ref 49), (1, .int 2), (2, .ref (417 + ((nI (L0.length)) : Int32).toNatClampNeg))] [.int (nI v1), .int 1, .ref (417 + ((nI (L0.length)) : Int32).toNatClampNeg)] Q
      refine rr_iastore dX10_readsStep_89 (lr_416 (jj_ink (i := (nI (L0.length))) (vp_in_nI (by omega) (by decide)))) (sr_416 (jj_ink (i := (nI (L0.length))) (vp_in_nI (by omega) (by decide)))) (jj_inL rfl) ?_
      rw [show (1 : Int32).toNatClampNeg = 1 from rfl]
      refine jj_Rh (jj_gs_set0 (B := h) (L := []) (b := 417) (len := 80) (x := ((nI (L0.length)) : Int32).toNatClampNeg) rfl (jj_ink (i := (nI (L0.length))) (vp_in_nI (by omega) (by decide)))) ?_
      rw [jj_rs_nil]
      refine jj_fl (fun h9 eh => ?_)
      have m9 : wst c e n o (L0 ++ [(2, some v1, none, none)]) h0 y1 h9 := by
        rw [eh]
        exact wst_set he m la_get la_set (fun r q => wrl_1 q)
      clear eh
      revert h9
      intro h m
      show jj_R _ _ kc ks (jj_S, 782, h, g) 90 [(0, .ref 49), (1, .int 2), (2, .ref (417 + ((nI (L0.length)) : Int32).toNatClampNeg))] [] Q
      refine rr_iload_n 1 rfl rfl dX10_readsStep_90 ?_
      refine rr_iconst 2 rfl dX10_readsStep_91 ?_
      refine rr_icmp_ge dX10_readsStep_92 (fun _ => ?_) (fun c => absurd (by decide) c)
      refine rr_iload_n 1 rfl rfl dX10_readsStep_111 ?_
      refine rr_bipush 6 rfl dX10_readsStep_112 ?_
      refine rr_icmp_ne dX10_readsStep_114 (fun _ => ?_) (fun c => absurd c (by decide))
      refine rr_aload_n 2 rfl rfl dX10_readsStep_184 ?_
      refine rr_iconst 3 rfl dX10_readsStep_185 ?_
      refine rr_aload_n 0 rfl rfl dX10_readsStep_186 ?_
      refine rr_getI dX10_readsStep_187 fX10_248 lo_49 sh_49 rfl ?_
      rw [show (h 49) 26 = (nI (L0.length + 1)) from (m.2.2.1.trans (congrArg nI (by rw [List.length_append, List.length_cons, List.length_nil])))]
      refine rr_iastore dX10_readsStep_190 (lr_416 (jj_ink (i := (nI (L0.length))) (vp_in_nI (by omega) (by decide)))) (sr_416 (jj_ink (i := (nI (L0.length))) (vp_in_nI (by omega) (by decide)))) (jj_inL rfl) ?_
      rw [show (3 : Int32).toNatClampNeg = 3 from rfl]
      refine jj_Rh (jj_gs_set0 (B := h) (L := []) (b := 417) (len := 80) (x := ((nI (L0.length)) : Int32).toNatClampNeg) rfl (jj_ink (i := (nI (L0.length))) (vp_in_nI (by omega) (by decide)))) ?_
      rw [jj_rs_nil]
      refine jj_fl (fun h9 eh => ?_)
      have m9 : wst c e n o (L0 ++ (2, some v1, none, some (L0.length + 1)) :: []) h0 y1 h9 := by
        rw [eh]
        exact wst_set he m la_get la_set (fun r q => wrl_3 q)
      clear eh
      revert h9
      intro h m
      show jj_R _ _ kc ks (jj_S, 782, h, g) 191 [(0, .ref 49), (1, .int 2), (2, .ref (417 + ((nI (L0.length)) : Int32).toNatClampNeg))] [] Q
      refine rr_aload_n 0 rfl rfl dX10_readsStep_191 ?_
      refine rr_bipush 59 rfl dX10_readsStep_192 ?_
      refine rr_callV (As := [.int 59]) (rest := []) (kc2 := 0) (ks2 := 0) dX10_readsStep_194 okX10_sign lX10_167 lo_49 sh_49 rfl rfl (Nat.le_of_ble_eq_true rfl) (Nat.le_of_ble_eq_true rfl) rfl (by omega) (by simp [jj_rk] <;> first | exact Or.inl (lr_416 (jj_ink (i := (nI (L0.length))) (vp_in_nI (by omega) (by decide))))) (by simp [jj_rk] <;> first | exact Or.inl (lr_416 (jj_ink (i := (nI (L0.length))) (vp_in_nI (by omega) (by decide))))) ?_
      refine ll_sign (X := 59) wst_R he6 sg_59 m (by omega) (fun b9 y9 h e1 hy9 sy9 m => ?_) (fun k p h e1 m => ?_)
      · skip
        rw [sy1] at e1
        rw [pb_ok e1] at k1 k2
        show jj_R _ _ kc ks (jj_S, 782, h, g) 197 [(0, .ref 49), (1, .int 2), (2, .ref (417 + ((nI (L0.length)) : Int32).toNatClampNeg))] [] Q
        refine rr_return dX10_readsStep_197 rfl ?_
        exact k1 _ b9 y9 _ rfl (by omega) sy9 m
      · skip
        rw [sy1] at e1
        rw [pb_er e1] at k2
        show jj_R _ _ kc ks (jj_S, 782, h, g) 197 [(0, .ref 49), (1, .int 2), (2, .ref (417 + ((nI (L0.length)) : Int32).toNatClampNeg))] [] Q
        refine rr_return dX10_readsStep_197 rfl ?_
        exact k2 k p _ rfl m
    · skip
      rw [sy0] at e1
      rw [pb_er e1] at k2
      show jj_R _ _ kc ks (jj_S, 782, h, g) 89 [(0, .ref 49), (1, .int 2), (2, .ref (417 + ((nI (L0.length)) : Int32).toNatClampNeg))] [.int 0, .int 1, .ref (417 + ((nI (L0.length)) : Int32).toNatClampNeg)] Q
      refine rr_iastore dX10_readsStep_89 (lr_416 (jj_ink (i := (nI (L0.length))) (vp_in_nI (by omega) (by decide)))) (sr_416 (jj_ink (i := (nI (L0.length))) (vp_in_nI (by omega) (by decide)))) (jj_inL rfl) ?_
      rw [show (1 : Int32).toNatClampNeg = 1 from rfl]
      refine jj_Rh (jj_gs_set0 (B := h) (L := []) (b := 417) (len := 80) (x := ((nI (L0.length)) : Int32).toNatClampNeg) rfl (jj_ink (i := (nI (L0.length))) (vp_in_nI (by omega) (by decide)))) ?_
      rw [jj_rs_nil]
      refine jj_fl (fun h9 eh => ?_)
      have m9 : wer c e h0 k p h9 := by
        rw [eh]
        exact wer_g m
      clear eh
      revert h9
      intro h m
      show jj_R _ _ kc ks (jj_S, 782, h, g) 90 [(0, .ref 49), (1, .int 2), (2, .ref (417 + ((nI (L0.length)) : Int32).toNatClampNeg))] [] Q
      refine rr_iload_n 1 rfl rfl dX10_readsStep_90 ?_
      refine rr_iconst 2 rfl dX10_readsStep_91 ?_
      refine rr_icmp_ge dX10_readsStep_92 (fun _ => ?_) (fun c => absurd (by decide) c)
      refine rr_iload_n 1 rfl rfl dX10_readsStep_111 ?_
      refine rr_bipush 6 rfl dX10_readsStep_112 ?_
      refine rr_icmp_ne dX10_readsStep_114 (fun _ => ?_) (fun c => absurd c (by decide))
      refine rr_aload_n 2 rfl rfl dX10_readsStep_184 ?_
      refine rr_iconst 3 rfl dX10_readsStep_185 ?_
      refine rr_aload_n 0 rfl rfl dX10_readsStep_186 ?_
      refine rr_getI dX10_readsStep_187 fX10_248 lo_49 sh_49 rfl ?_
      refine rr_iastore dX10_readsStep_190 (lr_416 (jj_ink (i := (nI (L0.length))) (vp_in_nI (by omega) (by decide)))) (sr_416 (jj_ink (i := (nI (L0.length))) (vp_in_nI (by omega) (by decide)))) (jj_inL rfl) ?_
      rw [show (3 : Int32).toNatClampNeg = 3 from rfl]
      refine jj_Rh (jj_gs_set0 (B := h) (L := []) (b := 417) (len := 80) (x := ((nI (L0.length)) : Int32).toNatClampNeg) rfl (jj_ink (i := (nI (L0.length))) (vp_in_nI (by omega) (by decide)))) ?_
      rw [jj_rs_nil]
      refine jj_fl (fun h9 eh => ?_)
      have m9 : wer c e h0 k p h9 := by
        rw [eh]
        exact wer_g m
      clear eh
      revert h9
      intro h m
      show jj_R _ _ kc ks (jj_S, 782, h, g) 191 [(0, .ref 49), (1, .int 2), (2, .ref (417 + ((nI (L0.length)) : Int32).toNatClampNeg))] [] Q
      refine rr_aload_n 0 rfl rfl dX10_readsStep_191 ?_
      refine rr_bipush 59 rfl dX10_readsStep_192 ?_
      refine rr_callV (As := [.int 59]) (rest := []) (kc2 := 0) (ks2 := 0) dX10_readsStep_194 okX10_sign lX10_167 lo_49 sh_49 rfl rfl (Nat.le_of_ble_eq_true rfl) (Nat.le_of_ble_eq_true rfl) rfl (by omega) (by simp [jj_rk] <;> first | exact Or.inl (lr_416 (jj_ink (i := (nI (L0.length))) (vp_in_nI (by omega) (by decide))))) (by simp [jj_rk] <;> first | exact Or.inl (lr_416 (jj_ink (i := (nI (L0.length))) (vp_in_nI (by omega) (by decide))))) ?_
      refine nf_sign (by omega) m.2.2.1 ?_
      show jj_R _ _ kc ks (jj_S, 782, h, g) 197 [(0, .ref 49), (1, .int 2), (2, .ref (417 + ((nI (L0.length)) : Int32).toNatClampNeg))] [] Q
      refine rr_return dX10_readsStep_197 rfl ?_
      exact k2 k p _ rfl m
  · skip
    have hp : pstep S c e n L0.length x = psgl c e n 3 L0.length x := by unfold pstep; rw [q, if_neg (by decide), if_neg (by decide), if_neg (by decide), if_pos rfl]
    rw [hp] at k1 k2
    rw [q]
    have sk2 := sk_2 (c := c) (e := e) (a := x) (by rw [q]; decide)
    unfold psgl at k1 k2
    show jj_R _ _ kc ks (jj_S, 782, h, g) 4 [(0, .ref 49)] [.int 3] Q
    refine rr_istore_n [(0, .ref 49), (1, .int 3)] dX10_readsStep_4 rfl (by decide) rfl ?_
    refine rr_iload_n 1 rfl rfl dX10_readsStep_5 ?_
    refine rr_iconst (-1) rfl dX10_readsStep_6 ?_
    refine rr_icmp_ne dX10_readsStep_7 (fun _ => ?_) (fun c => absurd c (by decide))
    refine rr_iload_n 1 rfl rfl dX10_readsStep_19 ?_
    refine rr_bipush 6 rfl dX10_readsStep_20 ?_
    refine rr_icmp_ne dX10_readsStep_22 (fun _ => ?_) (fun c => absurd c (by decide))
    refine rr_aload_n 0 rfl rfl dX10_readsStep_33 ?_
    refine rr_getI dX10_readsStep_34 fX10_111 lo_49 sh_49 rfl ?_
    rw [show (h 49) 5 = 0 from m.1.2.2.2.2]
    refine rr_if_eq dX10_readsStep_37 (fun _ => ?_) (fun c => absurd (by decide) c)
    refine rr_aload_n 0 rfl rfl dX10_readsStep_41 ?_
    refine rr_callV (As := []) (rest := []) (kc2 := 0) (ks2 := 0) dX10_readsStep_42 okX10_skipWord lX10_144 lo_49 sh_49 rfl rfl (Nat.le_of_ble_eq_true rfl) (Nat.le_of_ble_eq_true rfl) rfl (by omega) (by simp [jj_rk]) (by simp [jj_rk]) ?_
    refine ll_skip wst_R he6 m sk2.1 (by omega) (fun y0 h hy0 hye sy0 m => ?_)
    show jj_R _ _ kc ks (jj_S, 782, h, g) 45 [(0, .ref 49), (1, .int 3)] [] Q
    refine rr_aload_n 0 rfl rfl dX10_readsStep_45 ?_
    refine rr_getR dX10_readsStep_46 fX10_58 lo_49 sh_49 rfl ?_
    refine rr_aload_n 0 rfl rfl dX10_readsStep_49 ?_
    refine rr_getI dX10_readsStep_50 fX10_248 lo_49 sh_49 rfl ?_
    rw [show (h 49) 26 = (nI (L0.length)) from m.2.2.1]
    refine rr_aaload dX10_readsStep_53 lo_416 sh_416 (vp_in_nI (by omega) (by decide)) ?_
    refine rr_astore_n [(0, .ref 49), (1, .int 3), (2, .ref (417 + ((nI (L0.length)) : Int32).toNatClampNeg))] dX10_readsStep_54 rfl (by decide) rfl ?_
    refine rr_aload_n 0 rfl rfl dX10_readsStep_55 ?_
    refine rr_dup rfl dX10_readsStep_56 ?_
    refine rr_getI dX10_readsStep_57 fX10_248 lo_49 sh_49 rfl ?_
    rw [show (h 49) 26 = (nI (L0.length)) from m.2.2.1]
    refine rr_iconst 1 rfl dX10_readsStep_60 ?_
    refine rr_iadd dX10_readsStep_61 ?_
    refine rr_putI dX10_readsStep_62 fX10_248 ni10_26 lo_49 sh_49 rfl ?_
    rw [jj_rs_set0 (B := h) (o := 49) (r := (h 49)) rfl]
    refine rr_aload_n 2 rfl rfl dX10_readsStep_65 ?_
    refine rr_iconst 0 rfl dX10_readsStep_66 ?_
    refine rr_iload_n 1 rfl rfl dX10_readsStep_67 ?_
    refine rr_iastore dX10_readsStep_68 (lr_416 (jj_ink (i := (nI (L0.length))) (vp_in_nI (by omega) (by decide)))) (sr_416 (jj_ink (i := (nI (L0.length))) (vp_in_nI (by omega) (by decide)))) (jj_inL rfl) ?_
    rw [show (0 : Int32).toNatClampNeg = 0 from rfl]
    refine jj_Rh (jj_gs_set0 (B := h) (L := [(49, (upd (h 49) (26) ((nI (L0.length)) + 1)))]) (b := 417) (len := 80) (x := ((nI (L0.length)) : Int32).toNatClampNeg) rfl (jj_ink (i := (nI (L0.length))) (vp_in_nI (by omega) (by decide)))) ?_
    refine jj_fl (fun h9 eh => ?_)
    have m9 : wst c e n o (L0 ++ [(3, none, none, none)]) h0 y0 h9 := by
      rw [eh]
      exact wst_new he m (by omega) rfl
    clear eh
    revert h9
    intro h m
    show jj_R _ _ kc ks (jj_S, 782, h, g) 69 [(0, .ref 49), (1, .int 3), (2, .ref (417 + ((nI (L0.length)) : Int32).toNatClampNeg))] [] Q
    refine rr_iload_n 1 rfl rfl dX10_readsStep_69 ?_
    refine rr_iconst 5 rfl dX10_readsStep_70 ?_
    refine rr_icmp_ge dX10_readsStep_71 (fun c => absurd c (by decide)) (fun _ => ?_)
    refine rr_aload_n 2 rfl rfl dX10_readsStep_74 ?_
    refine rr_iconst 1 rfl dX10_readsStep_75 ?_
    refine rr_aload_n 0 rfl rfl dX10_readsStep_76 ?_
    refine rr_iconst 0 rfl dX10_readsStep_77 ?_
    refine rr_aload_n 0 rfl rfl dX10_readsStep_78 ?_
    refine rr_getR dX10_readsStep_79 fX10_23 lo_49 sh_49 rfl ?_
    refine rr_iconst 0 rfl dX10_readsStep_82 ?_
    refine rr_iaload dX10_readsStep_83 lo_53 sh_53 (jj_inL rfl) ?_
    rw [show (h 53) (0 : Int32).toNatClampNeg = (nI n) from m.2.2.2.2.1]
    refine rr_iconst 1 rfl dX10_readsStep_84 ?_
    refine rr_isub dX10_readsStep_85 ?_
    refine rr_callV (As := [.int 0, .int ((nI n) - 1)]) (rest := [.int 1, .ref (417 + ((nI (L0.length)) : Int32).toNatClampNeg)]) (kc2 := 0) (ks2 := 0) dX10_readsStep_86 okX10_number lX10_157 lo_49 sh_49 rfl rfl (Nat.le_of_ble_eq_true rfl) (Nat.le_of_ble_eq_true rfl) rfl (by omega) (by simp [jj_rk] <;> first | exact Or.inl (lr_416 (jj_ink (i := (nI (L0.length))) (vp_in_nI (by omega) (by decide)))) | exact Or.inl (lr_416 (jj_ink (i := (nI (L0.length))) (vp_in_nI (by omega) (by decide))))) (by simp [jj_rk] <;> first | exact Or.inl (lr_416 (jj_ink (i := (nI (L0.length))) (vp_in_nI (by omega) (by decide)))) | exact Or.inl (lr_416 (jj_ink (i := (nI (L0.length))) (vp_in_nI (by omega) (by decide))))) ?_
    refine ll_num (lim := n) wst_R he6 m (by omega) rfl (by omega) (fun v1 b1 y1 h e1 hv1 hy1 sy1 m => ?_) (fun k p h e1 m => ?_)
    · skip
      rw [sy0] at e1
      rw [pb_ok e1] at k1 k2
      show jj_R _ _ kc ks (jj_S, 782, h, g) 89 [(0, .ref 49), (1, .int 3), (2, .ref (417 + ((nI (L0.length)) : Int32).toNatClampNeg))] [.int (nI v1), .int 1, .ref (417 + ((nI (L0.length)) : Int32).toNatClampNeg)] Q
      refine rr_iastore dX10_readsStep_89 (lr_416 (jj_ink (i := (nI (L0.length))) (vp_in_nI (by omega) (by decide)))) (sr_416 (jj_ink (i := (nI (L0.length))) (vp_in_nI (by omega) (by decide)))) (jj_inL rfl) ?_
      rw [show (1 : Int32).toNatClampNeg = 1 from rfl]
      refine jj_Rh (jj_gs_set0 (B := h) (L := []) (b := 417) (len := 80) (x := ((nI (L0.length)) : Int32).toNatClampNeg) rfl (jj_ink (i := (nI (L0.length))) (vp_in_nI (by omega) (by decide)))) ?_
      rw [jj_rs_nil]
      refine jj_fl (fun h9 eh => ?_)
      have m9 : wst c e n o (L0 ++ [(3, some v1, none, none)]) h0 y1 h9 := by
        rw [eh]
        exact wst_set he m la_get la_set (fun r q => wrl_1 q)
      clear eh
      revert h9
      intro h m
      show jj_R _ _ kc ks (jj_S, 782, h, g) 90 [(0, .ref 49), (1, .int 3), (2, .ref (417 + ((nI (L0.length)) : Int32).toNatClampNeg))] [] Q
      refine rr_iload_n 1 rfl rfl dX10_readsStep_90 ?_
      refine rr_iconst 2 rfl dX10_readsStep_91 ?_
      refine rr_icmp_ge dX10_readsStep_92 (fun _ => ?_) (fun c => absurd (by decide) c)
      refine rr_iload_n 1 rfl rfl dX10_readsStep_111 ?_
      refine rr_bipush 6 rfl dX10_readsStep_112 ?_
      refine rr_icmp_ne dX10_readsStep_114 (fun _ => ?_) (fun c => absurd c (by decide))
      refine rr_aload_n 2 rfl rfl dX10_readsStep_184 ?_
      refine rr_iconst 3 rfl dX10_readsStep_185 ?_
      refine rr_aload_n 0 rfl rfl dX10_readsStep_186 ?_
      refine rr_getI dX10_readsStep_187 fX10_248 lo_49 sh_49 rfl ?_
      rw [show (h 49) 26 = (nI (L0.length + 1)) from (m.2.2.1.trans (congrArg nI (by rw [List.length_append, List.length_cons, List.length_nil])))]
      refine rr_iastore dX10_readsStep_190 (lr_416 (jj_ink (i := (nI (L0.length))) (vp_in_nI (by omega) (by decide)))) (sr_416 (jj_ink (i := (nI (L0.length))) (vp_in_nI (by omega) (by decide)))) (jj_inL rfl) ?_
      rw [show (3 : Int32).toNatClampNeg = 3 from rfl]
      refine jj_Rh (jj_gs_set0 (B := h) (L := []) (b := 417) (len := 80) (x := ((nI (L0.length)) : Int32).toNatClampNeg) rfl (jj_ink (i := (nI (L0.length))) (vp_in_nI (by omega) (by decide)))) ?_
      rw [jj_rs_nil]
      refine jj_fl (fun h9 eh => ?_)
      have m9 : wst c e n o (L0 ++ (3, some v1, none, some (L0.length + 1)) :: []) h0 y1 h9 := by
        rw [eh]
        exact wst_set he m la_get la_set (fun r q => wrl_3 q)
      clear eh
      revert h9
      intro h m
      show jj_R _ _ kc ks (jj_S, 782, h, g) 191 [(0, .ref 49), (1, .int 3), (2, .ref (417 + ((nI (L0.length)) : Int32).toNatClampNeg))] [] Q
      refine rr_aload_n 0 rfl rfl dX10_readsStep_191 ?_
      refine rr_bipush 59 rfl dX10_readsStep_192 ?_
      refine rr_callV (As := [.int 59]) (rest := []) (kc2 := 0) (ks2 := 0) dX10_readsStep_194 okX10_sign lX10_167 lo_49 sh_49 rfl rfl (Nat.le_of_ble_eq_true rfl) (Nat.le_of_ble_eq_true rfl) rfl (by omega) (by simp [jj_rk] <;> first | exact Or.inl (lr_416 (jj_ink (i := (nI (L0.length))) (vp_in_nI (by omega) (by decide))))) (by simp [jj_rk] <;> first | exact Or.inl (lr_416 (jj_ink (i := (nI (L0.length))) (vp_in_nI (by omega) (by decide))))) ?_
      refine ll_sign (X := 59) wst_R he6 sg_59 m (by omega) (fun b9 y9 h e1 hy9 sy9 m => ?_) (fun k p h e1 m => ?_)
      · skip
        rw [sy1] at e1
        rw [pb_ok e1] at k1 k2
        show jj_R _ _ kc ks (jj_S, 782, h, g) 197 [(0, .ref 49), (1, .int 3), (2, .ref (417 + ((nI (L0.length)) : Int32).toNatClampNeg))] [] Q
        refine rr_return dX10_readsStep_197 rfl ?_
        exact k1 _ b9 y9 _ rfl (by omega) sy9 m
      · skip
        rw [sy1] at e1
        rw [pb_er e1] at k2
        show jj_R _ _ kc ks (jj_S, 782, h, g) 197 [(0, .ref 49), (1, .int 3), (2, .ref (417 + ((nI (L0.length)) : Int32).toNatClampNeg))] [] Q
        refine rr_return dX10_readsStep_197 rfl ?_
        exact k2 k p _ rfl m
    · skip
      rw [sy0] at e1
      rw [pb_er e1] at k2
      show jj_R _ _ kc ks (jj_S, 782, h, g) 89 [(0, .ref 49), (1, .int 3), (2, .ref (417 + ((nI (L0.length)) : Int32).toNatClampNeg))] [.int 0, .int 1, .ref (417 + ((nI (L0.length)) : Int32).toNatClampNeg)] Q
      refine rr_iastore dX10_readsStep_89 (lr_416 (jj_ink (i := (nI (L0.length))) (vp_in_nI (by omega) (by decide)))) (sr_416 (jj_ink (i := (nI (L0.length))) (vp_in_nI (by omega) (by decide)))) (jj_inL rfl) ?_
      rw [show (1 : Int32).toNatClampNeg = 1 from rfl]
      refine jj_Rh (jj_gs_set0 (B := h) (L := []) (b := 417) (len := 80) (x := ((nI (L0.length)) : Int32).toNatClampNeg) rfl (jj_ink (i := (nI (L0.length))) (vp_in_nI (by omega) (by decide)))) ?_
      rw [jj_rs_nil]
      refine jj_fl (fun h9 eh => ?_)
      have m9 : wer c e h0 k p h9 := by
        rw [eh]
        exact wer_g m
      clear eh
      revert h9
      intro h m
      show jj_R _ _ kc ks (jj_S, 782, h, g) 90 [(0, .ref 49), (1, .int 3), (2, .ref (417 + ((nI (L0.length)) : Int32).toNatClampNeg))] [] Q
      refine rr_iload_n 1 rfl rfl dX10_readsStep_90 ?_
      refine rr_iconst 2 rfl dX10_readsStep_91 ?_
      refine rr_icmp_ge dX10_readsStep_92 (fun _ => ?_) (fun c => absurd (by decide) c)
      refine rr_iload_n 1 rfl rfl dX10_readsStep_111 ?_
      refine rr_bipush 6 rfl dX10_readsStep_112 ?_
      refine rr_icmp_ne dX10_readsStep_114 (fun _ => ?_) (fun c => absurd c (by decide))
      refine rr_aload_n 2 rfl rfl dX10_readsStep_184 ?_
      refine rr_iconst 3 rfl dX10_readsStep_185 ?_
      refine rr_aload_n 0 rfl rfl dX10_readsStep_186 ?_
      refine rr_getI dX10_readsStep_187 fX10_248 lo_49 sh_49 rfl ?_
      refine rr_iastore dX10_readsStep_190 (lr_416 (jj_ink (i := (nI (L0.length))) (vp_in_nI (by omega) (by decide)))) (sr_416 (jj_ink (i := (nI (L0.length))) (vp_in_nI (by omega) (by decide)))) (jj_inL rfl) ?_
      rw [show (3 : Int32).toNatClampNeg = 3 from rfl]
      refine jj_Rh (jj_gs_set0 (B := h) (L := []) (b := 417) (len := 80) (x := ((nI (L0.length)) : Int32).toNatClampNeg) rfl (jj_ink (i := (nI (L0.length))) (vp_in_nI (by omega) (by decide)))) ?_
      rw [jj_rs_nil]
      refine jj_fl (fun h9 eh => ?_)
      have m9 : wer c e h0 k p h9 := by
        rw [eh]
        exact wer_g m
      clear eh
      revert h9
      intro h m
      show jj_R _ _ kc ks (jj_S, 782, h, g) 191 [(0, .ref 49), (1, .int 3), (2, .ref (417 + ((nI (L0.length)) : Int32).toNatClampNeg))] [] Q
      refine rr_aload_n 0 rfl rfl dX10_readsStep_191 ?_
      refine rr_bipush 59 rfl dX10_readsStep_192 ?_
      refine rr_callV (As := [.int 59]) (rest := []) (kc2 := 0) (ks2 := 0) dX10_readsStep_194 okX10_sign lX10_167 lo_49 sh_49 rfl rfl (Nat.le_of_ble_eq_true rfl) (Nat.le_of_ble_eq_true rfl) rfl (by omega) (by simp [jj_rk] <;> first | exact Or.inl (lr_416 (jj_ink (i := (nI (L0.length))) (vp_in_nI (by omega) (by decide))))) (by simp [jj_rk] <;> first | exact Or.inl (lr_416 (jj_ink (i := (nI (L0.length))) (vp_in_nI (by omega) (by decide))))) ?_
      refine nf_sign (by omega) m.2.2.1 ?_
      show jj_R _ _ kc ks (jj_S, 782, h, g) 197 [(0, .ref 49), (1, .int 3), (2, .ref (417 + ((nI (L0.length)) : Int32).toNatClampNeg))] [] Q
      refine rr_return dX10_readsStep_197 rfl ?_
      exact k2 k p _ rfl m
  · skip
    have hp : pstep S c e n L0.length x = psgl c e n 4 L0.length x := by unfold pstep; rw [q, if_neg (by decide), if_neg (by decide), if_neg (by decide), if_neg (by decide), if_pos rfl]
    rw [hp] at k1 k2
    rw [q]
    have sk2 := sk_2 (c := c) (e := e) (a := x) (by rw [q]; decide)
    unfold psgl at k1 k2
    show jj_R _ _ kc ks (jj_S, 782, h, g) 4 [(0, .ref 49)] [.int 4] Q
    refine rr_istore_n [(0, .ref 49), (1, .int 4)] dX10_readsStep_4 rfl (by decide) rfl ?_
    refine rr_iload_n 1 rfl rfl dX10_readsStep_5 ?_
    refine rr_iconst (-1) rfl dX10_readsStep_6 ?_
    refine rr_icmp_ne dX10_readsStep_7 (fun _ => ?_) (fun c => absurd c (by decide))
    refine rr_iload_n 1 rfl rfl dX10_readsStep_19 ?_
    refine rr_bipush 6 rfl dX10_readsStep_20 ?_
    refine rr_icmp_ne dX10_readsStep_22 (fun _ => ?_) (fun c => absurd c (by decide))
    refine rr_aload_n 0 rfl rfl dX10_readsStep_33 ?_
    refine rr_getI dX10_readsStep_34 fX10_111 lo_49 sh_49 rfl ?_
    rw [show (h 49) 5 = 0 from m.1.2.2.2.2]
    refine rr_if_eq dX10_readsStep_37 (fun _ => ?_) (fun c => absurd (by decide) c)
    refine rr_aload_n 0 rfl rfl dX10_readsStep_41 ?_
    refine rr_callV (As := []) (rest := []) (kc2 := 0) (ks2 := 0) dX10_readsStep_42 okX10_skipWord lX10_144 lo_49 sh_49 rfl rfl (Nat.le_of_ble_eq_true rfl) (Nat.le_of_ble_eq_true rfl) rfl (by omega) (by simp [jj_rk]) (by simp [jj_rk]) ?_
    refine ll_skip wst_R he6 m sk2.1 (by omega) (fun y0 h hy0 hye sy0 m => ?_)
    show jj_R _ _ kc ks (jj_S, 782, h, g) 45 [(0, .ref 49), (1, .int 4)] [] Q
    refine rr_aload_n 0 rfl rfl dX10_readsStep_45 ?_
    refine rr_getR dX10_readsStep_46 fX10_58 lo_49 sh_49 rfl ?_
    refine rr_aload_n 0 rfl rfl dX10_readsStep_49 ?_
    refine rr_getI dX10_readsStep_50 fX10_248 lo_49 sh_49 rfl ?_
    rw [show (h 49) 26 = (nI (L0.length)) from m.2.2.1]
    refine rr_aaload dX10_readsStep_53 lo_416 sh_416 (vp_in_nI (by omega) (by decide)) ?_
    refine rr_astore_n [(0, .ref 49), (1, .int 4), (2, .ref (417 + ((nI (L0.length)) : Int32).toNatClampNeg))] dX10_readsStep_54 rfl (by decide) rfl ?_
    refine rr_aload_n 0 rfl rfl dX10_readsStep_55 ?_
    refine rr_dup rfl dX10_readsStep_56 ?_
    refine rr_getI dX10_readsStep_57 fX10_248 lo_49 sh_49 rfl ?_
    rw [show (h 49) 26 = (nI (L0.length)) from m.2.2.1]
    refine rr_iconst 1 rfl dX10_readsStep_60 ?_
    refine rr_iadd dX10_readsStep_61 ?_
    refine rr_putI dX10_readsStep_62 fX10_248 ni10_26 lo_49 sh_49 rfl ?_
    rw [jj_rs_set0 (B := h) (o := 49) (r := (h 49)) rfl]
    refine rr_aload_n 2 rfl rfl dX10_readsStep_65 ?_
    refine rr_iconst 0 rfl dX10_readsStep_66 ?_
    refine rr_iload_n 1 rfl rfl dX10_readsStep_67 ?_
    refine rr_iastore dX10_readsStep_68 (lr_416 (jj_ink (i := (nI (L0.length))) (vp_in_nI (by omega) (by decide)))) (sr_416 (jj_ink (i := (nI (L0.length))) (vp_in_nI (by omega) (by decide)))) (jj_inL rfl) ?_
    rw [show (0 : Int32).toNatClampNeg = 0 from rfl]
    refine jj_Rh (jj_gs_set0 (B := h) (L := [(49, (upd (h 49) (26) ((nI (L0.length)) + 1)))]) (b := 417) (len := 80) (x := ((nI (L0.length)) : Int32).toNatClampNeg) rfl (jj_ink (i := (nI (L0.length))) (vp_in_nI (by omega) (by decide)))) ?_
    refine jj_fl (fun h9 eh => ?_)
    have m9 : wst c e n o (L0 ++ [(4, none, none, none)]) h0 y0 h9 := by
      rw [eh]
      exact wst_new he m (by omega) rfl
    clear eh
    revert h9
    intro h m
    show jj_R _ _ kc ks (jj_S, 782, h, g) 69 [(0, .ref 49), (1, .int 4), (2, .ref (417 + ((nI (L0.length)) : Int32).toNatClampNeg))] [] Q
    refine rr_iload_n 1 rfl rfl dX10_readsStep_69 ?_
    refine rr_iconst 5 rfl dX10_readsStep_70 ?_
    refine rr_icmp_ge dX10_readsStep_71 (fun c => absurd c (by decide)) (fun _ => ?_)
    refine rr_aload_n 2 rfl rfl dX10_readsStep_74 ?_
    refine rr_iconst 1 rfl dX10_readsStep_75 ?_
    refine rr_aload_n 0 rfl rfl dX10_readsStep_76 ?_
    refine rr_iconst 0 rfl dX10_readsStep_77 ?_
    refine rr_aload_n 0 rfl rfl dX10_readsStep_78 ?_
    refine rr_getR dX10_readsStep_79 fX10_23 lo_49 sh_49 rfl ?_
    refine rr_iconst 0 rfl dX10_readsStep_82 ?_
    refine rr_iaload dX10_readsStep_83 lo_53 sh_53 (jj_inL rfl) ?_
    rw [show (h 53) (0 : Int32).toNatClampNeg = (nI n) from m.2.2.2.2.1]
    refine rr_iconst 1 rfl dX10_readsStep_84 ?_
    refine rr_isub dX10_readsStep_85 ?_
    refine rr_callV (As := [.int 0, .int ((nI n) - 1)]) (rest := [.int 1, .ref (417 + ((nI (L0.length)) : Int32).toNatClampNeg)]) (kc2 := 0) (ks2 := 0) dX10_readsStep_86 okX10_number lX10_157 lo_49 sh_49 rfl rfl (Nat.le_of_ble_eq_true rfl) (Nat.le_of_ble_eq_true rfl) rfl (by omega) (by simp [jj_rk] <;> first | exact Or.inl (lr_416 (jj_ink (i := (nI (L0.length))) (vp_in_nI (by omega) (by decide)))) | exact Or.inl (lr_416 (jj_ink (i := (nI (L0.length))) (vp_in_nI (by omega) (by decide))))) (by simp [jj_rk] <;> first | exact Or.inl (lr_416 (jj_ink (i := (nI (L0.length))) (vp_in_nI (by omega) (by decide)))) | exact Or.inl (lr_416 (jj_ink (i := (nI (L0.length))) (vp_in_nI (by omega) (by decide))))) ?_
    refine ll_num (lim := n) wst_R he6 m (by omega) rfl (by omega) (fun v1 b1 y1 h e1 hv1 hy1 sy1 m => ?_) (fun k p h e1 m => ?_)
    · skip
      rw [sy0] at e1
      rw [pb_ok e1] at k1 k2
      show jj_R _ _ kc ks (jj_S, 782, h, g) 89 [(0, .ref 49), (1, .int 4), (2, .ref (417 + ((nI (L0.length)) : Int32).toNatClampNeg))] [.int (nI v1), .int 1, .ref (417 + ((nI (L0.length)) : Int32).toNatClampNeg)] Q
      refine rr_iastore dX10_readsStep_89 (lr_416 (jj_ink (i := (nI (L0.length))) (vp_in_nI (by omega) (by decide)))) (sr_416 (jj_ink (i := (nI (L0.length))) (vp_in_nI (by omega) (by decide)))) (jj_inL rfl) ?_
      rw [show (1 : Int32).toNatClampNeg = 1 from rfl]
      refine jj_Rh (jj_gs_set0 (B := h) (L := []) (b := 417) (len := 80) (x := ((nI (L0.length)) : Int32).toNatClampNeg) rfl (jj_ink (i := (nI (L0.length))) (vp_in_nI (by omega) (by decide)))) ?_
      rw [jj_rs_nil]
      refine jj_fl (fun h9 eh => ?_)
      have m9 : wst c e n o (L0 ++ [(4, some v1, none, none)]) h0 y1 h9 := by
        rw [eh]
        exact wst_set he m la_get la_set (fun r q => wrl_1 q)
      clear eh
      revert h9
      intro h m
      show jj_R _ _ kc ks (jj_S, 782, h, g) 90 [(0, .ref 49), (1, .int 4), (2, .ref (417 + ((nI (L0.length)) : Int32).toNatClampNeg))] [] Q
      refine rr_iload_n 1 rfl rfl dX10_readsStep_90 ?_
      refine rr_iconst 2 rfl dX10_readsStep_91 ?_
      refine rr_icmp_ge dX10_readsStep_92 (fun _ => ?_) (fun c => absurd (by decide) c)
      refine rr_iload_n 1 rfl rfl dX10_readsStep_111 ?_
      refine rr_bipush 6 rfl dX10_readsStep_112 ?_
      refine rr_icmp_ne dX10_readsStep_114 (fun _ => ?_) (fun c => absurd c (by decide))
      refine rr_aload_n 2 rfl rfl dX10_readsStep_184 ?_
      refine rr_iconst 3 rfl dX10_readsStep_185 ?_
      refine rr_aload_n 0 rfl rfl dX10_readsStep_186 ?_
      refine rr_getI dX10_readsStep_187 fX10_248 lo_49 sh_49 rfl ?_
      rw [show (h 49) 26 = (nI (L0.length + 1)) from (m.2.2.1.trans (congrArg nI (by rw [List.length_append, List.length_cons, List.length_nil])))]
      refine rr_iastore dX10_readsStep_190 (lr_416 (jj_ink (i := (nI (L0.length))) (vp_in_nI (by omega) (by decide)))) (sr_416 (jj_ink (i := (nI (L0.length))) (vp_in_nI (by omega) (by decide)))) (jj_inL rfl) ?_
      rw [show (3 : Int32).toNatClampNeg = 3 from rfl]
      refine jj_Rh (jj_gs_set0 (B := h) (L := []) (b := 417) (len := 80) (x := ((nI (L0.length)) : Int32).toNatClampNeg) rfl (jj_ink (i := (nI (L0.length))) (vp_in_nI (by omega) (by decide)))) ?_
      rw [jj_rs_nil]
      refine jj_fl (fun h9 eh => ?_)
      have m9 : wst c e n o (L0 ++ (4, some v1, none, some (L0.length + 1)) :: []) h0 y1 h9 := by
        rw [eh]
        exact wst_set he m la_get la_set (fun r q => wrl_3 q)
      clear eh
      revert h9
      intro h m
      show jj_R _ _ kc ks (jj_S, 782, h, g) 191 [(0, .ref 49), (1, .int 4), (2, .ref (417 + ((nI (L0.length)) : Int32).toNatClampNeg))] [] Q
      refine rr_aload_n 0 rfl rfl dX10_readsStep_191 ?_
      refine rr_bipush 59 rfl dX10_readsStep_192 ?_
      refine rr_callV (As := [.int 59]) (rest := []) (kc2 := 0) (ks2 := 0) dX10_readsStep_194 okX10_sign lX10_167 lo_49 sh_49 rfl rfl (Nat.le_of_ble_eq_true rfl) (Nat.le_of_ble_eq_true rfl) rfl (by omega) (by simp [jj_rk] <;> first | exact Or.inl (lr_416 (jj_ink (i := (nI (L0.length))) (vp_in_nI (by omega) (by decide))))) (by simp [jj_rk] <;> first | exact Or.inl (lr_416 (jj_ink (i := (nI (L0.length))) (vp_in_nI (by omega) (by decide))))) ?_
      refine ll_sign (X := 59) wst_R he6 sg_59 m (by omega) (fun b9 y9 h e1 hy9 sy9 m => ?_) (fun k p h e1 m => ?_)
      · skip
        rw [sy1] at e1
        rw [pb_ok e1] at k1 k2
        show jj_R _ _ kc ks (jj_S, 782, h, g) 197 [(0, .ref 49), (1, .int 4), (2, .ref (417 + ((nI (L0.length)) : Int32).toNatClampNeg))] [] Q
        refine rr_return dX10_readsStep_197 rfl ?_
        exact k1 _ b9 y9 _ rfl (by omega) sy9 m
      · skip
        rw [sy1] at e1
        rw [pb_er e1] at k2
        show jj_R _ _ kc ks (jj_S, 782, h, g) 197 [(0, .ref 49), (1, .int 4), (2, .ref (417 + ((nI (L0.length)) : Int32).toNatClampNeg))] [] Q
        refine rr_return dX10_readsStep_197 rfl ?_
        exact k2 k p _ rfl m
    · skip
      rw [sy0] at e1
      rw [pb_er e1] at k2
      show jj_R _ _ kc ks (jj_S, 782, h, g) 89 [(0, .ref 49), (1, .int 4), (2, .ref (417 + ((nI (L0.length)) : Int32).toNatClampNeg))] [.int 0, .int 1, .ref (417 + ((nI (L0.length)) : Int32).toNatClampNeg)] Q
      refine rr_iastore dX10_readsStep_89 (lr_416 (jj_ink (i := (nI (L0.length))) (vp_in_nI (by omega) (by decide)))) (sr_416 (jj_ink (i := (nI (L0.length))) (vp_in_nI (by omega) (by decide)))) (jj_inL rfl) ?_
      rw [show (1 : Int32).toNatClampNeg = 1 from rfl]
      refine jj_Rh (jj_gs_set0 (B := h) (L := []) (b := 417) (len := 80) (x := ((nI (L0.length)) : Int32).toNatClampNeg) rfl (jj_ink (i := (nI (L0.length))) (vp_in_nI (by omega) (by decide)))) ?_
      rw [jj_rs_nil]
      refine jj_fl (fun h9 eh => ?_)
      have m9 : wer c e h0 k p h9 := by
        rw [eh]
        exact wer_g m
      clear eh
      revert h9
      intro h m
      show jj_R _ _ kc ks (jj_S, 782, h, g) 90 [(0, .ref 49), (1, .int 4), (2, .ref (417 + ((nI (L0.length)) : Int32).toNatClampNeg))] [] Q
      refine rr_iload_n 1 rfl rfl dX10_readsStep_90 ?_
      refine rr_iconst 2 rfl dX10_readsStep_91 ?_
      refine rr_icmp_ge dX10_readsStep_92 (fun _ => ?_) (fun c => absurd (by decide) c)
      refine rr_iload_n 1 rfl rfl dX10_readsStep_111 ?_
      refine rr_bipush 6 rfl dX10_readsStep_112 ?_
      refine rr_icmp_ne dX10_readsStep_114 (fun _ => ?_) (fun c => absurd c (by decide))
      refine rr_aload_n 2 rfl rfl dX10_readsStep_184 ?_
      refine rr_iconst 3 rfl dX10_readsStep_185 ?_
      refine rr_aload_n 0 rfl rfl dX10_readsStep_186 ?_
      refine rr_getI dX10_readsStep_187 fX10_248 lo_49 sh_49 rfl ?_
      refine rr_iastore dX10_readsStep_190 (lr_416 (jj_ink (i := (nI (L0.length))) (vp_in_nI (by omega) (by decide)))) (sr_416 (jj_ink (i := (nI (L0.length))) (vp_in_nI (by omega) (by decide)))) (jj_inL rfl) ?_
      rw [show (3 : Int32).toNatClampNeg = 3 from rfl]
      refine jj_Rh (jj_gs_set0 (B := h) (L := []) (b := 417) (len := 80) (x := ((nI (L0.length)) : Int32).toNatClampNeg) rfl (jj_ink (i := (nI (L0.length))) (vp_in_nI (by omega) (by decide)))) ?_
      rw [jj_rs_nil]
      refine jj_fl (fun h9 eh => ?_)
      have m9 : wer c e h0 k p h9 := by
        rw [eh]
        exact wer_g m
      clear eh
      revert h9
      intro h m
      show jj_R _ _ kc ks (jj_S, 782, h, g) 191 [(0, .ref 49), (1, .int 4), (2, .ref (417 + ((nI (L0.length)) : Int32).toNatClampNeg))] [] Q
      refine rr_aload_n 0 rfl rfl dX10_readsStep_191 ?_
      refine rr_bipush 59 rfl dX10_readsStep_192 ?_
      refine rr_callV (As := [.int 59]) (rest := []) (kc2 := 0) (ks2 := 0) dX10_readsStep_194 okX10_sign lX10_167 lo_49 sh_49 rfl rfl (Nat.le_of_ble_eq_true rfl) (Nat.le_of_ble_eq_true rfl) rfl (by omega) (by simp [jj_rk] <;> first | exact Or.inl (lr_416 (jj_ink (i := (nI (L0.length))) (vp_in_nI (by omega) (by decide))))) (by simp [jj_rk] <;> first | exact Or.inl (lr_416 (jj_ink (i := (nI (L0.length))) (vp_in_nI (by omega) (by decide))))) ?_
      refine nf_sign (by omega) m.2.2.1 ?_
      show jj_R _ _ kc ks (jj_S, 782, h, g) 197 [(0, .ref 49), (1, .int 4), (2, .ref (417 + ((nI (L0.length)) : Int32).toNatClampNeg))] [] Q
      refine rr_return dX10_readsStep_197 rfl ?_
      exact k2 k p _ rfl m
  · skip
    have hp : pstep S c e n L0.length x = pb (psign c e 59 (nt c e x)) fun b => .ok ([(5, none, none, some (L0.length + 1))], b) := by unfold pstep; rw [q, if_neg (by decide), if_neg (by decide), if_neg (by decide), if_neg (by decide), if_neg (by decide), if_pos rfl]
    rw [hp] at k1 k2
    rw [q]
    have sk2 := sk_2 (c := c) (e := e) (a := x) (by rw [q]; decide)
    show jj_R _ _ kc ks (jj_S, 782, h, g) 4 [(0, .ref 49)] [.int 5] Q
    refine rr_istore_n [(0, .ref 49), (1, .int 5)] dX10_readsStep_4 rfl (by decide) rfl ?_
    refine rr_iload_n 1 rfl rfl dX10_readsStep_5 ?_
    refine rr_iconst (-1) rfl dX10_readsStep_6 ?_
    refine rr_icmp_ne dX10_readsStep_7 (fun _ => ?_) (fun c => absurd c (by decide))
    refine rr_iload_n 1 rfl rfl dX10_readsStep_19 ?_
    refine rr_bipush 6 rfl dX10_readsStep_20 ?_
    refine rr_icmp_ne dX10_readsStep_22 (fun _ => ?_) (fun c => absurd c (by decide))
    refine rr_aload_n 0 rfl rfl dX10_readsStep_33 ?_
    refine rr_getI dX10_readsStep_34 fX10_111 lo_49 sh_49 rfl ?_
    rw [show (h 49) 5 = 0 from m.1.2.2.2.2]
    refine rr_if_eq dX10_readsStep_37 (fun _ => ?_) (fun c => absurd (by decide) c)
    refine rr_aload_n 0 rfl rfl dX10_readsStep_41 ?_
    refine rr_callV (As := []) (rest := []) (kc2 := 0) (ks2 := 0) dX10_readsStep_42 okX10_skipWord lX10_144 lo_49 sh_49 rfl rfl (Nat.le_of_ble_eq_true rfl) (Nat.le_of_ble_eq_true rfl) rfl (by omega) (by simp [jj_rk]) (by simp [jj_rk]) ?_
    refine ll_skip wst_R he6 m sk2.1 (by omega) (fun y0 h hy0 hye sy0 m => ?_)
    show jj_R _ _ kc ks (jj_S, 782, h, g) 45 [(0, .ref 49), (1, .int 5)] [] Q
    refine rr_aload_n 0 rfl rfl dX10_readsStep_45 ?_
    refine rr_getR dX10_readsStep_46 fX10_58 lo_49 sh_49 rfl ?_
    refine rr_aload_n 0 rfl rfl dX10_readsStep_49 ?_
    refine rr_getI dX10_readsStep_50 fX10_248 lo_49 sh_49 rfl ?_
    rw [show (h 49) 26 = (nI (L0.length)) from m.2.2.1]
    refine rr_aaload dX10_readsStep_53 lo_416 sh_416 (vp_in_nI (by omega) (by decide)) ?_
    refine rr_astore_n [(0, .ref 49), (1, .int 5), (2, .ref (417 + ((nI (L0.length)) : Int32).toNatClampNeg))] dX10_readsStep_54 rfl (by decide) rfl ?_
    refine rr_aload_n 0 rfl rfl dX10_readsStep_55 ?_
    refine rr_dup rfl dX10_readsStep_56 ?_
    refine rr_getI dX10_readsStep_57 fX10_248 lo_49 sh_49 rfl ?_
    rw [show (h 49) 26 = (nI (L0.length)) from m.2.2.1]
    refine rr_iconst 1 rfl dX10_readsStep_60 ?_
    refine rr_iadd dX10_readsStep_61 ?_
    refine rr_putI dX10_readsStep_62 fX10_248 ni10_26 lo_49 sh_49 rfl ?_
    rw [jj_rs_set0 (B := h) (o := 49) (r := (h 49)) rfl]
    refine rr_aload_n 2 rfl rfl dX10_readsStep_65 ?_
    refine rr_iconst 0 rfl dX10_readsStep_66 ?_
    refine rr_iload_n 1 rfl rfl dX10_readsStep_67 ?_
    refine rr_iastore dX10_readsStep_68 (lr_416 (jj_ink (i := (nI (L0.length))) (vp_in_nI (by omega) (by decide)))) (sr_416 (jj_ink (i := (nI (L0.length))) (vp_in_nI (by omega) (by decide)))) (jj_inL rfl) ?_
    rw [show (0 : Int32).toNatClampNeg = 0 from rfl]
    refine jj_Rh (jj_gs_set0 (B := h) (L := [(49, (upd (h 49) (26) ((nI (L0.length)) + 1)))]) (b := 417) (len := 80) (x := ((nI (L0.length)) : Int32).toNatClampNeg) rfl (jj_ink (i := (nI (L0.length))) (vp_in_nI (by omega) (by decide)))) ?_
    refine jj_fl (fun h9 eh => ?_)
    have m9 : wst c e n o (L0 ++ [(5, none, none, none)]) h0 y0 h9 := by
      rw [eh]
      exact wst_new he m (by omega) rfl
    clear eh
    revert h9
    intro h m
    show jj_R _ _ kc ks (jj_S, 782, h, g) 69 [(0, .ref 49), (1, .int 5), (2, .ref (417 + ((nI (L0.length)) : Int32).toNatClampNeg))] [] Q
    refine rr_iload_n 1 rfl rfl dX10_readsStep_69 ?_
    refine rr_iconst 5 rfl dX10_readsStep_70 ?_
    refine rr_icmp_ge dX10_readsStep_71 (fun _ => ?_) (fun c => absurd (by decide) c)
    refine rr_iload_n 1 rfl rfl dX10_readsStep_90 ?_
    refine rr_iconst 2 rfl dX10_readsStep_91 ?_
    refine rr_icmp_ge dX10_readsStep_92 (fun _ => ?_) (fun c => absurd (by decide) c)
    refine rr_iload_n 1 rfl rfl dX10_readsStep_111 ?_
    refine rr_bipush 6 rfl dX10_readsStep_112 ?_
    refine rr_icmp_ne dX10_readsStep_114 (fun _ => ?_) (fun c => absurd c (by decide))
    refine rr_aload_n 2 rfl rfl dX10_readsStep_184 ?_
    refine rr_iconst 3 rfl dX10_readsStep_185 ?_
    refine rr_aload_n 0 rfl rfl dX10_readsStep_186 ?_
    refine rr_getI dX10_readsStep_187 fX10_248 lo_49 sh_49 rfl ?_
    rw [show (h 49) 26 = (nI (L0.length + 1)) from (m.2.2.1.trans (congrArg nI (by rw [List.length_append, List.length_cons, List.length_nil])))]
    refine rr_iastore dX10_readsStep_190 (lr_416 (jj_ink (i := (nI (L0.length))) (vp_in_nI (by omega) (by decide)))) (sr_416 (jj_ink (i := (nI (L0.length))) (vp_in_nI (by omega) (by decide)))) (jj_inL rfl) ?_
    rw [show (3 : Int32).toNatClampNeg = 3 from rfl]
    refine jj_Rh (jj_gs_set0 (B := h) (L := []) (b := 417) (len := 80) (x := ((nI (L0.length)) : Int32).toNatClampNeg) rfl (jj_ink (i := (nI (L0.length))) (vp_in_nI (by omega) (by decide)))) ?_
    rw [jj_rs_nil]
    refine jj_fl (fun h9 eh => ?_)
    have m9 : wst c e n o (L0 ++ (5, none, none, some (L0.length + 1)) :: []) h0 y0 h9 := by
      rw [eh]
      exact wst_set he m la_get la_set (fun r q => wrl_3 q)
    clear eh
    revert h9
    intro h m
    show jj_R _ _ kc ks (jj_S, 782, h, g) 191 [(0, .ref 49), (1, .int 5), (2, .ref (417 + ((nI (L0.length)) : Int32).toNatClampNeg))] [] Q
    refine rr_aload_n 0 rfl rfl dX10_readsStep_191 ?_
    refine rr_bipush 59 rfl dX10_readsStep_192 ?_
    refine rr_callV (As := [.int 59]) (rest := []) (kc2 := 0) (ks2 := 0) dX10_readsStep_194 okX10_sign lX10_167 lo_49 sh_49 rfl rfl (Nat.le_of_ble_eq_true rfl) (Nat.le_of_ble_eq_true rfl) rfl (by omega) (by simp [jj_rk] <;> first | exact Or.inl (lr_416 (jj_ink (i := (nI (L0.length))) (vp_in_nI (by omega) (by decide))))) (by simp [jj_rk] <;> first | exact Or.inl (lr_416 (jj_ink (i := (nI (L0.length))) (vp_in_nI (by omega) (by decide))))) ?_
    refine ll_sign (X := 59) wst_R he6 sg_59 m (by omega) (fun b9 y9 h e1 hy9 sy9 m => ?_) (fun k p h e1 m => ?_)
    · skip
      rw [sy0] at e1
      rw [pb_ok e1] at k1 k2
      show jj_R _ _ kc ks (jj_S, 782, h, g) 197 [(0, .ref 49), (1, .int 5), (2, .ref (417 + ((nI (L0.length)) : Int32).toNatClampNeg))] [] Q
      refine rr_return dX10_readsStep_197 rfl ?_
      exact k1 _ b9 y9 _ rfl (by omega) sy9 m
    · skip
      rw [sy0] at e1
      rw [pb_er e1] at k2
      show jj_R _ _ kc ks (jj_S, 782, h, g) 197 [(0, .ref 49), (1, .int 5), (2, .ref (417 + ((nI (L0.length)) : Int32).toNatClampNeg))] [] Q
      refine rr_return dX10_readsStep_197 rfl ?_
      exact k2 k p _ rfl m
  · skip
    have hp : pstep S c e n L0.length x = pagain S c e L0.length x := by unfold pstep; rw [q, if_neg (by decide), if_neg (by decide), if_neg (by decide), if_neg (by decide), if_neg (by decide), if_neg (by decide), if_pos rfl]
    rw [hp] at k1 k2
    rw [q]
    have sk2 := sk_2 (c := c) (e := e) (a := x) (by rw [q]; decide)
    show jj_R _ _ kc ks (jj_S, 782, h, g) 4 [(0, .ref 49)] [.int 6] Q
    refine rr_istore_n [(0, .ref 49), (1, .int 6)] dX10_readsStep_4 rfl (by decide) rfl ?_
    refine rr_iload_n 1 rfl rfl dX10_readsStep_5 ?_
    refine rr_iconst (-1) rfl dX10_readsStep_6 ?_
    refine rr_icmp_ne dX10_readsStep_7 (fun _ => ?_) (fun c => absurd c (by decide))
    refine rr_iload_n 1 rfl rfl dX10_readsStep_19 ?_
    refine rr_bipush 6 rfl dX10_readsStep_20 ?_
    refine rr_icmp_ne dX10_readsStep_22 (fun c => absurd c (by decide)) (fun _ => ?_)
    refine rr_aload_n 0 rfl rfl dX10_readsStep_25 ?_
    refine rr_callV (As := []) (rest := []) (kc2 := 0) (ks2 := 0) dX10_readsStep_26 okX10_opensOne lX10_225 lo_49 sh_49 rfl rfl (Nat.le_of_ble_eq_true rfl) (Nat.le_of_ble_eq_true rfl) rfl (by omega) (by simp [jj_rk]) (by simp [jj_rk]) ?_
    refine ll_opw m ho (by omega) (fun o6 h m => ?_) (fun o6 h m => ?_)
    · skip
      obtain ⟨s, rfl⟩ : ∃ s, S = some s := by
        cases S with
        | none => exact absurd (hN.mp rfl) o6
        | some s => exact ⟨s, rfl⟩
      obtain ⟨P, rfl, hPe, hP⟩ := hS s rfl
      rw [pa_some] at k1 k2
      show jj_R _ _ kc ks (jj_S, 782, h, g) 29 [(0, .ref 49), (1, .int 6)] [.int 1] Q
      refine rr_if_ne dX10_readsStep_29 (fun _ => ?_) (fun c => absurd c (by decide))
      refine rr_aload_n 0 rfl rfl dX10_readsStep_33 ?_
      refine rr_getI dX10_readsStep_34 fX10_111 lo_49 sh_49 rfl ?_
      rw [show (h 49) 5 = 0 from m.1.2.2.2.2]
      refine rr_if_eq dX10_readsStep_37 (fun _ => ?_) (fun c => absurd (by decide) c)
      refine rr_aload_n 0 rfl rfl dX10_readsStep_41 ?_
      refine rr_callV (As := []) (rest := []) (kc2 := 0) (ks2 := 0) dX10_readsStep_42 okX10_skipWord lX10_144 lo_49 sh_49 rfl rfl (Nat.le_of_ble_eq_true rfl) (Nat.le_of_ble_eq_true rfl) rfl (by omega) (by simp [jj_rk]) (by simp [jj_rk]) ?_
      refine ll_skip wst_R he6 m sk2.1 (by omega) (fun y0 h hy0 hye sy0 m => ?_)
      show jj_R _ _ kc ks (jj_S, 782, h, g) 45 [(0, .ref 49), (1, .int 6)] [] Q
      refine rr_aload_n 0 rfl rfl dX10_readsStep_45 ?_
      refine rr_getR dX10_readsStep_46 fX10_58 lo_49 sh_49 rfl ?_
      refine rr_aload_n 0 rfl rfl dX10_readsStep_49 ?_
      refine rr_getI dX10_readsStep_50 fX10_248 lo_49 sh_49 rfl ?_
      rw [show (h 49) 26 = (nI (L0.length)) from m.2.2.1]
      refine rr_aaload dX10_readsStep_53 lo_416 sh_416 (vp_in_nI (by omega) (by decide)) ?_
      refine rr_astore_n [(0, .ref 49), (1, .int 6), (2, .ref (417 + ((nI (L0.length)) : Int32).toNatClampNeg))] dX10_readsStep_54 rfl (by decide) rfl ?_
      refine rr_aload_n 0 rfl rfl dX10_readsStep_55 ?_
      refine rr_dup rfl dX10_readsStep_56 ?_
      refine rr_getI dX10_readsStep_57 fX10_248 lo_49 sh_49 rfl ?_
      rw [show (h 49) 26 = (nI (L0.length)) from m.2.2.1]
      refine rr_iconst 1 rfl dX10_readsStep_60 ?_
      refine rr_iadd dX10_readsStep_61 ?_
      refine rr_putI dX10_readsStep_62 fX10_248 ni10_26 lo_49 sh_49 rfl ?_
      rw [jj_rs_set0 (B := h) (o := 49) (r := (h 49)) rfl]
      refine rr_aload_n 2 rfl rfl dX10_readsStep_65 ?_
      refine rr_iconst 0 rfl dX10_readsStep_66 ?_
      refine rr_iload_n 1 rfl rfl dX10_readsStep_67 ?_
      refine rr_iastore dX10_readsStep_68 (lr_416 (jj_ink (i := (nI (L0.length))) (vp_in_nI (by omega) (by decide)))) (sr_416 (jj_ink (i := (nI (L0.length))) (vp_in_nI (by omega) (by decide)))) (jj_inL rfl) ?_
      rw [show (0 : Int32).toNatClampNeg = 0 from rfl]
      refine jj_Rh (jj_gs_set0 (B := h) (L := [(49, (upd (h 49) (26) ((nI (L0.length)) + 1)))]) (b := 417) (len := 80) (x := ((nI (L0.length)) : Int32).toNatClampNeg) rfl (jj_ink (i := (nI (L0.length))) (vp_in_nI (by omega) (by decide)))) ?_
      refine jj_fl (fun h9 eh => ?_)
      have m9 : wst c e n (o + 1) (L0 ++ [(6, none, none, none)]) h0 y0 h9 := by
        rw [eh]
        exact wst_new he m (by omega) rfl
      clear eh
      revert h9
      intro h m
      show jj_R _ _ kc ks (jj_S, 782, h, g) 69 [(0, .ref 49), (1, .int 6), (2, .ref (417 + ((nI (L0.length)) : Int32).toNatClampNeg))] [] Q
      refine rr_iload_n 1 rfl rfl dX10_readsStep_69 ?_
      refine rr_iconst 5 rfl dX10_readsStep_70 ?_
      refine rr_icmp_ge dX10_readsStep_71 (fun _ => ?_) (fun c => absurd (by decide) c)
      refine rr_iload_n 1 rfl rfl dX10_readsStep_90 ?_
      refine rr_iconst 2 rfl dX10_readsStep_91 ?_
      refine rr_icmp_ge dX10_readsStep_92 (fun _ => ?_) (fun c => absurd (by decide) c)
      refine rr_iload_n 1 rfl rfl dX10_readsStep_111 ?_
      refine rr_bipush 6 rfl dX10_readsStep_112 ?_
      refine rr_icmp_ne dX10_readsStep_114 (fun c => absurd c (by decide)) (fun _ => ?_)
      refine rr_aload_n 2 rfl rfl dX10_readsStep_117 ?_
      refine rr_iconst 1 rfl dX10_readsStep_118 ?_
      refine rr_aload_n 0 rfl rfl dX10_readsStep_119 ?_
      refine rr_iconst 0 rfl dX10_readsStep_120 ?_
      refine rr_bipush 60 rfl dX10_readsStep_121 ?_
      refine rr_callV (As := [.int 0, .int 60]) (rest := [.int 1, .ref (417 + ((nI (L0.length)) : Int32).toNatClampNeg)]) (kc2 := 0) (ks2 := 0) dX10_readsStep_123 okX10_number lX10_157 lo_49 sh_49 rfl rfl (Nat.le_of_ble_eq_true rfl) (Nat.le_of_ble_eq_true rfl) rfl (by omega) (by simp [jj_rk] <;> first | exact Or.inl (lr_416 (jj_ink (i := (nI (L0.length))) (vp_in_nI (by omega) (by decide)))) | exact Or.inl (lr_416 (jj_ink (i := (nI (L0.length))) (vp_in_nI (by omega) (by decide))))) (by simp [jj_rk] <;> first | exact Or.inl (lr_416 (jj_ink (i := (nI (L0.length))) (vp_in_nI (by omega) (by decide)))) | exact Or.inl (lr_416 (jj_ink (i := (nI (L0.length))) (vp_in_nI (by omega) (by decide))))) ?_
      refine ll_num (lim := 61) wst_R he6 m (by omega) (by decide) (by omega) (fun v1 b1 y1 h e1 hv1 hy1 sy1 m => ?_) (fun k p h e1 m => ?_)
      · skip
        rw [sy0] at e1
        rw [pb_ok e1] at k1 k2
        show jj_R _ _ kc ks (jj_S, 782, h, g) 126 [(0, .ref 49), (1, .int 6), (2, .ref (417 + ((nI (L0.length)) : Int32).toNatClampNeg))] [.int (nI v1), .int 1, .ref (417 + ((nI (L0.length)) : Int32).toNatClampNeg)] Q
        refine rr_iastore dX10_readsStep_126 (lr_416 (jj_ink (i := (nI (L0.length))) (vp_in_nI (by omega) (by decide)))) (sr_416 (jj_ink (i := (nI (L0.length))) (vp_in_nI (by omega) (by decide)))) (jj_inL rfl) ?_
        rw [show (1 : Int32).toNatClampNeg = 1 from rfl]
        refine jj_Rh (jj_gs_set0 (B := h) (L := []) (b := 417) (len := 80) (x := ((nI (L0.length)) : Int32).toNatClampNeg) rfl (jj_ink (i := (nI (L0.length))) (vp_in_nI (by omega) (by decide)))) ?_
        rw [jj_rs_nil]
        refine jj_fl (fun h9 eh => ?_)
        have m9 : wst c e n (o + 1) (L0 ++ [(6, some v1, none, none)]) h0 y1 h9 := by
          rw [eh]
          exact wst_set he m la_get la_set (fun r q => wrl_1 q)
        clear eh
        revert h9
        intro h m
        show jj_R _ _ kc ks (jj_S, 782, h, g) 127 [(0, .ref 49), (1, .int 6), (2, .ref (417 + ((nI (L0.length)) : Int32).toNatClampNeg))] [] Q
        refine rr_aload_n 0 rfl rfl dX10_readsStep_127 ?_
        refine rr_bipush 91 rfl dX10_readsStep_128 ?_
        refine rr_callV (As := [.int 91]) (rest := []) (kc2 := 0) (ks2 := 0) dX10_readsStep_130 okX10_sign lX10_167 lo_49 sh_49 rfl rfl (Nat.le_of_ble_eq_true rfl) (Nat.le_of_ble_eq_true rfl) rfl (by omega) (by simp [jj_rk] <;> first | exact Or.inl (lr_416 (jj_ink (i := (nI (L0.length))) (vp_in_nI (by omega) (by decide))))) (by simp [jj_rk] <;> first | exact Or.inl (lr_416 (jj_ink (i := (nI (L0.length))) (vp_in_nI (by omega) (by decide))))) ?_
        refine ll_sign (X := 91) wst_R he6 sg_91 m (by omega) (fun b2 y2 h e1 hy2 sy2 m => ?_) (fun k p h e1 m => ?_)
        · skip
          rw [sy1] at e1
          rw [pb_ok e1] at k1 k2
          show jj_R _ _ kc ks (jj_S, 782, h, g) 133 [(0, .ref 49), (1, .int 6), (2, .ref (417 + ((nI (L0.length)) : Int32).toNatClampNeg))] [] Q
          refine rr_aload_n 0 rfl rfl dX10_readsStep_133 ?_
          refine rr_callV (As := []) (rest := []) (kc2 := 0) (ks2 := 0) dX10_readsStep_134 okX10_blanks lX10_117 lo_49 sh_49 rfl rfl (Nat.le_of_ble_eq_true rfl) (Nat.le_of_ble_eq_true rfl) rfl (by omega) (by simp [jj_rk] <;> first | exact Or.inl (lr_416 (jj_ink (i := (nI (L0.length))) (vp_in_nI (by omega) (by decide))))) (by simp [jj_rk] <;> first | exact Or.inl (lr_416 (jj_ink (i := (nI (L0.length))) (vp_in_nI (by omega) (by decide))))) ?_
          refine ll_blanks wst_R he6 m (by omega) (fun h m => ?_)
          rw [sy2] at m
          have sb : spn isB c e b2 = b2 := by rw [← sy2, spn_idem]
          have sl := spn_ge (P := isB) (c := c) (e := e) (x := y2)
          show jj_R _ _ kc ks (jj_S, 782, h, g) 137 [(0, .ref 49), (1, .int 6), (2, .ref (417 + ((nI (L0.length)) : Int32).toNatClampNeg))] [] Q
          refine ws_loop (L1 := L0 ++ [(6, some v1, none, none)]) (F := []) (row := L0.length + 1) he (by omega) hP hPe e (by omega) hl80 (by rw [List.length_append, List.length_cons, List.length_nil]) (by omega) sb (by rw [List.append_nil]; exact m) (fun B3 b3 h e3 q3 hb3 sb3 m => ?_) (fun k p h e3 m => ?_)
          · skip
            rw [pb_ok e3] at k1 k2
            refine rr_aload_n 0 rfl rfl dX10_readsStep_168 ?_
            refine rr_bipush 93 rfl dX10_readsStep_169 ?_
            refine rr_callV (As := [.int 93]) (rest := []) (kc2 := 0) (ks2 := 0) dX10_readsStep_171 okX10_sign lX10_167 lo_49 sh_49 rfl rfl (Nat.le_of_ble_eq_true rfl) (Nat.le_of_ble_eq_true rfl) rfl (by omega) (by simp [jj_rk] <;> first | exact Or.inl (lr_416 (jj_ink (i := (nI (L0.length))) (vp_in_nI (by omega) (by decide))))) (by simp [jj_rk] <;> first | exact Or.inl (lr_416 (jj_ink (i := (nI (L0.length))) (vp_in_nI (by omega) (by decide))))) ?_
            refine ll_sign (X := 93) wst_R he6 sg_93 m (by omega) (fun b4 y4 h e1 hy4 sy4 m => ?_) (fun k p h e1 m => ?_)
            · skip
              rw [sb3] at e1
              rw [pb_ok e1] at k1 k2
              show jj_R _ _ kc ks (jj_S, 782, h, g) 174 [(0, .ref 49), (1, .int 6), (2, .ref (417 + ((nI (L0.length)) : Int32).toNatClampNeg))] [] Q
              refine rr_aload_n 0 rfl rfl dX10_readsStep_174 ?_
              refine rr_dup rfl dX10_readsStep_175 ?_
              refine rr_getI dX10_readsStep_176 fX10_154 lo_49 sh_49 rfl ?_
              rw [show (h 49) 8 = (nI (o + 1)) from m.2.1]
              refine rr_iconst 1 rfl dX10_readsStep_179 ?_
              refine rr_isub dX10_readsStep_180 ?_
              refine rr_putI dX10_readsStep_181 fX10_154 ni10_8 lo_49 sh_49 rfl ?_
              rw [jj_rs_set0 (B := h) (o := 49) (r := (h 49)) rfl]
              refine jj_fl (fun h9 eh => ?_)
              have m9 : wst c e n o (L0 ++ (6, some v1, none, none) :: B3) h0 y4 h9 := by
                rw [eh]
                exact (by simpa only [List.append_assoc, List.singleton_append] using wst_o m)
              clear eh
              revert h9
              intro h m
              show jj_R _ _ kc ks (jj_S, 782, h, g) 184 [(0, .ref 49), (1, .int 6), (2, .ref (417 + ((nI (L0.length)) : Int32).toNatClampNeg))] [] Q
              refine rr_aload_n 2 rfl rfl dX10_readsStep_184 ?_
              refine rr_iconst 3 rfl dX10_readsStep_185 ?_
              refine rr_aload_n 0 rfl rfl dX10_readsStep_186 ?_
              refine rr_getI dX10_readsStep_187 fX10_248 lo_49 sh_49 rfl ?_
              rw [show (h 49) 26 = (nI (L0.length + 1 + B3.length)) from (m.2.2.1.trans (congrArg nI (by rw [List.length_append, List.length_cons]; omega)))]
              refine rr_iastore dX10_readsStep_190 (lr_416 (jj_ink (i := (nI (L0.length))) (vp_in_nI (by omega) (by decide)))) (sr_416 (jj_ink (i := (nI (L0.length))) (vp_in_nI (by omega) (by decide)))) (jj_inL rfl) ?_
              rw [show (3 : Int32).toNatClampNeg = 3 from rfl]
              refine jj_Rh (jj_gs_set0 (B := h) (L := []) (b := 417) (len := 80) (x := ((nI (L0.length)) : Int32).toNatClampNeg) rfl (jj_ink (i := (nI (L0.length))) (vp_in_nI (by omega) (by decide)))) ?_
              rw [jj_rs_nil]
              refine jj_fl (fun h9 eh => ?_)
              have m9 : wst c e n o (L0 ++ (6, some v1, none, some (L0.length + 1 + B3.length)) :: B3) h0 y4 h9 := by
                rw [eh]
                exact wst_set he m la_get la_set (fun r q => wrl_3 q)
              clear eh
              revert h9
              intro h m
              show jj_R _ _ kc ks (jj_S, 782, h, g) 191 [(0, .ref 49), (1, .int 6), (2, .ref (417 + ((nI (L0.length)) : Int32).toNatClampNeg))] [] Q
              refine rr_aload_n 0 rfl rfl dX10_readsStep_191 ?_
              refine rr_bipush 59 rfl dX10_readsStep_192 ?_
              refine rr_callV (As := [.int 59]) (rest := []) (kc2 := 0) (ks2 := 0) dX10_readsStep_194 okX10_sign lX10_167 lo_49 sh_49 rfl rfl (Nat.le_of_ble_eq_true rfl) (Nat.le_of_ble_eq_true rfl) rfl (by omega) (by simp [jj_rk] <;> first | exact Or.inl (lr_416 (jj_ink (i := (nI (L0.length))) (vp_in_nI (by omega) (by decide))))) (by simp [jj_rk] <;> first | exact Or.inl (lr_416 (jj_ink (i := (nI (L0.length))) (vp_in_nI (by omega) (by decide))))) ?_
              refine ll_sign (X := 59) wst_R he6 sg_59 m (by omega) (fun b9 y9 h e1 hy9 sy9 m => ?_) (fun k p h e1 m => ?_)
              · skip
                rw [sy4] at e1
                rw [pb_ok e1] at k1 k2
                show jj_R _ _ kc ks (jj_S, 782, h, g) 197 [(0, .ref 49), (1, .int 6), (2, .ref (417 + ((nI (L0.length)) : Int32).toNatClampNeg))] [] Q
                refine rr_return dX10_readsStep_197 rfl ?_
                exact k1 _ b9 y9 _ rfl (by omega) sy9 m
              · skip
                rw [sy4] at e1
                rw [pb_er e1] at k2
                show jj_R _ _ kc ks (jj_S, 782, h, g) 197 [(0, .ref 49), (1, .int 6), (2, .ref (417 + ((nI (L0.length)) : Int32).toNatClampNeg))] [] Q
                refine rr_return dX10_readsStep_197 rfl ?_
                exact k2 k p _ rfl m
            · skip
              rw [sb3] at e1
              rw [pb_er e1] at k2
              show jj_R _ _ kc ks (jj_S, 782, h, g) 174 [(0, .ref 49), (1, .int 6), (2, .ref (417 + ((nI (L0.length)) : Int32).toNatClampNeg))] [] Q
              refine rr_aload_n 0 rfl rfl dX10_readsStep_174 ?_
              refine rr_dup rfl dX10_readsStep_175 ?_
              refine rr_getI dX10_readsStep_176 fX10_154 lo_49 sh_49 rfl ?_
              refine rr_iconst 1 rfl dX10_readsStep_179 ?_
              refine rr_isub dX10_readsStep_180 ?_
              refine rr_putI dX10_readsStep_181 fX10_154 ni10_8 lo_49 sh_49 rfl ?_
              rw [jj_rs_set0 (B := h) (o := 49) (r := (h 49)) rfl]
              refine jj_fl (fun h9 eh => ?_)
              have m9 : wer c e h0 k p h9 := by
                rw [eh]
                exact wer_49 (by decide) m
              clear eh
              revert h9
              intro h m
              show jj_R _ _ kc ks (jj_S, 782, h, g) 184 [(0, .ref 49), (1, .int 6), (2, .ref (417 + ((nI (L0.length)) : Int32).toNatClampNeg))] [] Q
              refine rr_aload_n 2 rfl rfl dX10_readsStep_184 ?_
              refine rr_iconst 3 rfl dX10_readsStep_185 ?_
              refine rr_aload_n 0 rfl rfl dX10_readsStep_186 ?_
              refine rr_getI dX10_readsStep_187 fX10_248 lo_49 sh_49 rfl ?_
              refine rr_iastore dX10_readsStep_190 (lr_416 (jj_ink (i := (nI (L0.length))) (vp_in_nI (by omega) (by decide)))) (sr_416 (jj_ink (i := (nI (L0.length))) (vp_in_nI (by omega) (by decide)))) (jj_inL rfl) ?_
              rw [show (3 : Int32).toNatClampNeg = 3 from rfl]
              refine jj_Rh (jj_gs_set0 (B := h) (L := []) (b := 417) (len := 80) (x := ((nI (L0.length)) : Int32).toNatClampNeg) rfl (jj_ink (i := (nI (L0.length))) (vp_in_nI (by omega) (by decide)))) ?_
              rw [jj_rs_nil]
              refine jj_fl (fun h9 eh => ?_)
              have m9 : wer c e h0 k p h9 := by
                rw [eh]
                exact wer_g m
              clear eh
              revert h9
              intro h m
              show jj_R _ _ kc ks (jj_S, 782, h, g) 191 [(0, .ref 49), (1, .int 6), (2, .ref (417 + ((nI (L0.length)) : Int32).toNatClampNeg))] [] Q
              refine rr_aload_n 0 rfl rfl dX10_readsStep_191 ?_
              refine rr_bipush 59 rfl dX10_readsStep_192 ?_
              refine rr_callV (As := [.int 59]) (rest := []) (kc2 := 0) (ks2 := 0) dX10_readsStep_194 okX10_sign lX10_167 lo_49 sh_49 rfl rfl (Nat.le_of_ble_eq_true rfl) (Nat.le_of_ble_eq_true rfl) rfl (by omega) (by simp [jj_rk] <;> first | exact Or.inl (lr_416 (jj_ink (i := (nI (L0.length))) (vp_in_nI (by omega) (by decide))))) (by simp [jj_rk] <;> first | exact Or.inl (lr_416 (jj_ink (i := (nI (L0.length))) (vp_in_nI (by omega) (by decide))))) ?_
              refine nf_sign (by omega) m.2.2.1 ?_
              show jj_R _ _ kc ks (jj_S, 782, h, g) 197 [(0, .ref 49), (1, .int 6), (2, .ref (417 + ((nI (L0.length)) : Int32).toNatClampNeg))] [] Q
              refine rr_return dX10_readsStep_197 rfl ?_
              exact k2 k p _ rfl m
          · skip
            have k2e : pb (plw P c e (L0.length + 1) e [] b2) (fun w => pb (psign c e 93 w.2) fun b2 => pb (psign c e 59 b2) fun b3 => (.ok ((6, some v1, none, some (L0.length + 1 + w.1.length)) :: w.1, b3) : pW_)) = .error (k, p) := by
              rcases e3 with e3 | ⟨B9, b9, e3, e4⟩
              · exact pb_er e3
              · rw [pb_ok e3]; exact pb_er e4
            show jj_R _ _ kc ks (jj_S, 782, h, g) 168 [(0, .ref 49), (1, .int 6), (2, .ref (417 + ((nI (L0.length)) : Int32).toNatClampNeg))] [] Q
            refine rr_aload_n 0 rfl rfl dX10_readsStep_168 ?_
            refine rr_bipush 93 rfl dX10_readsStep_169 ?_
            refine rr_callV (As := [.int 93]) (rest := []) (kc2 := 0) (ks2 := 0) dX10_readsStep_171 okX10_sign lX10_167 lo_49 sh_49 rfl rfl (Nat.le_of_ble_eq_true rfl) (Nat.le_of_ble_eq_true rfl) rfl (by omega) (by simp [jj_rk] <;> first | exact Or.inl (lr_416 (jj_ink (i := (nI (L0.length))) (vp_in_nI (by omega) (by decide))))) (by simp [jj_rk] <;> first | exact Or.inl (lr_416 (jj_ink (i := (nI (L0.length))) (vp_in_nI (by omega) (by decide))))) ?_
            refine nf_sign (by omega) m.2.2.1 ?_
            show jj_R _ _ kc ks (jj_S, 782, h, g) 174 [(0, .ref 49), (1, .int 6), (2, .ref (417 + ((nI (L0.length)) : Int32).toNatClampNeg))] [] Q
            refine rr_aload_n 0 rfl rfl dX10_readsStep_174 ?_
            refine rr_dup rfl dX10_readsStep_175 ?_
            refine rr_getI dX10_readsStep_176 fX10_154 lo_49 sh_49 rfl ?_
            refine rr_iconst 1 rfl dX10_readsStep_179 ?_
            refine rr_isub dX10_readsStep_180 ?_
            refine rr_putI dX10_readsStep_181 fX10_154 ni10_8 lo_49 sh_49 rfl ?_
            rw [jj_rs_set0 (B := h) (o := 49) (r := (h 49)) rfl]
            refine jj_fl (fun h9 eh => ?_)
            have m9 : wer c e h0 k p h9 := by
              rw [eh]
              exact wer_49 (by decide) m
            clear eh
            revert h9
            intro h m
            show jj_R _ _ kc ks (jj_S, 782, h, g) 184 [(0, .ref 49), (1, .int 6), (2, .ref (417 + ((nI (L0.length)) : Int32).toNatClampNeg))] [] Q
            refine rr_aload_n 2 rfl rfl dX10_readsStep_184 ?_
            refine rr_iconst 3 rfl dX10_readsStep_185 ?_
            refine rr_aload_n 0 rfl rfl dX10_readsStep_186 ?_
            refine rr_getI dX10_readsStep_187 fX10_248 lo_49 sh_49 rfl ?_
            refine rr_iastore dX10_readsStep_190 (lr_416 (jj_ink (i := (nI (L0.length))) (vp_in_nI (by omega) (by decide)))) (sr_416 (jj_ink (i := (nI (L0.length))) (vp_in_nI (by omega) (by decide)))) (jj_inL rfl) ?_
            rw [show (3 : Int32).toNatClampNeg = 3 from rfl]
            refine jj_Rh (jj_gs_set0 (B := h) (L := []) (b := 417) (len := 80) (x := ((nI (L0.length)) : Int32).toNatClampNeg) rfl (jj_ink (i := (nI (L0.length))) (vp_in_nI (by omega) (by decide)))) ?_
            rw [jj_rs_nil]
            refine jj_fl (fun h9 eh => ?_)
            have m9 : wer c e h0 k p h9 := by
              rw [eh]
              exact wer_g m
            clear eh
            revert h9
            intro h m
            show jj_R _ _ kc ks (jj_S, 782, h, g) 191 [(0, .ref 49), (1, .int 6), (2, .ref (417 + ((nI (L0.length)) : Int32).toNatClampNeg))] [] Q
            refine rr_aload_n 0 rfl rfl dX10_readsStep_191 ?_
            refine rr_bipush 59 rfl dX10_readsStep_192 ?_
            refine rr_callV (As := [.int 59]) (rest := []) (kc2 := 0) (ks2 := 0) dX10_readsStep_194 okX10_sign lX10_167 lo_49 sh_49 rfl rfl (Nat.le_of_ble_eq_true rfl) (Nat.le_of_ble_eq_true rfl) rfl (by omega) (by simp [jj_rk] <;> first | exact Or.inl (lr_416 (jj_ink (i := (nI (L0.length))) (vp_in_nI (by omega) (by decide))))) (by simp [jj_rk] <;> first | exact Or.inl (lr_416 (jj_ink (i := (nI (L0.length))) (vp_in_nI (by omega) (by decide))))) ?_
            refine nf_sign (by omega) m.2.2.1 ?_
            show jj_R _ _ kc ks (jj_S, 782, h, g) 197 [(0, .ref 49), (1, .int 6), (2, .ref (417 + ((nI (L0.length)) : Int32).toNatClampNeg))] [] Q
            refine rr_return dX10_readsStep_197 rfl ?_
            exact k2 k p _ k2e m
        · skip
          rw [sy1] at e1
          rw [pb_er e1] at k2
          show jj_R _ _ kc ks (jj_S, 782, h, g) 133 [(0, .ref 49), (1, .int 6), (2, .ref (417 + ((nI (L0.length)) : Int32).toNatClampNeg))] [] Q
          refine rr_aload_n 0 rfl rfl dX10_readsStep_133 ?_
          refine rr_callV (As := []) (rest := []) (kc2 := 0) (ks2 := 0) dX10_readsStep_134 okX10_blanks lX10_117 lo_49 sh_49 rfl rfl (Nat.le_of_ble_eq_true rfl) (Nat.le_of_ble_eq_true rfl) rfl (by omega) (by simp [jj_rk] <;> first | exact Or.inl (lr_416 (jj_ink (i := (nI (L0.length))) (vp_in_nI (by omega) (by decide))))) (by simp [jj_rk] <;> first | exact Or.inl (lr_416 (jj_ink (i := (nI (L0.length))) (vp_in_nI (by omega) (by decide))))) ?_
          refine ll_blanksE (wst_R (n := n) (o := o) (L := [])) he6 m (by omega) (fun h m => ?_)
          show jj_R _ _ kc ks (jj_S, 782, h, g) 137 [(0, .ref 49), (1, .int 6), (2, .ref (417 + ((nI (L0.length)) : Int32).toNatClampNeg))] [] Q
          refine rr_aload_n 0 rfl rfl dX10_readsStep_137 ?_
          refine rr_getI dX10_readsStep_138 fX10_111 lo_49 sh_49 rfl ?_
          refine rr_if_ne dX10_readsStep_141 (fun _ => ?_) (fun c => absurd c m.2.2.1)
          refine rr_aload_n 0 rfl rfl dX10_readsStep_168 ?_
          refine rr_bipush 93 rfl dX10_readsStep_169 ?_
          refine rr_callV (As := [.int 93]) (rest := []) (kc2 := 0) (ks2 := 0) dX10_readsStep_171 okX10_sign lX10_167 lo_49 sh_49 rfl rfl (Nat.le_of_ble_eq_true rfl) (Nat.le_of_ble_eq_true rfl) rfl (by omega) (by simp [jj_rk] <;> first | exact Or.inl (lr_416 (jj_ink (i := (nI (L0.length))) (vp_in_nI (by omega) (by decide))))) (by simp [jj_rk] <;> first | exact Or.inl (lr_416 (jj_ink (i := (nI (L0.length))) (vp_in_nI (by omega) (by decide))))) ?_
          refine nf_sign (by omega) m.2.2.1 ?_
          show jj_R _ _ kc ks (jj_S, 782, h, g) 174 [(0, .ref 49), (1, .int 6), (2, .ref (417 + ((nI (L0.length)) : Int32).toNatClampNeg))] [] Q
          refine rr_aload_n 0 rfl rfl dX10_readsStep_174 ?_
          refine rr_dup rfl dX10_readsStep_175 ?_
          refine rr_getI dX10_readsStep_176 fX10_154 lo_49 sh_49 rfl ?_
          refine rr_iconst 1 rfl dX10_readsStep_179 ?_
          refine rr_isub dX10_readsStep_180 ?_
          refine rr_putI dX10_readsStep_181 fX10_154 ni10_8 lo_49 sh_49 rfl ?_
          rw [jj_rs_set0 (B := h) (o := 49) (r := (h 49)) rfl]
          refine jj_fl (fun h9 eh => ?_)
          have m9 : wer c e h0 k p h9 := by
            rw [eh]
            exact wer_49 (by decide) m
          clear eh
          revert h9
          intro h m
          show jj_R _ _ kc ks (jj_S, 782, h, g) 184 [(0, .ref 49), (1, .int 6), (2, .ref (417 + ((nI (L0.length)) : Int32).toNatClampNeg))] [] Q
          refine rr_aload_n 2 rfl rfl dX10_readsStep_184 ?_
          refine rr_iconst 3 rfl dX10_readsStep_185 ?_
          refine rr_aload_n 0 rfl rfl dX10_readsStep_186 ?_
          refine rr_getI dX10_readsStep_187 fX10_248 lo_49 sh_49 rfl ?_
          refine rr_iastore dX10_readsStep_190 (lr_416 (jj_ink (i := (nI (L0.length))) (vp_in_nI (by omega) (by decide)))) (sr_416 (jj_ink (i := (nI (L0.length))) (vp_in_nI (by omega) (by decide)))) (jj_inL rfl) ?_
          rw [show (3 : Int32).toNatClampNeg = 3 from rfl]
          refine jj_Rh (jj_gs_set0 (B := h) (L := []) (b := 417) (len := 80) (x := ((nI (L0.length)) : Int32).toNatClampNeg) rfl (jj_ink (i := (nI (L0.length))) (vp_in_nI (by omega) (by decide)))) ?_
          rw [jj_rs_nil]
          refine jj_fl (fun h9 eh => ?_)
          have m9 : wer c e h0 k p h9 := by
            rw [eh]
            exact wer_g m
          clear eh
          revert h9
          intro h m
          show jj_R _ _ kc ks (jj_S, 782, h, g) 191 [(0, .ref 49), (1, .int 6), (2, .ref (417 + ((nI (L0.length)) : Int32).toNatClampNeg))] [] Q
          refine rr_aload_n 0 rfl rfl dX10_readsStep_191 ?_
          refine rr_bipush 59 rfl dX10_readsStep_192 ?_
          refine rr_callV (As := [.int 59]) (rest := []) (kc2 := 0) (ks2 := 0) dX10_readsStep_194 okX10_sign lX10_167 lo_49 sh_49 rfl rfl (Nat.le_of_ble_eq_true rfl) (Nat.le_of_ble_eq_true rfl) rfl (by omega) (by simp [jj_rk] <;> first | exact Or.inl (lr_416 (jj_ink (i := (nI (L0.length))) (vp_in_nI (by omega) (by decide))))) (by simp [jj_rk] <;> first | exact Or.inl (lr_416 (jj_ink (i := (nI (L0.length))) (vp_in_nI (by omega) (by decide))))) ?_
          refine nf_sign (by omega) m.2.2.1 ?_
          show jj_R _ _ kc ks (jj_S, 782, h, g) 197 [(0, .ref 49), (1, .int 6), (2, .ref (417 + ((nI (L0.length)) : Int32).toNatClampNeg))] [] Q
          refine rr_return dX10_readsStep_197 rfl ?_
          exact k2 k p _ rfl m
      · skip
        rw [sy0] at e1
        rw [pb_er e1] at k2
        show jj_R _ _ kc ks (jj_S, 782, h, g) 126 [(0, .ref 49), (1, .int 6), (2, .ref (417 + ((nI (L0.length)) : Int32).toNatClampNeg))] [.int 0, .int 1, .ref (417 + ((nI (L0.length)) : Int32).toNatClampNeg)] Q
        refine rr_iastore dX10_readsStep_126 (lr_416 (jj_ink (i := (nI (L0.length))) (vp_in_nI (by omega) (by decide)))) (sr_416 (jj_ink (i := (nI (L0.length))) (vp_in_nI (by omega) (by decide)))) (jj_inL rfl) ?_
        rw [show (1 : Int32).toNatClampNeg = 1 from rfl]
        refine jj_Rh (jj_gs_set0 (B := h) (L := []) (b := 417) (len := 80) (x := ((nI (L0.length)) : Int32).toNatClampNeg) rfl (jj_ink (i := (nI (L0.length))) (vp_in_nI (by omega) (by decide)))) ?_
        rw [jj_rs_nil]
        refine jj_fl (fun h9 eh => ?_)
        have m9 : wer c e h0 k p h9 := by
          rw [eh]
          exact wer_g m
        clear eh
        revert h9
        intro h m
        show jj_R _ _ kc ks (jj_S, 782, h, g) 127 [(0, .ref 49), (1, .int 6), (2, .ref (417 + ((nI (L0.length)) : Int32).toNatClampNeg))] [] Q
        refine rr_aload_n 0 rfl rfl dX10_readsStep_127 ?_
        refine rr_bipush 91 rfl dX10_readsStep_128 ?_
        refine rr_callV (As := [.int 91]) (rest := []) (kc2 := 0) (ks2 := 0) dX10_readsStep_130 okX10_sign lX10_167 lo_49 sh_49 rfl rfl (Nat.le_of_ble_eq_true rfl) (Nat.le_of_ble_eq_true rfl) rfl (by omega) (by simp [jj_rk] <;> first | exact Or.inl (lr_416 (jj_ink (i := (nI (L0.length))) (vp_in_nI (by omega) (by decide))))) (by simp [jj_rk] <;> first | exact Or.inl (lr_416 (jj_ink (i := (nI (L0.length))) (vp_in_nI (by omega) (by decide))))) ?_
        refine nf_sign (by omega) m.2.2.1 ?_
        show jj_R _ _ kc ks (jj_S, 782, h, g) 133 [(0, .ref 49), (1, .int 6), (2, .ref (417 + ((nI (L0.length)) : Int32).toNatClampNeg))] [] Q
        refine rr_aload_n 0 rfl rfl dX10_readsStep_133 ?_
        refine rr_callV (As := []) (rest := []) (kc2 := 0) (ks2 := 0) dX10_readsStep_134 okX10_blanks lX10_117 lo_49 sh_49 rfl rfl (Nat.le_of_ble_eq_true rfl) (Nat.le_of_ble_eq_true rfl) rfl (by omega) (by simp [jj_rk] <;> first | exact Or.inl (lr_416 (jj_ink (i := (nI (L0.length))) (vp_in_nI (by omega) (by decide))))) (by simp [jj_rk] <;> first | exact Or.inl (lr_416 (jj_ink (i := (nI (L0.length))) (vp_in_nI (by omega) (by decide))))) ?_
        refine ll_blanksE (wst_R (n := n) (o := o) (L := [])) he6 m (by omega) (fun h m => ?_)
        show jj_R _ _ kc ks (jj_S, 782, h, g) 137 [(0, .ref 49), (1, .int 6), (2, .ref (417 + ((nI (L0.length)) : Int32).toNatClampNeg))] [] Q
        refine rr_aload_n 0 rfl rfl dX10_readsStep_137 ?_
        refine rr_getI dX10_readsStep_138 fX10_111 lo_49 sh_49 rfl ?_
        refine rr_if_ne dX10_readsStep_141 (fun _ => ?_) (fun c => absurd c m.2.2.1)
        refine rr_aload_n 0 rfl rfl dX10_readsStep_168 ?_
        refine rr_bipush 93 rfl dX10_readsStep_169 ?_
        refine rr_callV (As := [.int 93]) (rest := []) (kc2 := 0) (ks2 := 0) dX10_readsStep_171 okX10_sign lX10_167 lo_49 sh_49 rfl rfl (Nat.le_of_ble_eq_true rfl) (Nat.le_of_ble_eq_true rfl) rfl (by omega) (by simp [jj_rk] <;> first | exact Or.inl (lr_416 (jj_ink (i := (nI (L0.length))) (vp_in_nI (by omega) (by decide))))) (by simp [jj_rk] <;> first | exact Or.inl (lr_416 (jj_ink (i := (nI (L0.length))) (vp_in_nI (by omega) (by decide))))) ?_
        refine nf_sign (by omega) m.2.2.1 ?_
        show jj_R _ _ kc ks (jj_S, 782, h, g) 174 [(0, .ref 49), (1, .int 6), (2, .ref (417 + ((nI (L0.length)) : Int32).toNatClampNeg))] [] Q
        refine rr_aload_n 0 rfl rfl dX10_readsStep_174 ?_
        refine rr_dup rfl dX10_readsStep_175 ?_
        refine rr_getI dX10_readsStep_176 fX10_154 lo_49 sh_49 rfl ?_
        refine rr_iconst 1 rfl dX10_readsStep_179 ?_
        refine rr_isub dX10_readsStep_180 ?_
        refine rr_putI dX10_readsStep_181 fX10_154 ni10_8 lo_49 sh_49 rfl ?_
        rw [jj_rs_set0 (B := h) (o := 49) (r := (h 49)) rfl]
        refine jj_fl (fun h9 eh => ?_)
        have m9 : wer c e h0 k p h9 := by
          rw [eh]
          exact wer_49 (by decide) m
        clear eh
        revert h9
        intro h m
        show jj_R _ _ kc ks (jj_S, 782, h, g) 184 [(0, .ref 49), (1, .int 6), (2, .ref (417 + ((nI (L0.length)) : Int32).toNatClampNeg))] [] Q
        refine rr_aload_n 2 rfl rfl dX10_readsStep_184 ?_
        refine rr_iconst 3 rfl dX10_readsStep_185 ?_
        refine rr_aload_n 0 rfl rfl dX10_readsStep_186 ?_
        refine rr_getI dX10_readsStep_187 fX10_248 lo_49 sh_49 rfl ?_
        refine rr_iastore dX10_readsStep_190 (lr_416 (jj_ink (i := (nI (L0.length))) (vp_in_nI (by omega) (by decide)))) (sr_416 (jj_ink (i := (nI (L0.length))) (vp_in_nI (by omega) (by decide)))) (jj_inL rfl) ?_
        rw [show (3 : Int32).toNatClampNeg = 3 from rfl]
        refine jj_Rh (jj_gs_set0 (B := h) (L := []) (b := 417) (len := 80) (x := ((nI (L0.length)) : Int32).toNatClampNeg) rfl (jj_ink (i := (nI (L0.length))) (vp_in_nI (by omega) (by decide)))) ?_
        rw [jj_rs_nil]
        refine jj_fl (fun h9 eh => ?_)
        have m9 : wer c e h0 k p h9 := by
          rw [eh]
          exact wer_g m
        clear eh
        revert h9
        intro h m
        show jj_R _ _ kc ks (jj_S, 782, h, g) 191 [(0, .ref 49), (1, .int 6), (2, .ref (417 + ((nI (L0.length)) : Int32).toNatClampNeg))] [] Q
        refine rr_aload_n 0 rfl rfl dX10_readsStep_191 ?_
        refine rr_bipush 59 rfl dX10_readsStep_192 ?_
        refine rr_callV (As := [.int 59]) (rest := []) (kc2 := 0) (ks2 := 0) dX10_readsStep_194 okX10_sign lX10_167 lo_49 sh_49 rfl rfl (Nat.le_of_ble_eq_true rfl) (Nat.le_of_ble_eq_true rfl) rfl (by omega) (by simp [jj_rk] <;> first | exact Or.inl (lr_416 (jj_ink (i := (nI (L0.length))) (vp_in_nI (by omega) (by decide))))) (by simp [jj_rk] <;> first | exact Or.inl (lr_416 (jj_ink (i := (nI (L0.length))) (vp_in_nI (by omega) (by decide))))) ?_
        refine nf_sign (by omega) m.2.2.1 ?_
        show jj_R _ _ kc ks (jj_S, 782, h, g) 197 [(0, .ref 49), (1, .int 6), (2, .ref (417 + ((nI (L0.length)) : Int32).toNatClampNeg))] [] Q
        refine rr_return dX10_readsStep_197 rfl ?_
        exact k2 k p _ rfl m
    · skip
      have eS := hN.mpr o6
      subst eS
      rw [pa_none] at k2
      show jj_R _ _ kc ks (jj_S, 782, h, g) 29 [(0, .ref 49), (1, .int 6)] [.int 0] Q
      refine rr_if_ne dX10_readsStep_29 (fun c => absurd c (by decide)) (fun _ => ?_)
      refine rr_return dX10_readsStep_32 rfl ?_
      exact k2 3 x h rfl m
theorem pstep_no {S : Option (Nat → Nat → pW_)} {c : Nat → Nat} {e n row a : Nat} (h : ¬ kd c e a = 2) : pstep S c e n row a = .error (1, a) := by
  unfold pstep
  rw [sk_k h, if_neg (by decide), if_neg (by decide), if_neg (by decide), if_neg (by decide), if_neg (by decide), if_neg (by decide), if_neg (by decide)]
def pS_ (c : Nat → Nat) (e n : Nat) : Nat → Option (Nat → Nat → pW_)
  | 0 => none
  | l + 1 => some (pstps c e n l)
theorem pstps_eq {c : Nat → Nat} {e n : Nat} : ∀ l, pstps c e n l = fun row a => plw (pstep (pS_ c e n l) c e n) c e row e [] a
  | 0 => rfl
  | l + 1 => rfl
theorem ws_lev {c : Nat → Nat} {e n : Nat} (he : e ≤ 150) (hn : n ≤ 8) : ∀ l o, o + l = 6 → wspec (5 + l) (pstep (pS_ c e n l) c e n) c e n o
  | 0, o, h => ws_step he hn (by omega) ⟨fun _ => by omega, fun _ => rfl⟩ (by decide) (fun s q => by cases q)
  | l + 1, o, h => by
    have h0 := ws_lev (c := c) he hn l (o + 1) (by omega)
    have h1 := ws_step (c := c) (e := e) (n := n) (o := o) (B := 5 + l) (S := some (pstps c e n l)) he hn (by omega) ⟨fun q => (by cases q), fun q => absurd q (by omega)⟩ (by omega) (fun s q => by cases q; exact ⟨_, pstps_eq l, fun row a => pstep_no, h0⟩)
    intro D kc ks x L0 h0 h g Q hD
    exact h1 (by omega)
