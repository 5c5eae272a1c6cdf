/-! ===== the reference's signs ===== -/
/-- a sign that is neither digit nor letter nor blank -/
def sgn (X : Nat) : Prop := X < 128 ∧ isD X = false ∧ isL X = false
theorem sg_at {c : Nat → Nat} {e a X : Nat} (hX : sgn X) (hc : a < e → c a < 256) : ((if a < e then nI (c a) else -1) = nI X) ↔ (kd c e a = 3 ∧ c a = X) := by
  by_cases w : a < e
  · rw [if_pos w, nI_eq (by have := hc w; omega) (by have := hX.1; omega)]
    refine ⟨fun q => ⟨?_, q⟩, fun q => q.2⟩
    unfold kd
    rw [if_neg (by omega), q, hX.2.1, hX.2.2, if_neg (by decide), if_neg (by decide)]
  · rw [if_neg w]
    refine ⟨fun q => ?_, fun q => ?_⟩
    · exfalso
      have := congrArg Int32.toInt q
      rw [nI_toInt (by have := hX.1; omega), show (-1 : Int32).toInt = -1 from rfl] at this
      omega
    · rw [kd_end.mpr (by omega)] at q
      exact absurd q.1 (by decide)
theorem nx_3 {c : Nat → Nat} {e a : Nat} (h : kd c e a = 3) : nx c e a = a + 1 := by
  unfold kd at h
  unfold nx
  by_cases w : e ≤ a
  · rw [if_pos w] at h; exact absurd h (by decide)
  · rw [if_neg w] at h ⊢
    by_cases d1 : isD (c a) = true
    · rw [if_pos d1] at h; exact absurd h (by decide)
    · rw [if_neg d1] at h ⊢
      by_cases l1 : isL (c a) = true
      · rw [if_pos l1] at h; exact absurd h (by decide)
      · rw [if_neg l1]
theorem sp_sign {c : Nat → Nat} {e x X d kc ks : Nat} {h : Nat → Nat → Int32} {g : Nat → Nat → Int64} {Q : jj_Rs → jj_St → Prop} (he : e ≤ 600) (hX : sgn X) (hs : h 49 2 = nI e) (ha : h 49 4 = nI x) (hF : fedok (h 50) c) (hx : x ≤ e) (hf : h 49 5 = 0) (k1 : ∀ b, psign c e X (spn isB c e x) = .ok b → Q (.inl none) (jj_S, 782, jj_rs h [(49, upd (h 49) 4 (nI (nx c e (spn isB c e x))))], g)) (k2 : ∀ k p r, psign c e X (spn isB c e x) = .error (k, p) → r 5 = nI k → r 6 = nI p → (∃ y : Nat, y ≤ e ∧ r 4 = nI y) → (∀ i, ¬ i = 4 → ¬ i = 5 → ¬ i = 6 → r i = h 49 i) → Q (.inl none) (jj_S, 782, jj_rs h [(49, r)], g)) : jj_R mX10_sign (d + 2) kc ks (jj_S, 782, h, g) 0 [(0, .ref 49), (1, .int (nI X))] [] Q := by
  have hA : spn isB c e x ≤ e := spn_le hx
  refine rr_aload_n 0 rfl rfl dX10_sign_0 ?_
  refine rr_getI dX10_sign_1 fX10_111 lo_49 sh_49 rfl ?_
  rw [show (h 49) 5 = 0 from hf]
  refine rr_if_eq dX10_sign_4 (fun _ => ?_) (fun c => absurd (by decide) c)
  refine rr_aload_n 0 rfl rfl dX10_sign_8 ?_
  refine rr_callV (As := []) (rest := []) (kc2 := 0) (ks2 := 0) dX10_sign_9 okX10_blanks lX10_117 lo_49 sh_49 rfl rfl (Nat.le_of_ble_eq_true rfl) (Nat.le_of_ble_eq_true rfl) rfl (by omega) (by simp [jj_rk]) (by simp [jj_rk]) ?_
  refine sp_blanks he hs ha hF (by omega) ?_
  show jj_R _ _ kc ks (jj_S, 782, (jj_rs h [(49, (upd (h 49) (4) (nI (spn isB c e x))))]), g) 12 [(0, .ref 49), (1, .int (nI X))] [] Q
  refine rr_aload_n 0 rfl rfl dX10_sign_12 ?_
  refine rr_aload_n 0 rfl rfl dX10_sign_13 ?_
  refine rr_getI dX10_sign_14 fX10_104 lo_49 sh_49 rfl ?_
  rw [show (jj_rs h [(49, (upd (h 49) (4) (nI (spn isB c e x))))]) 49 = (upd (h 49) (4) (nI (spn isB c e x))) from rfl]
  rw [show (upd (h 49) (4) (nI (spn isB c e x))) 4 = (nI (spn isB c e x)) from rfl]
  refine rr_callV (As := [.int (nI (spn isB c e x))]) (rest := []) (kc2 := 0) (ks2 := 0) dX10_sign_17 okX10_byteAt lX10_107 lo_49 sh_49 rfl rfl (Nat.le_of_ble_eq_true rfl) (Nat.le_of_ble_eq_true rfl) rfl (by omega) (by simp [jj_rk]) (by simp [jj_rk]) ?_
  refine sp_X10_byteAt (by_in he hs (by omega)) ?_
  show jj_R _ _ kc ks (jj_S, 782, (jj_rs h [(49, (upd (h 49) (4) (nI (spn isB c e x))))]), g) 20 [(0, .ref 49), (1, .int (nI X))] [.int (vX10_byteAt (upd (h 49) (4) (nI (spn isB c e x))) (h 50) (nI (spn isB c e x)))] Q
  refine rr_iload_n 1 rfl rfl dX10_sign_20 ?_
  refine rr_icmp_ne dX10_sign_21 (fun c1 => ?_) (fun c1 => ?_)
  · skip
    refine rr_aload_n 0 rfl rfl dX10_sign_37 ?_
    refine rr_iconst 1 rfl dX10_sign_38 ?_
    refine rr_aload_n 0 rfl rfl dX10_sign_39 ?_
    refine rr_getI dX10_sign_40 fX10_104 lo_49 sh_49 rfl ?_
    rw [show (jj_rs h [(49, (upd (h 49) (4) (nI (spn isB c e x))))]) 49 = (upd (h 49) (4) (nI (spn isB c e x))) from rfl]
    rw [show (upd (h 49) (4) (nI (spn isB c e x))) 4 = (nI (spn isB c e x)) from rfl]
    refine rr_callV (As := [.int 1, .int (nI (spn isB c e x))]) (rest := []) (kc2 := 0) (ks2 := 0) dX10_sign_43 okX10_wrong lX10_124 lo_49 sh_49 rfl rfl (Nat.le_of_ble_eq_true rfl) (Nat.le_of_ble_eq_true rfl) rfl (by omega) (by simp [jj_rk]) (by simp [jj_rk]) ?_
    refine sp_X10_wrong  ?_
    show jj_R _ _ kc ks (jj_S, 782, (jj_rs (jj_rs h [(49, (upd (h 49) (4) (nI (spn isB c e x))))]) [(49, (rX10_wrong_49 (upd (h 49) (4) (nI (spn isB c e x))) 1 (nI (spn isB c e x))))]), g) 46 [(0, .ref 49), (1, .int (nI X))] [] Q
    rw [jj_rs_rs (B := h) (L := [(49, (upd (h 49) (4) (nI (spn isB c e x))))]) (M := [(49, (rX10_wrong_49 (upd (h 49) (4) (nI (spn isB c e x))) 1 (nI (spn isB c e x))))]) (L2 := [(49, (rX10_wrong_49 (upd (h 49) (4) (nI (spn isB c e x))) 1 (nI (spn isB c e x))))]) rfl]
    refine rr_return dX10_sign_46 rfl ?_
    have e1 : upd (h 49) 4 (nI (spn isB c e x)) 2 = nI e := (jj_une (by decide)).trans hs
    have e5 : upd (h 49) 4 (nI (spn isB c e x)) 5 = 0 := (jj_une (by decide)).trans hf
    have sg := sg_at (c := c) (e := e) (a := spn isB c e x) hX (fun q => (hF _ (by omega)).2)
    rw [by_at hF he (by omega) e1, sg] at c1
    rw [wr_0 e5]
    refine k2 1 (spn isB c e x) _ (by unfold psign; rw [if_neg c1]) ((jj_une (by decide)).trans (jj_ueq rfl)) (jj_ueq rfl) ⟨spn isB c e x, hA, (jj_une (by decide)).trans ((jj_une (by decide)).trans (jj_ueq rfl))⟩ (fun i i4 i5 i6 => ?_)
    rw [jj_une i6, jj_une i5, jj_une i4]
  · skip
    refine rr_aload_n 0 rfl rfl dX10_sign_24 ?_
    refine rr_dup rfl dX10_sign_25 ?_
    refine rr_getI dX10_sign_26 fX10_104 lo_49 sh_49 rfl ?_
    rw [show (jj_rs h [(49, (upd (h 49) (4) (nI (spn isB c e x))))]) 49 = (upd (h 49) (4) (nI (spn isB c e x))) from rfl]
    rw [show (upd (h 49) (4) (nI (spn isB c e x))) 4 = (nI (spn isB c e x)) from rfl]
    refine rr_iconst 1 rfl dX10_sign_29 ?_
    refine rr_iadd dX10_sign_30 ?_
    refine rr_putI dX10_sign_31 fX10_104 ni10_4 lo_49 sh_49 rfl ?_
    rw [jj_rs_set (B := h) (L := [(49, (upd (h 49) (4) (nI (spn isB c e x))))]) (L2 := [(49, (upd (upd (h 49) (4) (nI (spn isB c e x))) (4) ((nI (spn isB c e x)) + 1)))]) (r := (upd (h 49) (4) (nI (spn isB c e x)))) rfl rfl]
    refine rr_goto dX10_sign_34 ?_
    refine rr_return dX10_sign_46 rfl ?_
    have e1 : upd (h 49) 4 (nI (spn isB c e x)) 2 = nI e := (jj_une (by decide)).trans hs
    have e5 : upd (h 49) 4 (nI (spn isB c e x)) 5 = 0 := (jj_une (by decide)).trans hf
    have sg := sg_at (c := c) (e := e) (a := spn isB c e x) hX (fun q => (hF _ (by omega)).2)
    rw [by_at hF he (by omega) e1, sg] at c1
    rw [up_up, nI_1, ← nx_3 c1.1]
    exact k1 (nt c e (spn isB c e x)) (by unfold psign; rw [if_pos c1])
theorem sp_takesSign {c : Nat → Nat} {e x X d kc ks : Nat} {h : Nat → Nat → Int32} {g : Nat → Nat → Int64} {Q : jj_Rs → jj_St → Prop} (he : e ≤ 600) (hX : sgn X) (hs : h 49 2 = nI e) (ha : h 49 4 = nI x) (hF : fedok (h 50) c) (hx : x ≤ e) (hf : h 49 5 = 0) (k1 : kd c e (spn isB c e x) = 3 ∧ c (spn isB c e x) = X → Q (.inl (some (.int 1))) (jj_S, 782, jj_rs h [(49, upd (h 49) 4 (nI (nx c e (spn isB c e x))))], g)) (k2 : ¬ (kd c e (spn isB c e x) = 3 ∧ c (spn isB c e x) = X) → Q (.inl (some (.int 0))) (jj_S, 782, jj_rs h [(49, upd (h 49) 4 (nI (spn isB c e x)))], g)) : jj_R mX10_takesSign (d + 2) kc ks (jj_S, 782, h, g) 0 [(0, .ref 49), (1, .int (nI X))] [] Q := by
  have hA : spn isB c e x ≤ e := spn_le hx
  refine rr_aload_n 0 rfl rfl dX10_takesSign_0 ?_
  refine rr_getI dX10_takesSign_1 fX10_111 lo_49 sh_49 rfl ?_
  rw [show (h 49) 5 = 0 from hf]
  refine rr_if_eq dX10_takesSign_4 (fun _ => ?_) (fun c => absurd (by decide) c)
  refine rr_aload_n 0 rfl rfl dX10_takesSign_9 ?_
  refine rr_callV (As := []) (rest := []) (kc2 := 0) (ks2 := 0) dX10_takesSign_10 okX10_blanks lX10_117 lo_49 sh_49 rfl rfl (Nat.le_of_ble_eq_true rfl) (Nat.le_of_ble_eq_true rfl) rfl (by omega) (by simp [jj_rk]) (by simp [jj_rk]) ?_
  refine sp_blanks he hs ha hF (by omega) ?_
  show jj_R _ _ kc ks (jj_S, 782, (jj_rs h [(49, (upd (h 49) (4) (nI (spn isB c e x))))]), g) 13 [(0, .ref 49), (1, .int (nI X))] [] Q
  refine rr_aload_n 0 rfl rfl dX10_takesSign_13 ?_
  refine rr_aload_n 0 rfl rfl dX10_takesSign_14 ?_
  refine rr_getI dX10_takesSign_15 fX10_104 lo_49 sh_49 rfl ?_
  rw [show (jj_rs h [(49, (upd (h 49) (4) (nI (spn isB c e x))))]) 49 = (upd (h 49) (4) (nI (spn isB c e x))) from rfl]
  rw [show (upd (h 49) (4) (nI (spn isB c e x))) 4 = (nI (spn isB c e x)) from rfl]
  refine rr_callV (As := [.int (nI (spn isB c e x))]) (rest := []) (kc2 := 0) (ks2 := 0) dX10_takesSign_18 okX10_byteAt lX10_107 lo_49 sh_49 rfl rfl (Nat.le_of_ble_eq_true rfl) (Nat.le_of_ble_eq_true rfl) rfl (by omega) (by simp [jj_rk]) (by simp [jj_rk]) ?_
  refine sp_X10_byteAt (by_in he hs (by omega)) ?_
  show jj_R _ _ kc ks (jj_S, 782, (jj_rs h [(49, (upd (h 49) (4) (nI (spn isB c e x))))]), g) 21 [(0, .ref 49), (1, .int (nI X))] [.int (vX10_byteAt (upd (h 49) (4) (nI (spn isB c e x))) (h 50) (nI (spn isB c e x)))] Q
  refine rr_iload_n 1 rfl rfl dX10_takesSign_21 ?_
  refine rr_icmp_ne dX10_takesSign_22 (fun c1 => ?_) (fun c1 => ?_)
  · skip
    refine rr_iconst 0 rfl dX10_takesSign_29 ?_
    refine rr_istore_n [(0, .ref 49), (1, .int (nI X)), (2, .int 0)] dX10_takesSign_30 rfl (by decide) rfl ?_
    refine rr_iload_n 2 rfl rfl dX10_takesSign_31 ?_
    refine rr_if_eq dX10_takesSign_32 (fun _ => ?_) (fun c => absurd (by decide) c)
    refine rr_iload_n 2 rfl rfl dX10_takesSign_45 ?_
    refine rr_nreturn dX10_takesSign_46 rfl (by first | rfl | assumption) ?_
    have e1 : upd (h 49) 4 (nI (spn isB c e x)) 2 = nI e := (jj_une (by decide)).trans hs
    have e5 : upd (h 49) 4 (nI (spn isB c e x)) 5 = 0 := (jj_une (by decide)).trans hf
    have sg := sg_at (c := c) (e := e) (a := spn isB c e x) hX (fun q => (hF _ (by omega)).2)
    rw [by_at hF he (by omega) e1, sg] at c1
    exact k2 c1
  · skip
    refine rr_iconst 1 rfl dX10_takesSign_25 ?_
    refine rr_goto dX10_takesSign_26 ?_
    refine rr_istore_n [(0, .ref 49), (1, .int (nI X)), (2, .int 1)] dX10_takesSign_30 rfl (by decide) rfl ?_
    refine rr_iload_n 2 rfl rfl dX10_takesSign_31 ?_
    refine rr_if_eq dX10_takesSign_32 (fun c => absurd c (by decide)) (fun _ => ?_)
    refine rr_aload_n 0 rfl rfl dX10_takesSign_35 ?_
    refine rr_dup rfl dX10_takesSign_36 ?_
    refine rr_getI dX10_takesSign_37 fX10_104 lo_49 sh_49 rfl ?_
    rw [show (jj_rs h [(49, (upd (h 49) (4) (nI (spn isB c e x))))]) 49 = (upd (h 49) (4) (nI (spn isB c e x))) from rfl]
    rw [show (upd (h 49) (4) (nI (spn isB c e x))) 4 = (nI (spn isB c e x)) from rfl]
    refine rr_iconst 1 rfl dX10_takesSign_40 ?_
    refine rr_iadd dX10_takesSign_41 ?_
    refine rr_putI dX10_takesSign_42 fX10_104 ni10_4 lo_49 sh_49 rfl ?_
    rw [jj_rs_set (B := h) (L := [(49, (upd (h 49) (4) (nI (spn isB c e x))))]) (L2 := [(49, (upd (upd (h 49) (4) (nI (spn isB c e x))) (4) ((nI (spn isB c e x)) + 1)))]) (r := (upd (h 49) (4) (nI (spn isB c e x)))) rfl rfl]
    refine rr_iload_n 2 rfl rfl dX10_takesSign_45 ?_
    refine rr_nreturn dX10_takesSign_46 rfl (by first | rfl | assumption) ?_
    have e1 : upd (h 49) 4 (nI (spn isB c e x)) 2 = nI e := (jj_une (by decide)).trans hs
    have e5 : upd (h 49) 4 (nI (spn isB c e x)) 5 = 0 := (jj_une (by decide)).trans hf
    have sg := sg_at (c := c) (e := e) (a := spn isB c e x) hX (fun q => (hF _ (by omega)).2)
    rw [by_at hF he (by omega) e1, sg] at c1
    rw [up_up, nI_1, ← nx_3 c1.1]
    exact k1 c1
