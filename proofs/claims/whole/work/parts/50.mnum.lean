/-! ===== numbers and signs, one pure reading for both ===== -/
/-- a number below lim at the token a: its value and the next token; or what is wrong, and where -/
def pnum (c : Nat → Nat) (e lim a : Nat) : Except (Nat × Nat) (Nat × Nat) := if kd c e a = 1 then (if vl c e a < lim then .ok (vl c e a, nt c e a) else .error (2, a)) else .error (1, a)
def psign (c : Nat → Nat) (e x a : Nat) : Except (Nat × Nat) Nat := if kd c e a = 3 ∧ c a = x then .ok (nt c e a) else .error (1, a)
theorem nI_lim {lim : Nat} : nI (lim + 1) - 1 = nI lim := nI_pred lim
/-- the class's number -/
theorem rd_pn {r r14 : Nat → Int32} {c : Nat → Nat} {e a lim : Nat} {w : Int32} (ew : w = nI lim - 1) (hB : bytesok r14 c) (he : e ≤ 600) (hw : lim ≤ 100000) (h : tk c e a r) (h7 : r 7 = 0) :
    (∀ v b, pnum c e lim a = .ok (v, b) → v < lim ∧ a < b ∧ b ≤ e ∧ vX5_number r r14 w = nI v ∧ rgo r (rX5_number_13 r r14 w) c e b) ∧ (∀ k p, pnum c e lim a = .error (k, p) → vX5_number r r14 w = -1 ∧ rfl_ r (rX5_number_13 r r14 w) k p) := by
  subst ew
  unfold pnum
  have ae : kd c e a = 1 → a < e := fun k => by
    rcases Nat.lt_or_ge a e with q | q
    · exact q
    · rw [kd_end.mpr q] at k; exact absurd k (by decide)
  cases lim with
  | zero =>
    rw [show nI 0 - 1 = (-1 : Int32) from by decide]
    have hh := rd_num0 (r14 := r14) h h7
    by_cases k : kd c e a = 1
    · rw [if_pos k, if_neg (by omega)]
      refine ⟨fun v b q => (by cases q), fun k2 p q => ?_⟩
      cases q
      exact hh.1 k
    · rw [if_neg k]
      refine ⟨fun v b q => (by cases q), fun k2 p q => ?_⟩
      cases q
      exact hh.2 k
  | succ m =>
    rw [nI_lim]
    have hh := rd_num (r14 := r14) (w := m) hB he (by omega) h h7
    by_cases k : kd c e a = 1
    · rw [if_pos k]
      by_cases u : vl c e a < m + 1
      · rw [if_pos u]
        refine ⟨fun v b q => ?_, fun k2 p q => (by cases q)⟩
        cases q
        have := hh.1 ⟨k, by omega⟩
        exact ⟨u, nt_gt (ae k), nt_le h.1, this.1, this.2⟩
      · rw [if_neg u]
        refine ⟨fun v b q => (by cases q), fun k2 p q => ?_⟩
        cases q
        exact hh.2.1 ⟨k, by omega⟩
    · rw [if_neg k]
      refine ⟨fun v b q => (by cases q), fun k2 p q => ?_⟩
      cases q
      exact hh.2.2 k
/-- the class's sign -/
theorem rd_ps {r r14 : Nat → Int32} {c : Nat → Nat} {e a x : Nat} (hB : bytesok r14 c) (he : e ≤ 600) (hx : x < 128) (h : tk c e a r) (h7 : r 7 = 0) :
    (∀ b, psign c e x a = .ok b → a < b ∧ b ≤ e ∧ vX5_passSign r r14 (nI x) = 1 ∧ rgo r (rX5_passSign_13 r r14 (nI x)) c e b) ∧ (∀ k p, psign c e x a = .error (k, p) → vX5_passSign r r14 (nI x) = 0 ∧ rfl_ r (rX5_passSign_13 r r14 (nI x)) k p) := by
  unfold psign
  have hh := rd_sign (r14 := r14) hB he hx h h7
  by_cases k : kd c e a = 3 ∧ c a = x
  · rw [if_pos k]
    refine ⟨fun b q => ?_, fun k2 p q => (by cases q)⟩
    cases q
    have ae : a < e := by
      rcases Nat.lt_or_ge a e with q | q
      · exact q
      · rw [kd_end.mpr q] at k; exact absurd k.1 (by decide)
    exact ⟨nt_gt ae, nt_le h.1, (hh.1 k).1, (hh.1 k).2⟩
  · rw [if_neg k]
    refine ⟨fun b q => (by cases q), fun k2 p q => ?_⟩
    cases q
    exact hh.2 k
/-- a digit more -/
theorem dg_step {c : Nat → Nat} {a k : Nat} (hd : isD (c (a + k)) = true) : ((10 : Int32) * nI (nvk c a k) + nI (c (a + k)) - 48 ≤ 100000 → (10 : Int32) * nI (nvk c a k) + nI (c (a + k)) - 48 = nI (nvk c a (k + 1))) ∧ (¬ (10 : Int32) * nI (nvk c a k) + nI (c (a + k)) - 48 ≤ 100000 → (100000 : Int32) = nI (nvk c a (k + 1))) := by
  have hdd : 48 ≤ c (a + k) ∧ c (a + k) ≤ 57 := by
    unfold isD at hd
    simp only [Bool.and_eq_true, decide_eq_true_eq] at hd
    exact hd
  have hv := nvk_le (c := c) (p := a) k
  have ev : ((10 : Int32) * nI (nvk c a k) + nI (c (a + k)) - 48) = nI (10 * nvk c a k + (c (a + k) - 48)) := by
    rw [show (10 : Int32) = nI 10 from rfl, jj_nm, nI_add, show (48 : Int32) = nI 48 from rfl, jj_nsub (by omega)]
    congr 1
    omega
  rw [ev, show (100000 : Int32) = nI 100000 from rfl, nI_leI (by omega) (by decide)]
  refine ⟨fun q => ?_, fun q => ?_⟩
  · show _ = nI (min 100000 (10 * nvk c a k + (c (a + k) - 48)))
    rw [Nat.min_eq_right q]
  · show _ = nI (min 100000 (10 * nvk c a k + (c (a + k) - 48)))
    rw [Nat.min_eq_left (by omega)]
theorem sp_numL {c : Nat → Nat} {e a d kc ks : Nat} {g : Nat → Nat → Int64} {Q : jj_Rs → jj_St → Prop} {lo hi b : Int32} (he : e ≤ 600) (n : Nat) : ∀ {k : Nat} {h : Nat → Nat → Int32}, e - (a + k) ≤ n → h 49 2 = nI e → h 49 4 = nI (a + k) → fedok (h 50) c → a + k ≤ 600 → jj_R mX10_number (d + 1) kc ks (jj_S, 782, jj_rs h [(49, upd (h 49) 4 (nI (spn isD c e (a + k))))], g) 106 [(0, .ref 49), (1, .int lo), (2, .int hi), (3, .int b), (4, .int (nI (nvk c a (spn isD c e (a + k) - a))))] [] Q → jj_R mX10_number (d + 1) kc ks (jj_S, 782, h, g) 44 [(0, .ref 49), (1, .int lo), (2, .int hi), (3, .int b), (4, .int (nI (nvk c a k)))] [] Q := by
  induction n with
  | zero =>
    intro k h hn hs ha hF hx kq
    refine rr_aload_n 0 rfl rfl dX10_number_44 ?_
    refine rr_aload_n 0 rfl rfl dX10_number_45 ?_
    refine rr_getI dX10_number_46 fX10_104 lo_49 sh_49 rfl ?_
    rw [show (h 49) 4 = (nI (a + k)) from ha]
    refine rr_callV (As := [.int (nI (a + k))]) (rest := []) (kc2 := 0) (ks2 := 0) dX10_number_49 okX10_byteAt lX10_107 lo_49 sh_49 rfl rfl (Nat.le_of_ble_eq_true rfl) (Nat.le_of_ble_eq_true rfl) rfl (by omega) (by simp [jj_rk]) (by simp [jj_rk]) ?_
    refine sp_X10_byteAt (by_in he hs (by omega)) ?_
    show jj_R _ _ kc ks (jj_S, 782, h, g) 52 [(0, .ref 49), (1, .int lo), (2, .int hi), (3, .int b), (4, .int (nI (nvk c a k)))] [.int (vX10_byteAt (h 49) (h 50) (nI (a + k)))] Q
    refine rr_callS (As := [.int (vX10_byteAt (h 49) (h 50) (nI (a + k)))]) (rest := []) (kc2 := 0) (ks2 := 0) dX10_number_52 okX10_isDigit lX10_120 rfl (Nat.le_of_ble_eq_true rfl) (Nat.le_of_ble_eq_true rfl) rfl (by omega) (by simp [jj_rk]) (by simp [jj_rk]) ?_
    refine sp_X10_isDigit  ?_
    show jj_R _ _ kc ks (jj_S, 782, h, g) 55 [(0, .ref 49), (1, .int lo), (2, .int hi), (3, .int b), (4, .int (nI (nvk c a k)))] [.int (vX10_isDigit (vX10_byteAt (h 49) (h 50) (nI (a + k))))] Q
    refine rr_if_eq dX10_number_55 (fun c1 => ?_) (fun c1 => ?_)
    · skip
      have hc : ¬ (a + k < e ∧ isD (c (a + k)) = true) := fun q => by
        rw [by_at hF he (by omega) hs, by_D (fun q => (hF (a + k) (by omega)).2), if_pos q] at c1
        exact absurd c1 (by decide)
      rw [spn_no hc, up_id ha, Nat.add_sub_cancel_left] at kq
      exact jj_Rh (jj_addr (B := h) (o := 49) (r := h 49) rfl) kq
    · skip
      refine rr_bipush 10 rfl dX10_number_58 ?_
      refine rr_iload 4 rfl dX10_number_60 ?_
      refine rr_imul dX10_number_62 ?_
      refine rr_aload_n 0 rfl rfl dX10_number_63 ?_
      refine rr_aload_n 0 rfl rfl dX10_number_64 ?_
      refine rr_getI dX10_number_65 fX10_104 lo_49 sh_49 rfl ?_
      rw [show (h 49) 4 = (nI (a + k)) from ha]
      refine rr_callV (As := [.int (nI (a + k))]) (rest := [.int ((10 : Int32) * (nI (nvk c a k)))]) (kc2 := 0) (ks2 := 0) dX10_number_68 okX10_byteAt lX10_107 lo_49 sh_49 rfl rfl (Nat.le_of_ble_eq_true rfl) (Nat.le_of_ble_eq_true rfl) rfl (by omega) (by simp [jj_rk]) (by simp [jj_rk]) ?_
      refine sp_X10_byteAt (by_in he hs (by omega)) ?_
      show jj_R _ _ kc ks (jj_S, 782, h, g) 71 [(0, .ref 49), (1, .int lo), (2, .int hi), (3, .int b), (4, .int (nI (nvk c a k)))] [.int (vX10_byteAt (h 49) (h 50) (nI (a + k))), .int ((10 : Int32) * (nI (nvk c a k)))] Q
      refine rr_iadd dX10_number_71 ?_
      refine rr_bipush 48 rfl dX10_number_72 ?_
      refine rr_isub dX10_number_74 ?_
      refine rr_istore [(0, .ref 49), (1, .int lo), (2, .int hi), (3, .int b), (4, .int ((((10 : Int32) * (nI (nvk c a k))) + (vX10_byteAt (h 49) (h 50) (nI (a + k)))) - 48))] dX10_number_75 (by decide) rfl ?_
      refine rr_iload 4 rfl dX10_number_77 ?_
      refine rr_ldc kX10_128 dX10_number_79 ?_
      refine rr_icmp_le dX10_number_81 (fun c2 => ?_) (fun c2 => ?_)
      · skip
        refine rr_iload 4 rfl dX10_number_89 ?_
        refine rr_istore [(0, .ref 49), (1, .int lo), (2, .int hi), (3, .int b), (4, .int ((((10 : Int32) * (nI (nvk c a k))) + (vX10_byteAt (h 49) (h 50) (nI (a + k)))) - 48))] dX10_number_91 (by decide) rfl ?_
        refine rr_aload_n 0 rfl rfl dX10_number_93 ?_
        refine rr_dup rfl dX10_number_94 ?_
        refine rr_getI dX10_number_95 fX10_104 lo_49 sh_49 rfl ?_
        rw [show (h 49) 4 = (nI (a + k)) from ha]
        refine rr_iconst 1 rfl dX10_number_98 ?_
        refine rr_iadd dX10_number_99 ?_
        refine rr_putI dX10_number_100 fX10_104 ni10_4 lo_49 sh_49 rfl ?_
        rw [jj_rs_set0 (B := h) (o := 49) (r := (h 49)) rfl]
        refine rr_goto dX10_number_103 ?_
        have hc : a + k < e ∧ isD (c (a + k)) = true := by
          rw [by_at hF he (by omega) hs, by_D (fun q => (hF (a + k) (by omega)).2)] at c1
          by_cases q : a + k < e ∧ isD (c (a + k)) = true
          · exact q
          · rw [if_neg q] at c1; exact absurd rfl c1
        exact absurd hc.1 (by omega)
      · skip
        refine rr_ldc kX10_128 dX10_number_84 ?_
        refine rr_goto dX10_number_86 ?_
        refine rr_istore [(0, .ref 49), (1, .int lo), (2, .int hi), (3, .int b), (4, .int 100000)] dX10_number_91 (by decide) rfl ?_
        refine rr_aload_n 0 rfl rfl dX10_number_93 ?_
        refine rr_dup rfl dX10_number_94 ?_
        refine rr_getI dX10_number_95 fX10_104 lo_49 sh_49 rfl ?_
        rw [show (h 49) 4 = (nI (a + k)) from ha]
        refine rr_iconst 1 rfl dX10_number_98 ?_
        refine rr_iadd dX10_number_99 ?_
        refine rr_putI dX10_number_100 fX10_104 ni10_4 lo_49 sh_49 rfl ?_
        rw [jj_rs_set0 (B := h) (o := 49) (r := (h 49)) rfl]
        refine rr_goto dX10_number_103 ?_
        have hc : a + k < e ∧ isD (c (a + k)) = true := by
          rw [by_at hF he (by omega) hs, by_D (fun q => (hF (a + k) (by omega)).2)] at c1
          by_cases q : a + k < e ∧ isD (c (a + k)) = true
          · exact q
          · rw [if_neg q] at c1; exact absurd rfl c1
        exact absurd hc.1 (by omega)
  | succ n ih =>
    intro k h hn hs ha hF hx kq
    refine rr_aload_n 0 rfl rfl dX10_number_44 ?_
    refine rr_aload_n 0 rfl rfl dX10_number_45 ?_
    refine rr_getI dX10_number_46 fX10_104 lo_49 sh_49 rfl ?_
    rw [show (h 49) 4 = (nI (a + k)) from ha]
    refine rr_callV (As := [.int (nI (a + k))]) (rest := []) (kc2 := 0) (ks2 := 0) dX10_number_49 okX10_byteAt lX10_107 lo_49 sh_49 rfl rfl (Nat.le_of_ble_eq_true rfl) (Nat.le_of_ble_eq_true rfl) rfl (by omega) (by simp [jj_rk]) (by simp [jj_rk]) ?_
    refine sp_X10_byteAt (by_in he hs (by omega)) ?_
    show jj_R _ _ kc ks (jj_S, 782, h, g) 52 [(0, .ref 49), (1, .int lo), (2, .int hi), (3, .int b), (4, .int (nI (nvk c a k)))] [.int (vX10_byteAt (h 49) (h 50) (nI (a + k)))] Q
    refine rr_callS (As := [.int (vX10_byteAt (h 49) (h 50) (nI (a + k)))]) (rest := []) (kc2 := 0) (ks2 := 0) dX10_number_52 okX10_isDigit lX10_120 rfl (Nat.le_of_ble_eq_true rfl) (Nat.le_of_ble_eq_true rfl) rfl (by omega) (by simp [jj_rk]) (by simp [jj_rk]) ?_
    refine sp_X10_isDigit  ?_
    show jj_R _ _ kc ks (jj_S, 782, h, g) 55 [(0, .ref 49), (1, .int lo), (2, .int hi), (3, .int b), (4, .int (nI (nvk c a k)))] [.int (vX10_isDigit (vX10_byteAt (h 49) (h 50) (nI (a + k))))] Q
    refine rr_if_eq dX10_number_55 (fun c1 => ?_) (fun c1 => ?_)
    · skip
      have hc : ¬ (a + k < e ∧ isD (c (a + k)) = true) := fun q => by
        rw [by_at hF he (by omega) hs, by_D (fun q => (hF (a + k) (by omega)).2), if_pos q] at c1
        exact absurd c1 (by decide)
      rw [spn_no hc, up_id ha, Nat.add_sub_cancel_left] at kq
      exact jj_Rh (jj_addr (B := h) (o := 49) (r := h 49) rfl) kq
    · skip
      refine rr_bipush 10 rfl dX10_number_58 ?_
      refine rr_iload 4 rfl dX10_number_60 ?_
      refine rr_imul dX10_number_62 ?_
      refine rr_aload_n 0 rfl rfl dX10_number_63 ?_
      refine rr_aload_n 0 rfl rfl dX10_number_64 ?_
      refine rr_getI dX10_number_65 fX10_104 lo_49 sh_49 rfl ?_
      rw [show (h 49) 4 = (nI (a + k)) from ha]
      refine rr_callV (As := [.int (nI (a + k))]) (rest := [.int ((10 : Int32) * (nI (nvk c a k)))]) (kc2 := 0) (ks2 := 0) dX10_number_68 okX10_byteAt lX10_107 lo_49 sh_49 rfl rfl (Nat.le_of_ble_eq_true rfl) (Nat.le_of_ble_eq_true rfl) rfl (by omega) (by simp [jj_rk]) (by simp [jj_rk]) ?_
      refine sp_X10_byteAt (by_in he hs (by omega)) ?_
      show jj_R _ _ kc ks (jj_S, 782, h, g) 71 [(0, .ref 49), (1, .int lo), (2, .int hi), (3, .int b), (4, .int (nI (nvk c a k)))] [.int (vX10_byteAt (h 49) (h 50) (nI (a + k))), .int ((10 : Int32) * (nI (nvk c a k)))] Q
      refine rr_iadd dX10_number_71 ?_
      refine rr_bipush 48 rfl dX10_number_72 ?_
      refine rr_isub dX10_number_74 ?_
      refine rr_istore [(0, .ref 49), (1, .int lo), (2, .int hi), (3, .int b), (4, .int ((((10 : Int32) * (nI (nvk c a k))) + (vX10_byteAt (h 49) (h 50) (nI (a + k)))) - 48))] dX10_number_75 (by decide) rfl ?_
      refine rr_iload 4 rfl dX10_number_77 ?_
      refine rr_ldc kX10_128 dX10_number_79 ?_
      refine rr_icmp_le dX10_number_81 (fun c2 => ?_) (fun c2 => ?_)
      · skip
        refine rr_iload 4 rfl dX10_number_89 ?_
        refine rr_istore [(0, .ref 49), (1, .int lo), (2, .int hi), (3, .int b), (4, .int ((((10 : Int32) * (nI (nvk c a k))) + (vX10_byteAt (h 49) (h 50) (nI (a + k)))) - 48))] dX10_number_91 (by decide) rfl ?_
        refine rr_aload_n 0 rfl rfl dX10_number_93 ?_
        refine rr_dup rfl dX10_number_94 ?_
        refine rr_getI dX10_number_95 fX10_104 lo_49 sh_49 rfl ?_
        rw [show (h 49) 4 = (nI (a + k)) from ha]
        refine rr_iconst 1 rfl dX10_number_98 ?_
        refine rr_iadd dX10_number_99 ?_
        refine rr_putI dX10_number_100 fX10_104 ni10_4 lo_49 sh_49 rfl ?_
        rw [jj_rs_set0 (B := h) (o := 49) (r := (h 49)) rfl]
        refine rr_goto dX10_number_103 ?_
        have hc : a + k < e ∧ isD (c (a + k)) = true := by
          rw [by_at hF he (by omega) hs, by_D (fun q => (hF (a + k) (by omega)).2)] at c1
          by_cases q : a + k < e ∧ isD (c (a + k)) = true
          · exact q
          · rw [if_neg q] at c1; exact absurd rfl c1
        rw [by_at hF he (by omega) hs, if_pos hc.1] at c2
        have hv := (dg_step (c := c) (a := a) (k := k) hc.2).1 c2
        rw [by_at hF he (by omega) hs, if_pos hc.1]
        rw [hv]
        rw [spn_yes hc.1 hc.2] at kq
        refine ih (k := k + 1) (by omega) hs (nI_1 (a + k)) hF (by omega) ?_
        refine jj_Rh (jj_rs_rs (B := h) (L := [(49, upd (h 49) 4 (nI (a + k) + 1))]) (M := [(49, upd (upd (h 49) 4 (nI (a + k) + 1)) 4 (nI (spn isD c e (a + k + 1))))]) (L2 := [(49, upd (upd (h 49) 4 (nI (a + k) + 1)) 4 (nI (spn isD c e (a + k + 1))))]) rfl) ?_
        rw [up_up]
        exact kq
      · skip
        refine rr_ldc kX10_128 dX10_number_84 ?_
        refine rr_goto dX10_number_86 ?_
        refine rr_istore [(0, .ref 49), (1, .int lo), (2, .int hi), (3, .int b), (4, .int 100000)] dX10_number_91 (by decide) rfl ?_
        refine rr_aload_n 0 rfl rfl dX10_number_93 ?_
        refine rr_dup rfl dX10_number_94 ?_
        refine rr_getI dX10_number_95 fX10_104 lo_49 sh_49 rfl ?_
        rw [show (h 49) 4 = (nI (a + k)) from ha]
        refine rr_iconst 1 rfl dX10_number_98 ?_
        refine rr_iadd dX10_number_99 ?_
        refine rr_putI dX10_number_100 fX10_104 ni10_4 lo_49 sh_49 rfl ?_
        rw [jj_rs_set0 (B := h) (o := 49) (r := (h 49)) rfl]
        refine rr_goto dX10_number_103 ?_
        have hc : a + k < e ∧ isD (c (a + k)) = true := by
          rw [by_at hF he (by omega) hs, by_D (fun q => (hF (a + k) (by omega)).2)] at c1
          by_cases q : a + k < e ∧ isD (c (a + k)) = true
          · exact q
          · rw [if_neg q] at c1; exact absurd rfl c1
        rw [by_at hF he (by omega) hs, if_pos hc.1] at c2
        have hv := (dg_step (c := c) (a := a) (k := k) hc.2).2 c2
        rw [hv]
        rw [spn_yes hc.1 hc.2] at kq
        refine ih (k := k + 1) (by omega) hs (nI_1 (a + k)) hF (by omega) ?_
        refine jj_Rh (jj_rs_rs (B := h) (L := [(49, upd (h 49) 4 (nI (a + k) + 1))]) (M := [(49, upd (upd (h 49) 4 (nI (a + k) + 1)) 4 (nI (spn isD c e (a + k + 1))))]) (L2 := [(49, upd (upd (h 49) 4 (nI (a + k) + 1)) 4 (nI (spn isD c e (a + k + 1))))]) rfl) ?_
        rw [up_up]
        exact kq
