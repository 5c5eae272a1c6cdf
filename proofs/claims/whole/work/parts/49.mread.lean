/-! ===== the reference reads: bytes and blanks ===== -/
def fedok (r50 : Nat → Int32) (c : Nat → Nat) : Prop := ∀ k, k < 600 → r50 k = nI (c k) ∧ c k < 256
/-- the reference's reading: size, place -/
def ms (e x : Nat) (r49 : Nat → Int32) : Prop := r49 2 = nI e ∧ r49 4 = nI x
def vX10_byteAt (r49 : Nat → Int32) (r50 : Nat → Int32) (k : Int32) : Int32 := (if k < (r49 2) then (r50 (k : Int32).toNatClampNeg) else (-1))
set_option maxHeartbeats 1000000 in
theorem sp_X10_byteAt {d kc ks : Nat} {h : Nat → Nat → Int32} {g : Nat → Nat → Int64} {Q : jj_Rs → jj_St → Prop} {k : Int32} (hk : k < (h 49) 2 → vp_in k 600) (kq : Q (.inl (some (.int (vX10_byteAt (h 49) (h 50) k)))) (jj_S, 782, h, g)) : jj_R mX10_byteAt (d + 0) kc ks (jj_S, 782, h, g) 0 [(0, .ref 49), (1, .int k)] [] Q := by
  refine rr_iload_n 1 rfl rfl dX10_byteAt_0 ?_
  refine rr_aload_n 0 rfl rfl dX10_byteAt_1 ?_
  refine rr_getI dX10_byteAt_2 fX10_101 lo_49 sh_49 rfl ?_
  refine rr_icmp_lt dX10_byteAt_5 (fun c1 => ?_) (fun c1 => ?_)
  · skip
    refine rr_aload_n 0 rfl rfl dX10_byteAt_12 ?_
    refine rr_getR dX10_byteAt_13 fX10_13 lo_49 sh_49 rfl ?_
    refine rr_iload_n 1 rfl rfl dX10_byteAt_16 ?_
    refine rr_iaload dX10_byteAt_17 lo_50 sh_50 (hk (by assumption)) ?_
    refine rr_ireturn dX10_byteAt_18 rfl ?_
    simpa only [vX10_byteAt, if_pos c1] using kq
  · skip
    refine rr_iconst (-1) rfl dX10_byteAt_8 ?_
    refine rr_goto dX10_byteAt_9 ?_
    refine rr_ireturn dX10_byteAt_18 rfl ?_
    simpa only [vX10_byteAt, if_neg c1] using kq
theorem by_at {r49 r50 : Nat → Int32} {c : Nat → Nat} {e x : Nat} (hF : fedok r50 c) (he : e ≤ 600) (hx : x ≤ 1200) (h2 : r49 2 = nI e) : vX10_byteAt r49 r50 (nI x) = if x < e then nI (c x) else -1 := by
  unfold vX10_byteAt
  rw [h2]
  by_cases w : x < e
  · rw [if_pos (nI_lt w (by omega)), if_pos w, nI_clamp (by omega), (hF x (by omega)).1]
  · rw [if_neg (nI_nlt (by omega) (by omega)), if_neg w]
theorem by_in {r49 : Nat → Int32} {e x : Nat} (he : e ≤ 600) (h2 : r49 2 = nI e) (hx : x ≤ 1200) : nI x < r49 2 → vp_in (nI x) 600 := fun q => by
  rw [h2, nI_ltI (by omega) (by omega)] at q
  exact vp_in_nI (by omega) (by decide)
theorem by_B {c : Nat → Nat} {e x : Nat} (hc : x < e → c x < 256) : ((if x < e then nI (c x) else -1) = (32 : Int32)) ↔ (x < e ∧ isB (c x) = true) := by
  by_cases w : x < e
  · rw [if_pos w, show (32 : Int32) = nI 32 from rfl, nI_eq (by have := hc w; omega) (by decide)]
    unfold isB
    exact ⟨fun q => ⟨w, by rw [q]; rfl⟩, fun q => by have := q.2; rw [beq_iff_eq] at this; exact this⟩
  · rw [if_neg w]
    exact ⟨fun q => absurd q (by decide), fun q => absurd q.1 w⟩
theorem by_L {c : Nat → Nat} {e x : Nat} (hc : x < e → c x < 256) : vX10_isSmall (if x < e then nI (c x) else -1) = if x < e ∧ isL (c x) = true then 1 else 0 := by
  unfold vX10_isSmall
  by_cases w : x < e
  · have h := hc w
    rw [if_pos w, show (97 : Int32) = nI 97 from rfl, show (122 : Int32) = nI 122 from rfl]
    unfold isL
    by_cases u : c x < 97
    · rw [if_pos (nI_lt u (by decide)), if_neg (fun q => by have := q.2; simp only [Bool.and_eq_true, decide_eq_true_eq] at this; omega)]
    · rw [if_neg (nI_nlt (by omega) (by omega))]
      by_cases u2 : 122 < c x
      · rw [if_pos (nI_lt u2 (by omega)), if_neg (fun q => by have := q.2; simp only [Bool.and_eq_true, decide_eq_true_eq] at this; omega)]
      · rw [if_neg (nI_nlt (by omega) (by decide)), if_pos ⟨w, by simp only [Bool.and_eq_true, decide_eq_true_eq]; omega⟩]
  · rw [if_neg w, if_neg (show ¬ (x < e ∧ isL (c x) = true) from fun q => w q.1)]
    exact if_pos (by decide)
theorem by_D {c : Nat → Nat} {e x : Nat} (hc : x < e → c x < 256) : vX10_isDigit (if x < e then nI (c x) else -1) = if x < e ∧ isD (c x) = true then 1 else 0 := by
  unfold vX10_isDigit
  by_cases w : x < e
  · have h := hc w
    rw [if_pos w, show (48 : Int32) = nI 48 from rfl, show (57 : Int32) = nI 57 from rfl]
    unfold isD
    by_cases u : c x < 48
    · rw [if_pos (nI_lt u (by decide)), if_neg (fun q => by have := q.2; simp only [Bool.and_eq_true, decide_eq_true_eq] at this; omega)]
    · rw [if_neg (nI_nlt (by omega) (by omega))]
      by_cases u2 : 57 < c x
      · rw [if_pos (nI_lt u2 (by omega)), if_neg (fun q => by have := q.2; simp only [Bool.and_eq_true, decide_eq_true_eq] at this; omega)]
      · rw [if_neg (nI_nlt (by omega) (by decide)), if_pos ⟨w, by simp only [Bool.and_eq_true, decide_eq_true_eq]; omega⟩]
  · rw [if_neg w, if_neg (show ¬ (x < e ∧ isD (c x) = true) from fun q => w q.1)]
    exact if_pos (by decide)
theorem spn_yes {P : Nat → Bool} {c : Nat → Nat} {e x : Nat} (h : x < e) (hp : P (c x) = true) : spn P c e x = spn P c e (x + 1) := by
  unfold spn
  rw [show e - x = (e - (x + 1)) + 1 by omega, sp, if_pos ⟨h, hp⟩]
theorem spn_no {P : Nat → Bool} {c : Nat → Nat} {e x : Nat} (h : ¬ (x < e ∧ P (c x) = true)) : spn P c e x = x := by
  unfold spn
  cases e - x with
  | zero => rfl
  | succ k => rw [sp, if_neg h]
theorem sp_blanksN {c : Nat → Nat} {e d kc ks : Nat} {g : Nat → Nat → Int64} {Q : jj_Rs → jj_St → Prop} (he : e ≤ 600) (n : Nat) : ∀ {x : Nat} {h : Nat → Nat → Int32}, e - x ≤ n → h 49 2 = nI e → h 49 4 = nI x → fedok (h 50) c → x ≤ 600 → Q (.inl none) (jj_S, 782, jj_rs h [(49, upd (h 49) 4 (nI (spn isB c e x)))], g) → jj_R mX10_blanks (d + 1) kc ks (jj_S, 782, h, g) 0 [(0, .ref 49)] [] Q := by
  induction n with
  | zero =>
    intro x h hn hs ha hF hx kq
    refine rr_aload_n 0 rfl rfl dX10_blanks_0 ?_
    refine rr_aload_n 0 rfl rfl dX10_blanks_1 ?_
    refine rr_getI dX10_blanks_2 fX10_104 lo_49 sh_49 rfl ?_
    rw [show (h 49) 4 = (nI x) from ha]
    refine rr_callV (As := [.int (nI x)]) (rest := []) (kc2 := 0) (ks2 := 0) dX10_blanks_5 okX10_byteAt lX10_107 lo_49 sh_49 rfl rfl (Nat.le_of_ble_eq_true rfl) (Nat.le_of_ble_eq_true rfl) rfl (by omega) (by simp [jj_rk]) (by simp [jj_rk]) ?_
    refine sp_X10_byteAt (by_in he hs (by omega)) ?_
    show jj_R _ _ kc ks (jj_S, 782, h, g) 8 [(0, .ref 49)] [.int (vX10_byteAt (h 49) (h 50) (nI x))] Q
    refine rr_bipush 32 rfl dX10_blanks_8 ?_
    refine rr_icmp_ne dX10_blanks_10 (fun c1 => ?_) (fun c1 => ?_)
    · skip
      refine rr_return dX10_blanks_26 rfl ?_
      have hc : ¬ (x < e ∧ isB (c x) = true) := by
        intro q
        exact c1 (by rw [by_at hF he (by omega) hs]; exact (by_B (fun q => (hF x (by omega)).2)).mpr q)
      rw [spn_no hc, up_id ha] at kq
      exact jj_Qh (jj_addr (B := h) (o := 49) (r := h 49) rfl) kq
    · skip
      refine rr_aload_n 0 rfl rfl dX10_blanks_13 ?_
      refine rr_dup rfl dX10_blanks_14 ?_
      refine rr_getI dX10_blanks_15 fX10_104 lo_49 sh_49 rfl ?_
      rw [show (h 49) 4 = (nI x) from ha]
      refine rr_iconst 1 rfl dX10_blanks_18 ?_
      refine rr_iadd dX10_blanks_19 ?_
      refine rr_putI dX10_blanks_20 fX10_104 ni10_4 lo_49 sh_49 rfl ?_
      rw [jj_rs_set0 (B := h) (o := 49) (r := (h 49)) rfl]
      refine rr_goto dX10_blanks_23 ?_
      have hc : x < e ∧ isB (c x) = true := by
        exact (by_B (fun q => (hF x (by omega)).2)).mp (by rw [← by_at hF he (by omega) hs]; exact c1)
      exact absurd hc.1 (by omega)
  | succ n ih =>
    intro x h hn hs ha hF hx kq
    refine rr_aload_n 0 rfl rfl dX10_blanks_0 ?_
    refine rr_aload_n 0 rfl rfl dX10_blanks_1 ?_
    refine rr_getI dX10_blanks_2 fX10_104 lo_49 sh_49 rfl ?_
    rw [show (h 49) 4 = (nI x) from ha]
    refine rr_callV (As := [.int (nI x)]) (rest := []) (kc2 := 0) (ks2 := 0) dX10_blanks_5 okX10_byteAt lX10_107 lo_49 sh_49 rfl rfl (Nat.le_of_ble_eq_true rfl) (Nat.le_of_ble_eq_true rfl) rfl (by omega) (by simp [jj_rk]) (by simp [jj_rk]) ?_
    refine sp_X10_byteAt (by_in he hs (by omega)) ?_
    show jj_R _ _ kc ks (jj_S, 782, h, g) 8 [(0, .ref 49)] [.int (vX10_byteAt (h 49) (h 50) (nI x))] Q
    refine rr_bipush 32 rfl dX10_blanks_8 ?_
    refine rr_icmp_ne dX10_blanks_10 (fun c1 => ?_) (fun c1 => ?_)
    · skip
      refine rr_return dX10_blanks_26 rfl ?_
      have hc : ¬ (x < e ∧ isB (c x) = true) := by
        intro q
        exact c1 (by rw [by_at hF he (by omega) hs]; exact (by_B (fun q => (hF x (by omega)).2)).mpr q)
      rw [spn_no hc, up_id ha] at kq
      exact jj_Qh (jj_addr (B := h) (o := 49) (r := h 49) rfl) kq
    · skip
      refine rr_aload_n 0 rfl rfl dX10_blanks_13 ?_
      refine rr_dup rfl dX10_blanks_14 ?_
      refine rr_getI dX10_blanks_15 fX10_104 lo_49 sh_49 rfl ?_
      rw [show (h 49) 4 = (nI x) from ha]
      refine rr_iconst 1 rfl dX10_blanks_18 ?_
      refine rr_iadd dX10_blanks_19 ?_
      refine rr_putI dX10_blanks_20 fX10_104 ni10_4 lo_49 sh_49 rfl ?_
      rw [jj_rs_set0 (B := h) (o := 49) (r := (h 49)) rfl]
      refine rr_goto dX10_blanks_23 ?_
      have hc : x < e ∧ isB (c x) = true := by
        exact (by_B (fun q => (hF x (by omega)).2)).mp (by rw [← by_at hF he (by omega) hs]; exact c1)
      rw [spn_yes hc.1 hc.2] at kq
      refine ih (x := x + 1) (by omega) hs (nI_1 x) hF (by omega) ?_
      refine jj_Qh (jj_rs_rs (B := h) (L := [(49, upd (h 49) 4 (nI x + 1))]) (M := [(49, upd (upd (h 49) 4 (nI x + 1)) 4 (nI (spn isB c e (x + 1))))]) (L2 := [(49, upd (upd (h 49) 4 (nI x + 1)) 4 (nI (spn isB c e (x + 1))))]) rfl) ?_
      rw [up_up]
      exact kq
theorem sp_blanks {c : Nat → Nat} {e x d kc ks : Nat} {h : Nat → Nat → Int32} {g : Nat → Nat → Int64} {Q : jj_Rs → jj_St → Prop} (he : e ≤ 600) (hs : h 49 2 = nI e) (ha : h 49 4 = nI x) (hF : fedok (h 50) c) (hx : x ≤ 600) (kq : Q (.inl none) (jj_S, 782, jj_rs h [(49, upd (h 49) 4 (nI (spn isB c e x)))], g)) : jj_R mX10_blanks (d + 1) kc ks (jj_S, 782, h, g) 0 [(0, .ref 49)] [] Q := sp_blanksN he (e - x) (Nat.le_refl _) hs ha hF hx kq
theorem sp_skipWordN {c : Nat → Nat} {e d kc ks : Nat} {g : Nat → Nat → Int64} {Q : jj_Rs → jj_St → Prop} (he : e ≤ 600) (n : Nat) : ∀ {x : Nat} {h : Nat → Nat → Int32}, e - x ≤ n → h 49 2 = nI e → h 49 4 = nI x → fedok (h 50) c → x ≤ 600 → Q (.inl none) (jj_S, 782, jj_rs h [(49, upd (h 49) 4 (nI (spn isL c e x)))], g) → jj_R mX10_skipWord (d + 1) kc ks (jj_S, 782, h, g) 0 [(0, .ref 49)] [] Q := by
  induction n with
  | zero =>
    intro x h hn hs ha hF hx kq
    refine rr_aload_n 0 rfl rfl dX10_skipWord_0 ?_
    refine rr_aload_n 0 rfl rfl dX10_skipWord_1 ?_
    refine rr_getI dX10_skipWord_2 fX10_104 lo_49 sh_49 rfl ?_
    rw [show (h 49) 4 = (nI x) from ha]
    refine rr_callV (As := [.int (nI x)]) (rest := []) (kc2 := 0) (ks2 := 0) dX10_skipWord_5 okX10_byteAt lX10_107 lo_49 sh_49 rfl rfl (Nat.le_of_ble_eq_true rfl) (Nat.le_of_ble_eq_true rfl) rfl (by omega) (by simp [jj_rk]) (by simp [jj_rk]) ?_
    refine sp_X10_byteAt (by_in he hs (by omega)) ?_
    show jj_R _ _ kc ks (jj_S, 782, h, g) 8 [(0, .ref 49)] [.int (vX10_byteAt (h 49) (h 50) (nI x))] Q
    refine rr_callS (As := [.int (vX10_byteAt (h 49) (h 50) (nI x))]) (rest := []) (kc2 := 0) (ks2 := 0) dX10_skipWord_8 okX10_isSmall lX10_133 rfl (Nat.le_of_ble_eq_true rfl) (Nat.le_of_ble_eq_true rfl) rfl (by omega) (by simp [jj_rk]) (by simp [jj_rk]) ?_
    refine sp_X10_isSmall  ?_
    show jj_R _ _ kc ks (jj_S, 782, h, g) 11 [(0, .ref 49)] [.int (vX10_isSmall (vX10_byteAt (h 49) (h 50) (nI x)))] Q
    refine rr_if_eq dX10_skipWord_11 (fun c1 => ?_) (fun c1 => ?_)
    · skip
      refine rr_return dX10_skipWord_27 rfl ?_
      have hc : ¬ (x < e ∧ isL (c x) = true) := by
        intro q
        rw [by_at hF he (by omega) hs, by_L (fun q => (hF x (by omega)).2), if_pos q] at c1
        exact absurd c1 (by decide)
      rw [spn_no hc, up_id ha] at kq
      exact jj_Qh (jj_addr (B := h) (o := 49) (r := h 49) rfl) kq
    · skip
      refine rr_aload_n 0 rfl rfl dX10_skipWord_14 ?_
      refine rr_dup rfl dX10_skipWord_15 ?_
      refine rr_getI dX10_skipWord_16 fX10_104 lo_49 sh_49 rfl ?_
      rw [show (h 49) 4 = (nI x) from ha]
      refine rr_iconst 1 rfl dX10_skipWord_19 ?_
      refine rr_iadd dX10_skipWord_20 ?_
      refine rr_putI dX10_skipWord_21 fX10_104 ni10_4 lo_49 sh_49 rfl ?_
      rw [jj_rs_set0 (B := h) (o := 49) (r := (h 49)) rfl]
      refine rr_goto dX10_skipWord_24 ?_
      have hc : x < e ∧ isL (c x) = true := by
        rw [by_at hF he (by omega) hs, by_L (fun q => (hF x (by omega)).2)] at c1
        by_cases q : x < e ∧ isL (c x) = true
        · exact q
        · rw [if_neg q] at c1; exact absurd rfl c1
      exact absurd hc.1 (by omega)
  | succ n ih =>
    intro x h hn hs ha hF hx kq
    refine rr_aload_n 0 rfl rfl dX10_skipWord_0 ?_
    refine rr_aload_n 0 rfl rfl dX10_skipWord_1 ?_
    refine rr_getI dX10_skipWord_2 fX10_104 lo_49 sh_49 rfl ?_
    rw [show (h 49) 4 = (nI x) from ha]
    refine rr_callV (As := [.int (nI x)]) (rest := []) (kc2 := 0) (ks2 := 0) dX10_skipWord_5 okX10_byteAt lX10_107 lo_49 sh_49 rfl rfl (Nat.le_of_ble_eq_true rfl) (Nat.le_of_ble_eq_true rfl) rfl (by omega) (by simp [jj_rk]) (by simp [jj_rk]) ?_
    refine sp_X10_byteAt (by_in he hs (by omega)) ?_
    show jj_R _ _ kc ks (jj_S, 782, h, g) 8 [(0, .ref 49)] [.int (vX10_byteAt (h 49) (h 50) (nI x))] Q
    refine rr_callS (As := [.int (vX10_byteAt (h 49) (h 50) (nI x))]) (rest := []) (kc2 := 0) (ks2 := 0) dX10_skipWord_8 okX10_isSmall lX10_133 rfl (Nat.le_of_ble_eq_true rfl) (Nat.le_of_ble_eq_true rfl) rfl (by omega) (by simp [jj_rk]) (by simp [jj_rk]) ?_
    refine sp_X10_isSmall  ?_
    show jj_R _ _ kc ks (jj_S, 782, h, g) 11 [(0, .ref 49)] [.int (vX10_isSmall (vX10_byteAt (h 49) (h 50) (nI x)))] Q
    refine rr_if_eq dX10_skipWord_11 (fun c1 => ?_) (fun c1 => ?_)
    · skip
      refine rr_return dX10_skipWord_27 rfl ?_
      have hc : ¬ (x < e ∧ isL (c x) = true) := by
        intro q
        rw [by_at hF he (by omega) hs, by_L (fun q => (hF x (by omega)).2), if_pos q] at c1
        exact absurd c1 (by decide)
      rw [spn_no hc, up_id ha] at kq
      exact jj_Qh (jj_addr (B := h) (o := 49) (r := h 49) rfl) kq
    · skip
      refine rr_aload_n 0 rfl rfl dX10_skipWord_14 ?_
      refine rr_dup rfl dX10_skipWord_15 ?_
      refine rr_getI dX10_skipWord_16 fX10_104 lo_49 sh_49 rfl ?_
      rw [show (h 49) 4 = (nI x) from ha]
      refine rr_iconst 1 rfl dX10_skipWord_19 ?_
      refine rr_iadd dX10_skipWord_20 ?_
      refine rr_putI dX10_skipWord_21 fX10_104 ni10_4 lo_49 sh_49 rfl ?_
      rw [jj_rs_set0 (B := h) (o := 49) (r := (h 49)) rfl]
      refine rr_goto dX10_skipWord_24 ?_
      have hc : x < e ∧ isL (c x) = true := by
        rw [by_at hF he (by omega) hs, by_L (fun q => (hF x (by omega)).2)] at c1
        by_cases q : x < e ∧ isL (c x) = true
        · exact q
        · rw [if_neg q] at c1; exact absurd rfl c1
      rw [spn_yes hc.1 hc.2] at kq
      refine ih (x := x + 1) (by omega) hs (nI_1 x) hF (by omega) ?_
      refine jj_Qh (jj_rs_rs (B := h) (L := [(49, upd (h 49) 4 (nI x + 1))]) (M := [(49, upd (upd (h 49) 4 (nI x + 1)) 4 (nI (spn isL c e (x + 1))))]) (L2 := [(49, upd (upd (h 49) 4 (nI x + 1)) 4 (nI (spn isL c e (x + 1))))]) rfl) ?_
      rw [up_up]
      exact kq
theorem sp_skipWord {c : Nat → Nat} {e x d kc ks : Nat} {h : Nat → Nat → Int32} {g : Nat → Nat → Int64} {Q : jj_Rs → jj_St → Prop} (he : e ≤ 600) (hs : h 49 2 = nI e) (ha : h 49 4 = nI x) (hF : fedok (h 50) c) (hx : x ≤ 600) (kq : Q (.inl none) (jj_S, 782, jj_rs h [(49, upd (h 49) 4 (nI (spn isL c e x)))], g)) : jj_R mX10_skipWord (d + 1) kc ks (jj_S, 782, h, g) 0 [(0, .ref 49)] [] Q := sp_skipWordN he (e - x) (Nat.le_refl _) hs ha hF hx kq
def rX10_wrong_49 (r49 : Nat → Int32) (v : Int32) (p : Int32) : Nat → Int32 := (if (r49 5) = 0 then (upd (upd r49 (5) v) (6) p) else r49)
set_option maxHeartbeats 1000000 in
theorem sp_X10_wrong {d kc ks : Nat} {h : Nat → Nat → Int32} {g : Nat → Nat → Int64} {Q : jj_Rs → jj_St → Prop} {v : Int32} {p : Int32} (kq : Q (.inl none) (jj_S, 782, (jj_rs h [(49, (rX10_wrong_49 (h 49) v p))]), g)) : jj_R mX10_wrong (d + 0) kc ks (jj_S, 782, h, g) 0 [(0, .ref 49), (1, .int v), (2, .int p)] [] Q := by
  refine rr_aload_n 0 rfl rfl dX10_wrong_0 ?_
  refine rr_getI dX10_wrong_1 fX10_111 lo_49 sh_49 rfl ?_
  refine rr_if_ne dX10_wrong_4 (fun c1 => ?_) (fun c1 => ?_)
  · skip
    refine rr_return dX10_wrong_17 rfl ?_
    refine jj_Qh (jj_addr (B := h) (o := 49) (r := (h 49)) rfl) ?_
    simpa only [rX10_wrong_49, if_neg c1] using kq
  · skip
    refine rr_aload_n 0 rfl rfl dX10_wrong_7 ?_
    refine rr_iload_n 1 rfl rfl dX10_wrong_8 ?_
    refine rr_putI dX10_wrong_9 fX10_111 ni10_5 lo_49 sh_49 rfl ?_
    rw [jj_rs_set0 (B := h) (o := 49) (r := (h 49)) rfl]
    refine rr_aload_n 0 rfl rfl dX10_wrong_12 ?_
    refine rr_iload_n 2 rfl rfl dX10_wrong_13 ?_
    refine rr_putI dX10_wrong_14 fX10_114 ni10_6 lo_49 sh_49 rfl ?_
    rw [jj_rs_set (B := h) (L := [(49, (upd (h 49) (5) v))]) (L2 := [(49, (upd (upd (h 49) (5) v) (6) p))]) (r := (upd (h 49) (5) v)) rfl rfl]
    refine rr_return dX10_wrong_17 rfl ?_
    simpa only [rX10_wrong_49, if_pos c1] using kq
