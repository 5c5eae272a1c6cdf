/-! ===== dry of both ===== -/
abbrev dB (y k v w : Int32) : Prop := vX10_in y 0 12 = 0 ∨ vX10_in k 0 13 = 0 ∨ vX10_in v 0 16 = 0 ∨ vX10_in w 0 1 = 0
def dG (N K q : Nat) (w : Int32) : Nat := if w = 0 then exS q N (14 - K) K / Nat.gcd (16 ^ N) (exS q N (14 - K) K) else 16 ^ N / Nat.gcd (16 ^ N) (exS q N (14 - K) K)
def mdV (y k v w : Int32) : Int64 := if dB y k v w then 0 else lN (dG y.toNatClampNeg k.toNatClampNeg v.toNatClampNeg w)
def md49 (r49 : Nat → Int32) (y k v w : Int32) : Nat → Int32 := if dB y k v w then upd (upd r49 0 0) 0 1 else upd r49 0 0
def md51 (r51 : Nat → Int32) (y k v w : Int32) : Nat → Int32 := if dB y k v w then upd r51 1 (r51 1 + 1) else r51
theorem in_N {v : Int32} {B : Nat} (hB : B < 2 ^ 31) (h : ¬ vX10_in v 0 (nI B) = 0) : ∃ j, j ≤ B ∧ v = nI j := by
  unfold vX10_in at h
  by_cases c : v < 0
  · rw [if_pos c] at h; exact absurd rfl h
  · rw [if_neg c] at h
    obtain ⟨j, hj, rfl⟩ := nI_of c
    refine ⟨j, ?_, rfl⟩
    rcases Nat.lt_or_ge B j with z | z
    · rw [if_pos (nI_lt z hj)] at h; exact absurd rfl h
    · exact z
set_option maxHeartbeats 2000000 in
theorem sp_X10_dry {y k v w : Int32} {D kc ks : Nat} {h : hp_} {g : Nat → Nat → Int64} {Q : jj_Rs → jj_St → Prop} (hD : 2 ≤ D) (kq : ∀ g2, g2 781 = g 781 → Q (.inl (some (.long (mdV y k v w)))) (jj_S, 782, jj_rs h [(49, md49 (h 49) y k v w), (51, md51 (h 51) y k v w)], g2)) : jj_R mX10_dry D kc ks (jj_S, 782, h, g) 0 [(0, .ref 49), (1, .int y), (2, .int k), (3, .int v), (4, .int w)] [] Q := by
  obtain ⟨d, rfl⟩ : ∃ d, D = d + 2 := ⟨D - 2, by omega⟩
  by_cases b : dB y k v w
  · unfold mdV md49 md51 at kq
    rw [if_pos b, if_pos b, if_pos b] at kq
    refine rr_aload_n 0 rfl rfl dX10_dry_0 ?_
    refine rr_iconst 0 rfl dX10_dry_1 ?_
    refine rr_putI dX10_dry_2 fX10_95 ni10_0 lo_49 sh_49 rfl ?_
    rw [jj_rs_set0 (B := h) (o := 49) (r := (h 49)) rfl]
    refine rr_aload_n 0 rfl rfl dX10_dry_5 ?_
    refine rr_iload_n 1 rfl rfl dX10_dry_6 ?_
    refine rr_iconst 0 rfl dX10_dry_7 ?_
    refine rr_bipush 12 rfl dX10_dry_8 ?_
    refine rr_callS (As := [.int y, .int 0, .int 12]) (rest := [.ref 49]) (kc2 := 0) (ks2 := 0) dX10_dry_10 okX10_in lX10_129 rfl (Nat.le_of_ble_eq_true rfl) (Nat.le_of_ble_eq_true rfl) rfl (by omega) (by simp [jj_rk]) (by simp [jj_rk]) ?_
    refine sp_X10_in  ?_
    show jj_R _ _ kc ks (jj_S, 782, (jj_rs h [(49, (upd (h 49) (0) 0))]), g) 13 [(0, .ref 49), (1, .int y), (2, .int k), (3, .int v), (4, .int w)] [.int (vX10_in y 0 12), .ref 49] Q
    refine rr_if_eq dX10_dry_13 (fun c1 => ?_) (fun c1 => ?_)
    · skip
      refine rr_iconst 1 rfl dX10_dry_46 ?_
      refine rr_goto dX10_dry_47 ?_
      refine rr_iconst 1 rfl dX10_dry_51 ?_
      refine rr_iconst 1 rfl dX10_dry_52 ?_
      refine rr_callV (As := [.int 1, .int 1, .int 1]) (rest := []) (kc2 := 0) (ks2 := 0) dX10_dry_53 okX10_bad lX10_171 lo_49 sh_49 rfl rfl (Nat.le_of_ble_eq_true rfl) (Nat.le_of_ble_eq_true rfl) rfl (by omega) (by simp [jj_rk]) (by simp [jj_rk]) ?_
      refine sp_X10_bad1_11 (jj_ueq rfl) ?_
      show jj_R _ _ kc ks (jj_S, 782, jj_rs (jj_rs h [(49, upd (h 49) 0 0)]) [(49, upd (upd (h 49) 0 0) 0 1), (51, upd (h 51) 1 (h 51 1 + 1))], g) 56 [(0, .ref 49), (1, .int y), (2, .int k), (3, .int v), (4, .int w)] [.int 1] Q
      refine rr_if_eq dX10_dry_56 (fun c => absurd c (by decide)) (fun _ => ?_)
      refine rr_lconst 0 rfl dX10_dry_59 ?_
      refine rr_lreturn dX10_dry_60 rfl ?_
      refine jj_Qh (jj_rs_rs (B := h) (L := [(49, upd (h 49) 0 0)]) (M := [(49, upd (upd (h 49) 0 0) 0 1), (51, upd (h 51) 1 (h 51 1 + 1))]) (L2 := [(49, upd (upd (h 49) 0 0) 0 1), (51, upd (h 51) 1 (h 51 1 + 1))]) rfl) ?_
      exact kq g rfl
    · skip
      refine rr_iload_n 2 rfl rfl dX10_dry_16 ?_
      refine rr_iconst 0 rfl dX10_dry_17 ?_
      refine rr_bipush 13 rfl dX10_dry_18 ?_
      refine rr_callS (As := [.int k, .int 0, .int 13]) (rest := [.ref 49]) (kc2 := 0) (ks2 := 0) dX10_dry_20 okX10_in lX10_129 rfl (Nat.le_of_ble_eq_true rfl) (Nat.le_of_ble_eq_true rfl) rfl (by omega) (by simp [jj_rk]) (by simp [jj_rk]) ?_
      refine sp_X10_in  ?_
      show jj_R _ _ kc ks (jj_S, 782, (jj_rs h [(49, (upd (h 49) (0) 0))]), g) 23 [(0, .ref 49), (1, .int y), (2, .int k), (3, .int v), (4, .int w)] [.int (vX10_in k 0 13), .ref 49] Q
      refine rr_if_eq dX10_dry_23 (fun c2 => ?_) (fun c2 => ?_)
      · skip
        refine rr_iconst 1 rfl dX10_dry_46 ?_
        refine rr_goto dX10_dry_47 ?_
        refine rr_iconst 1 rfl dX10_dry_51 ?_
        refine rr_iconst 1 rfl dX10_dry_52 ?_
        refine rr_callV (As := [.int 1, .int 1, .int 1]) (rest := []) (kc2 := 0) (ks2 := 0) dX10_dry_53 okX10_bad lX10_171 lo_49 sh_49 rfl rfl (Nat.le_of_ble_eq_true rfl) (Nat.le_of_ble_eq_true rfl) rfl (by omega) (by simp [jj_rk]) (by simp [jj_rk]) ?_
        refine sp_X10_bad1_11 (jj_ueq rfl) ?_
        show jj_R _ _ kc ks (jj_S, 782, jj_rs (jj_rs h [(49, upd (h 49) 0 0)]) [(49, upd (upd (h 49) 0 0) 0 1), (51, upd (h 51) 1 (h 51 1 + 1))], g) 56 [(0, .ref 49), (1, .int y), (2, .int k), (3, .int v), (4, .int w)] [.int 1] Q
        refine rr_if_eq dX10_dry_56 (fun c => absurd c (by decide)) (fun _ => ?_)
        refine rr_lconst 0 rfl dX10_dry_59 ?_
        refine rr_lreturn dX10_dry_60 rfl ?_
        refine jj_Qh (jj_rs_rs (B := h) (L := [(49, upd (h 49) 0 0)]) (M := [(49, upd (upd (h 49) 0 0) 0 1), (51, upd (h 51) 1 (h 51 1 + 1))]) (L2 := [(49, upd (upd (h 49) 0 0) 0 1), (51, upd (h 51) 1 (h 51 1 + 1))]) rfl) ?_
        exact kq g rfl
      · skip
        refine rr_iload_n 3 rfl rfl dX10_dry_26 ?_
        refine rr_iconst 0 rfl dX10_dry_27 ?_
        refine rr_bipush 16 rfl dX10_dry_28 ?_
        refine rr_callS (As := [.int v, .int 0, .int 16]) (rest := [.ref 49]) (kc2 := 0) (ks2 := 0) dX10_dry_30 okX10_in lX10_129 rfl (Nat.le_of_ble_eq_true rfl) (Nat.le_of_ble_eq_true rfl) rfl (by omega) (by simp [jj_rk]) (by simp [jj_rk]) ?_
        refine sp_X10_in  ?_
        show jj_R _ _ kc ks (jj_S, 782, (jj_rs h [(49, (upd (h 49) (0) 0))]), g) 33 [(0, .ref 49), (1, .int y), (2, .int k), (3, .int v), (4, .int w)] [.int (vX10_in v 0 16), .ref 49] Q
        refine rr_if_eq dX10_dry_33 (fun c3 => ?_) (fun c3 => ?_)
        · skip
          refine rr_iconst 1 rfl dX10_dry_46 ?_
          refine rr_goto dX10_dry_47 ?_
          refine rr_iconst 1 rfl dX10_dry_51 ?_
          refine rr_iconst 1 rfl dX10_dry_52 ?_
          refine rr_callV (As := [.int 1, .int 1, .int 1]) (rest := []) (kc2 := 0) (ks2 := 0) dX10_dry_53 okX10_bad lX10_171 lo_49 sh_49 rfl rfl (Nat.le_of_ble_eq_true rfl) (Nat.le_of_ble_eq_true rfl) rfl (by omega) (by simp [jj_rk]) (by simp [jj_rk]) ?_
          refine sp_X10_bad1_11 (jj_ueq rfl) ?_
          show jj_R _ _ kc ks (jj_S, 782, jj_rs (jj_rs h [(49, upd (h 49) 0 0)]) [(49, upd (upd (h 49) 0 0) 0 1), (51, upd (h 51) 1 (h 51 1 + 1))], g) 56 [(0, .ref 49), (1, .int y), (2, .int k), (3, .int v), (4, .int w)] [.int 1] Q
          refine rr_if_eq dX10_dry_56 (fun c => absurd c (by decide)) (fun _ => ?_)
          refine rr_lconst 0 rfl dX10_dry_59 ?_
          refine rr_lreturn dX10_dry_60 rfl ?_
          refine jj_Qh (jj_rs_rs (B := h) (L := [(49, upd (h 49) 0 0)]) (M := [(49, upd (upd (h 49) 0 0) 0 1), (51, upd (h 51) 1 (h 51 1 + 1))]) (L2 := [(49, upd (upd (h 49) 0 0) 0 1), (51, upd (h 51) 1 (h 51 1 + 1))]) rfl) ?_
          exact kq g rfl
        · skip
          refine rr_iload 4 rfl dX10_dry_36 ?_
          refine rr_iconst 0 rfl dX10_dry_38 ?_
          refine rr_iconst 1 rfl dX10_dry_39 ?_
          refine rr_callS (As := [.int w, .int 0, .int 1]) (rest := [.ref 49]) (kc2 := 0) (ks2 := 0) dX10_dry_40 okX10_in lX10_129 rfl (Nat.le_of_ble_eq_true rfl) (Nat.le_of_ble_eq_true rfl) rfl (by omega) (by simp [jj_rk]) (by simp [jj_rk]) ?_
          refine sp_X10_in  ?_
          show jj_R _ _ kc ks (jj_S, 782, (jj_rs h [(49, (upd (h 49) (0) 0))]), g) 43 [(0, .ref 49), (1, .int y), (2, .int k), (3, .int v), (4, .int w)] [.int (vX10_in w 0 1), .ref 49] Q
          refine rr_if_ne dX10_dry_43 (fun c4 => ?_) (fun c4 => ?_)
          · skip
            refine rr_iconst 0 rfl dX10_dry_50 ?_
            refine rr_iconst 1 rfl dX10_dry_51 ?_
            refine rr_iconst 1 rfl dX10_dry_52 ?_
            refine rr_callV (As := [.int 0, .int 1, .int 1]) (rest := []) (kc2 := 0) (ks2 := 0) dX10_dry_53 okX10_bad lX10_171 lo_49 sh_49 rfl rfl (Nat.le_of_ble_eq_true rfl) (Nat.le_of_ble_eq_true rfl) rfl (by omega) (by simp [jj_rk]) (by simp [jj_rk]) ?_
            exfalso
            rcases b with z | z | z | z
            · exact c1 z
            · exact c2 z
            · exact c3 z
            · exact c4 z
          · skip
            refine rr_iconst 1 rfl dX10_dry_46 ?_
            refine rr_goto dX10_dry_47 ?_
            refine rr_iconst 1 rfl dX10_dry_51 ?_
            refine rr_iconst 1 rfl dX10_dry_52 ?_
            refine rr_callV (As := [.int 1, .int 1, .int 1]) (rest := []) (kc2 := 0) (ks2 := 0) dX10_dry_53 okX10_bad lX10_171 lo_49 sh_49 rfl rfl (Nat.le_of_ble_eq_true rfl) (Nat.le_of_ble_eq_true rfl) rfl (by omega) (by simp [jj_rk]) (by simp [jj_rk]) ?_
            refine sp_X10_bad1_11 (jj_ueq rfl) ?_
            show jj_R _ _ kc ks (jj_S, 782, jj_rs (jj_rs h [(49, upd (h 49) 0 0)]) [(49, upd (upd (h 49) 0 0) 0 1), (51, upd (h 51) 1 (h 51 1 + 1))], g) 56 [(0, .ref 49), (1, .int y), (2, .int k), (3, .int v), (4, .int w)] [.int 1] Q
            refine rr_if_eq dX10_dry_56 (fun c => absurd c (by decide)) (fun _ => ?_)
            refine rr_lconst 0 rfl dX10_dry_59 ?_
            refine rr_lreturn dX10_dry_60 rfl ?_
            refine jj_Qh (jj_rs_rs (B := h) (L := [(49, upd (h 49) 0 0)]) (M := [(49, upd (upd (h 49) 0 0) 0 1), (51, upd (h 51) 1 (h 51 1 + 1))]) (L2 := [(49, upd (upd (h 49) 0 0) 0 1), (51, upd (h 51) 1 (h 51 1 + 1))]) rfl) ?_
            exact kq g rfl
  · unfold mdV md49 md51 at kq
    rw [if_neg b, if_neg b, if_neg b] at kq
    obtain ⟨N, hN, rfl⟩ := in_N (B := 12) (by decide) (fun z => b (Or.inl z))
    obtain ⟨K, hK, rfl⟩ := in_N (B := 13) (by decide) (fun z => b (Or.inr (Or.inl z)))
    obtain ⟨q, hq, rfl⟩ := in_N (B := 16) (by decide) (fun z => b (Or.inr (Or.inr (Or.inl z))))
    unfold dG at kq
    refine rr_aload_n 0 rfl rfl dX10_dry_0 ?_
    refine rr_iconst 0 rfl dX10_dry_1 ?_
    refine rr_putI dX10_dry_2 fX10_95 ni10_0 lo_49 sh_49 rfl ?_
    rw [jj_rs_set0 (B := h) (o := 49) (r := (h 49)) rfl]
    refine dr_0 (by omega) hN hK hq (fun z => b (Or.inr (Or.inr (Or.inr z)))) (jj_ueq rfl) (fun g2 hG2 => ?_)
    rw [nI_clamp (by omega), nI_clamp (by omega), nI_clamp (by omega)] at kq
    rw [jj_rs_add (B := h) (L := [(49, upd (h 49) 0 0)]) (L2 := [(49, upd (h 49) 0 0), (51, h 51)]) (o := 51) (r := h 51) rfl rfl]
    exact kq g2 hG2
/-! Pascal's numbers -/
def ch : Nat → Nat → Nat
  | 0, i => if i = 0 then 1 else 0
  | e + 1, i => if i = 0 then 1 else ch e (i - 1) + ch e i
theorem ch_0 : ∀ e i, e < i → ch e i = 0
  | 0, i, h => by
    show (if i = 0 then 1 else 0) = 0
    rw [if_neg (by omega)]
  | e + 1, i, h => by
    show (if i = 0 then 1 else ch e (i - 1) + ch e i) = 0
    rw [if_neg (by omega), ch_0 e (i - 1) (by omega), ch_0 e i (by omega)]
theorem ex_ch {q : Nat} : ∀ e i, exN q e i = ch e i * (16 - q) ^ i * q ^ (e - i)
  | 0, i => by
    show (if i = 0 then 1 else 0) = (if i = 0 then 1 else 0) * (16 - q) ^ i * q ^ (0 - i)
    by_cases c : i = 0
    · rw [if_pos c, c]; simp
    · rw [if_neg c]; simp
  | e + 1, i => by
    show exN q e i * q + (if i = 0 then 0 else exN q e (i - 1) * (16 - q)) = (if i = 0 then 1 else ch e (i - 1) + ch e i) * (16 - q) ^ i * q ^ (e + 1 - i)
    rw [ex_ch e i, ex_ch e (i - 1)]
    by_cases c : i = 0
    · subst c
      rw [if_pos rfl, if_pos rfl]
      have : ch e 0 = 1 := by cases e <;> rfl
      rw [this, Nat.sub_zero, Nat.sub_zero, Nat.pow_succ]; simp
    · obtain ⟨j, rfl⟩ : ∃ j, i = j + 1 := ⟨i - 1, by omega⟩
      rw [if_neg c, if_neg c, show j + 1 - 1 = j by omega, show e + 1 - (j + 1) = e - j by omega]
      have h1 : ch e j * (16 - q) ^ j * q ^ (e - j) * (16 - q) = ch e j * (16 - q) ^ (j + 1) * q ^ (e - j) := by
        rw [Nat.pow_succ, Nat.mul_assoc, Nat.mul_comm (q ^ (e - j)) (16 - q), ← Nat.mul_assoc, ← Nat.mul_assoc (ch e j)]
      have h2 : ch e (j + 1) * (16 - q) ^ (j + 1) * q ^ (e - (j + 1)) * q = ch e (j + 1) * (16 - q) ^ (j + 1) * q ^ (e - j) := by
        by_cases l : j + 1 ≤ e
        · rw [Nat.mul_assoc, ← Nat.pow_succ, show (e - (j + 1)).succ = e - j by omega]
        · rw [ch_0 e (j + 1) (by omega)]; simp
      rw [h1, h2, ← Nat.add_mul, ← Nat.add_mul, Nat.add_comm]
def chN (N i : Nat) : Nat := jj_fo (fun i c => c * (N - i) / (i + 1)) i 1
theorem chN_is : ∀ N, N ≤ 12 → ∀ i, i ≤ N → chN N i = ch N i := by
  have key : ∀ N, N < 13 → ∀ i, i < 13 → i ≤ N → chN N i = ch N i := by decide +kernel
  exact fun N hN i hi => key N (by omega) i (by omega) hi
theorem chN_le : ∀ N, N ≤ 12 → ∀ i, i ≤ 13 → chN N i ≤ 924 := by
  have key : ∀ N, N < 13 → ∀ i, i < 14 → chN N i ≤ 924 := by decide +kernel
  exact fun N hN i hi => key N (by omega) i (by omega)
def sS (q N K i : Nat) : Nat := jj_fo (fun j s => if j < K then s else s + exN q N j) i 0
theorem sS_lo {q N K : Nat} : ∀ i, i ≤ K → sS q N K i = 0
  | 0, _ => rfl
  | i + 1, h => by
    show (if i < K then sS q N K i else sS q N K i + exN q N i) = 0
    rw [if_pos (by omega), sS_lo i (by omega)]
theorem sS_up {q N K : Nat} : ∀ f i, K ≤ i → sS q N K i + exS q N f i = sS q N K (i + f)
  | 0, i, _ => rfl
  | f + 1, i, h => by
    have ih := sS_up (q := q) (N := N) (K := K) f (i + 1) (by omega)
    have e : sS q N K (i + 1) = sS q N K i + exN q N i := by
      show (if i < K then sS q N K i else sS q N K i + exN q N i) = _
      rw [if_neg (by omega)]
    show sS q N K i + (exN q N i + exS q N f (i + 1)) = _
    rw [show i + (f + 1) = i + 1 + f by omega, ← ih, e]; omega
theorem sS_hi {q N K : Nat} : ∀ k, sS q N K (N + 1 + k) = sS q N K (N + 1)
  | 0 => rfl
  | k + 1 => by
    show (if N + 1 + k < K then sS q N K (N + 1 + k) else sS q N K (N + 1 + k) + exN q N (N + 1 + k)) = _
    rw [ex_ch N (N + 1 + k), ch_0 N (N + 1 + k) (by omega), sS_hi k]
    simp
theorem sS_is {q N K : Nat} (hN : N ≤ 12) (hK : K ≤ 13) : sS q N K (N + 1) = exS q N (14 - K) K := by
  have h1 := sS_up (q := q) (N := N) (K := K) (14 - K) K (Nat.le_refl _)
  rw [sS_lo K (Nat.le_refl _), Nat.zero_add, show K + (14 - K) = 14 by omega] at h1
  rw [h1]
  have h2 := sS_hi (q := q) (N := N) (K := K) (13 - N)
  rw [show N + 1 + (13 - N) = 14 by omega] at h2
  exact h2.symm
theorem pw_is {b : Int32} {x : Nat} (h : b.toInt64 = lN x) (k : Nat) : vX9_power b k = lN (x ^ k) := fo_inv (P := fun j (a : Int64) => a = lN (x ^ j)) k 1 rfl (fun j a _ e => by
  rw [e, h, lN_mul, ← Nat.pow_succ])
theorem dr_sum {q N K : Nat} (hN : N ≤ 12) (hq : q ≤ 16) (hK : K ≤ 13) : (jj_fo (fX9_dry_1 (nI K) (nI q) N) (N + 1) (0, 1)).1 = lN (sS q N K (N + 1)) := by
  have l16 : ((16 : Int32) - nI q).toInt64 = lN (16 - q) := by rw [show ((16 : Int32) - nI q) = nI (16 - q) from pk_sub (a := 16) hq, nI_l (by omega)]
  have lq : (nI q).toInt64 = lN q := nI_l (by omega)
  have key := fo_inv (P := fun i (a : Int64 × Int64) => i ≤ N + 1 → a.1 = lN (sS q N K i) ∧ a.2 = lN (chN N i)) (f := fX9_dry_1 (nI K) (nI q) N) (N + 1) (0, 1) (fun _ => ⟨rfl, rfl⟩) (fun i a hi ih _ => by
    obtain ⟨i1, i2⟩ := ih (by omega)
    have cl := chN_le N hN i (by omega)
    have e2 : a.2 * (nI (N - i)).toInt64 / (nI (i + 1)).toInt64 = lN (chN N (i + 1)) := by
      rw [i2, nI_l (by omega), nI_l (by omega), lN_mul]
      have : chN N i * (N - i) ≤ 924 * 12 := Nat.mul_le_mul cl (by omega)
      rw [pk_lDiv (by omega) (by omega) (by omega)]
      rfl
    have e3 : sS q N K (i + 1) = if i < K then sS q N K i else sS q N K i + exN q N i := rfl
    unfold fX9_dry_1
    by_cases c : i < K
    · rw [if_pos (nI_lt c (by omega))]
      exact ⟨by rw [e3, if_pos c]; exact i1, e2⟩
    · rw [if_neg (nI_nlt (by omega) (by omega))]
      refine ⟨?_, e2⟩
      show a.1 + a.2 * vX9_power (16 - nI q) i * vX9_power (nI q) (N - i) = _
      rw [i1, i2, pw_is l16, pw_is lq, lN_mul, lN_mul, lN_add, e3, if_neg c, chN_is N hN i (by omega), ex_ch])
  exact (key (Nat.le_refl _)).1
/-! halving leads to least terms -/
theorem fx_front {α β : Type} (F : α → Sum α β) : ∀ k a, jj_fx (fun _ x => F x) (k + 1) a = Sum.elim (fun b => jj_fx (fun _ x => F x) k b) (fun r => .inr r) (F a)
  | 0, a => by
    show Sum.elim (fun b => F b) (fun r => .inr r) (.inl a) = _
    show F a = _
    cases F a <;> rfl
  | k + 1, a => by
    show Sum.elim (fun b => F b) (fun r => .inr r) (jj_fx (fun _ x => F x) (k + 1) a) = _
    rw [fx_front F k a]
    cases F a <;> rfl
def hvF (x : Nat × Nat) : Sum (Nat × Nat) (Nat × Nat) := if x.1 % 2 = 0 ∧ x.2 % 2 = 0 then .inl (x.1 / 2, x.2 / 2) else .inr x
def uN (s : Sum (Nat × Nat) (Nat × Nat)) : Nat × Nat := Sum.elim (fun x => x) (fun x => x) s
theorem hv_is : ∀ M a, uN (jj_fx (fun _ x => hvF x) M (a, 2 ^ M)) = (a / Nat.gcd (2 ^ M) a, 2 ^ M / Nat.gcd (2 ^ M) a)
  | 0, a => by
    show (a, 2 ^ 0) = _
    rw [Nat.pow_zero, Nat.gcd_one_left, Nat.div_one, Nat.div_one]
  | M + 1, a => by
    rw [fx_front]
    unfold hvF
    have e2 : 2 ^ (M + 1) % 2 = 0 := by rw [Nat.pow_succ, Nat.mul_mod_left]
    have e3 : 2 ^ (M + 1) / 2 = 2 ^ M := by rw [Nat.pow_succ, Nat.mul_div_cancel _ (by decide)]
    by_cases c : a % 2 = 0
    · rw [if_pos ⟨c, e2⟩, e3]
      show uN (jj_fx (fun _ x => hvF x) M (a / 2, 2 ^ M)) = _
      rw [hv_is M (a / 2)]
      obtain ⟨b, rfl⟩ : ∃ b, a = 2 * b := ⟨a / 2, by omega⟩
      rw [Nat.mul_div_cancel_left b (by decide), Nat.pow_succ, Nat.mul_comm (2 ^ M) 2, Nat.gcd_mul_left, Nat.mul_div_mul_left _ _ (by decide), Nat.mul_div_mul_left _ _ (by decide)]
    · rw [if_neg (fun z => c z.1)]
      have g1 : Nat.gcd (2 ^ (M + 1)) a = 1 := by
        have cp : Nat.Coprime 2 a := by
          show Nat.gcd 2 a = 1
          rw [Nat.gcd_rec, show a % 2 = 1 by omega, Nat.gcd_one_left]
        exact Nat.Coprime.pow_left (M + 1) cp
      rw [g1, Nat.div_one, Nat.div_one]
      rfl
theorem dh_1 {n : Nat} (hn : n < 2 ^ 62) : lN n &&& 1 = lN (n % 2) := by
  apply Int64.toBitVec_inj.mp
  show BitVec.ofNat 64 n &&& BitVec.ofNat 64 1 = BitVec.ofNat 64 (n % 2)
  apply BitVec.eq_of_toNat_eq
  rw [BitVec.toNat_and, BitVec.toNat_ofNat, BitVec.toNat_ofNat, BitVec.toNat_ofNat, Nat.mod_eq_of_lt (by omega : n < 2 ^ 64), Nat.mod_eq_of_lt (by decide : 1 < 2 ^ 64), Nat.mod_eq_of_lt (by omega : n % 2 < 2 ^ 64)]
  exact Nat.and_two_pow_sub_one_eq_mod n 1
theorem dh_s {n : Nat} (hn : n < 2 ^ 62) : lN n >>> ((1 : Int32).toInt64 &&& 63) = lN (n / 2) := by
  have l : ∀ z, z < 2 ^ 63 → (lN z).toInt = (z : Int) := fun z hz => lg_ofNat_toInt hz
  apply Int64.toInt_inj.mp
  have e : (lN n >>> ((1 : Int32).toInt64 &&& 63)).toInt = (lN n).toInt >>> 1 := BitVec.toInt_sshiftRight ..
  rw [e, Int.shiftRight_eq_div_pow, l n (by omega), l (n / 2) (by omega)]
  rfl
theorem p24 (N : Nat) : 16 ^ N = 2 ^ (4 * N) := by rw [Nat.pow_mul]
theorem hv_l {N a : Nat} (hN : N ≤ 12) (ha : a < 2 ^ 62) : sr (fun (x : Int64 × Int64) (y : Nat × Nat) => x.1 = lN y.1 ∧ x.2 = lN y.2 ∧ y.1 < 2 ^ 62 ∧ y.2 < 2 ^ 62) (fun (x : Int64 × Int64) (y : Nat × Nat) => x.1 = lN y.1 ∧ x.2 = lN y.2 ∧ y.1 < 2 ^ 62 ∧ y.2 < 2 ^ 62) (jj_fx fX9_dry_2 (4 * N) (lN a, lN (16 ^ N))) (jj_fx (fun _ x => hvF x) (4 * N) (a, 2 ^ (4 * N))) := by
  have p16 : 16 ^ N ≤ 16 ^ 12 := Nat.pow_le_pow_right (by decide) hN
  have p12 : (16 : Nat) ^ 12 < 2 ^ 62 := by decide
  refine fx_rel (R := fun _ (x : Int64 × Int64) (y : Nat × Nat) => x.1 = lN y.1 ∧ x.2 = lN y.2 ∧ y.1 < 2 ^ 62 ∧ y.2 < 2 ^ 62) (4 * N) _ _ ⟨rfl, by rw [p24], ha, by rw [← p24]; omega⟩ (fun k x y _ h => ?_)
  obtain ⟨h1, h2, h3, h4⟩ := h
  unfold fX9_dry_2 hvF
  rw [h1, h2, dh_1 h3, dh_1 h4, dh_s h3, dh_s h4]
  have c0 : ∀ z, (lg_cmp (lN (z % 2)) 0 = 0) ↔ z % 2 = 0 := fun z => by
    rw [lg_cmp_eq]
    exact pk_lEQ (a := z % 2) (b := 0) (by omega) (by decide)
  by_cases c1 : y.1 % 2 = 0
  · rw [if_pos ((c0 _).mpr c1)]
    by_cases c2 : y.2 % 2 = 0
    · rw [if_pos ((c0 _).mpr c2), if_pos ⟨c1, c2⟩]
      exact ⟨rfl, rfl, by show y.1 / 2 < _; omega, by show y.2 / 2 < _; omega⟩
    · rw [if_neg (fun z => c2 ((c0 _).mp z)), if_neg (fun z => c2 z.2)]
      exact ⟨rfl, rfl, h3, h4⟩
  · rw [if_neg (fun z => c1 ((c0 _).mp z)), if_neg (fun z => c1 z.1)]
    exact ⟨rfl, rfl, h3, h4⟩
theorem in_iff {v a b : Int32} : vX10_in v a b = 0 ↔ v < a ∨ b < v := by
  unfold vX10_in
  by_cases c : v < a
  · rw [if_pos c]; exact ⟨fun _ => Or.inl c, fun _ => rfl⟩
  · rw [if_neg c]
    by_cases d : b < v
    · rw [if_pos d]; exact ⟨fun _ => Or.inr d, fun _ => rfl⟩
    · rw [if_neg d]; exact ⟨fun z => absurd z (by decide), fun z => z.elim (fun q => absurd q c) (fun q => absurd q d)⟩
theorem q_dry (r0 r49 r51 : Nat → Int32) (y k v w : Int32) : res 1 (vX9_dry r0 y k v w) r0 (rX9_dry_0 r0 y k v w) (md49 r49 y k v w 0) (.long (mdV y k v w)) r51 (md51 r51 y k v w) := by
  unfold vX9_dry rX9_dry_0 mdV md49 md51
  simp only [e_bit, ← in_if, or_if, sum_c]
  have bi : dB y k v w ↔ (y < 0 ∨ 12 < y ∨ k < 0 ∨ 13 < k ∨ v < 0 ∨ 16 < v ∨ vX10_in w 0 1 = 0) := by
    unfold dB
    rw [in_iff (v := y), in_iff (v := k), in_iff (v := v), or_assoc, or_assoc, or_assoc]
  by_cases b : dB y k v w
  · rw [if_pos b, if_pos b, if_pos b, if_pos (bi.mp b), if_pos (bi.mp b)]
    exact Or.inr (Or.inr ⟨rfl, rfl, rfl, rfl⟩)
  · rw [if_neg b, if_neg b, if_neg b, if_neg (fun z => b (bi.mpr z)), if_neg (fun z => b (bi.mpr z))]
    obtain ⟨N, hN, rfl⟩ := in_N (B := 12) (by decide) (fun z => b (Or.inl z))
    obtain ⟨K, hK, rfl⟩ := in_N (B := 13) (by decide) (fun z => b (Or.inr (Or.inl z)))
    obtain ⟨q, hq, rfl⟩ := in_N (B := 16) (by decide) (fun z => b (Or.inr (Or.inr (Or.inl z))))
    rw [nI_clamp (by omega), nI_clamp (by omega), nI_clamp (by omega), dr_sum hN hq hK, sS_is hN hK, pw_is (x := 16) (by decide)]
    refine Or.inl ⟨?_, rfl, rfl, rfl⟩
    have p16 : 16 ^ N ≤ 16 ^ 12 := Nat.pow_le_pow_right (by decide) hN
    have ls : exS q N (14 - K) K ≤ 14 * 16 ^ 12 := Nat.le_trans (exS_le hq _ _) (Nat.mul_le_mul (by omega) p16)
    have p12 : (14 : Nat) * 16 ^ 12 < 2 ^ 62 := by decide
    have R := hv_l (a := exS q N (14 - K) K) hN (by omega)
    have H := hv_is (4 * N) (exS q N (14 - K) K)
    rw [← p24] at H
    rw [← p24] at R
    unfold dG
    revert R H
    cases jj_fx fX9_dry_2 (4 * N) (lN (exS q N (14 - K) K), lN (16 ^ N)) with
    | inl x =>
      cases jj_fx (fun _ x => hvF x) (4 * N) (exS q N (14 - K) K, 16 ^ N) with
      | inr z => exact fun R => R.elim
      | inl z =>
        intro R H
        have H : z = _ := H
        show (if w = 0 then (.inl (some (.long x.1)) : jj_Rs) else .inl (some (.long x.2))) = _
        rw [R.1, R.2.1, H]
        by_cases c : w = 0
        · rw [if_pos c, if_pos c]
        · rw [if_neg c, if_neg c]
    | inr x =>
      cases jj_fx (fun _ x => hvF x) (4 * N) (exS q N (14 - K) K, 16 ^ N) with
      | inl z => exact fun R => R.elim
      | inr z =>
        intro R H
        have H : z = _ := H
        show (if w = 0 then (.inl (some (.long x.1)) : jj_Rs) else .inl (some (.long x.2))) = _
        rw [R.1, R.2.1, H]
        by_cases c : w = 0
        · rw [if_pos c, if_pos c]
        · rw [if_neg c, if_neg c]
