/-! ===== the class's street ===== -/
def sX_ (x : Nat) : Bool := decide (x < 8) || (x == 13 || (pX x || (x == 25 || (x == 34 || (decide (38 ≤ x) && decide (x < 43))))))
def strF (h h9 : hp_) (S : sT_) : Prop := h9 13 1 = 0 ∧ h9 13 8 = -1 ∧ h9 1 0 = nI S.1.length ∧ S.1.length ≤ 8 ∧ h9 1 1 = nI S.2.1 ∧ (∀ i, i < S.1.length → h9 6 i = S.2.2 i) ∧ (∀ i z, S.1[i]? = some z → h9 2 i = nI z.1 ∧ h9 3 i = nI z.2.1 ∧ h9 4 i = nI z.2.2.1 ∧ h9 5 i = nI z.2.2.2) ∧ (∀ i, S.1.length ≤ i → S.2.2 i = 0) ∧ h9 7 1 = 0 ∧ h9 25 2 = 0 ∧ (h9 38 0 = 0 ∧ h9 38 1 = 0 ∧ h9 38 2 = 0) ∧ (∀ p, p < 8 → h9 39 p = 0 ∧ h9 40 p = 0 ∧ h9 41 p = 0 ∧ h9 42 p = -1) ∧ (h9 34 0 = 0 ∧ h9 34 1 = 0) ∧ (h9 0 12 = 0 ∧ h9 0 13 = h 0 13 ∧ h9 0 14 = h 0 14) ∧ ∀ x, sX_ x = false → h9 x = h x
theorem cpy_8 {f r : Nat → Int32} {i : Nat} (hi : i < 8) : va_cpy f r (0 : Int32).toNatClampNeg (0 : Int32).toNatClampNeg (8 : Int32).toNatClampNeg i = f i := by
  show va_cpy f r 0 0 8 i = f i
  unfold va_cpy
  rw [if_pos (by omega), show 0 + (i - 0) = i by omega]
theorem lt_8 {p : Nat} (h : p < 8) : p = 0 ∨ p = 1 ∨ p = 2 ∨ p = 3 ∨ p = 4 ∨ p = 5 ∨ p = 6 ∨ p = 7 := by omega
theorem sX_0 {h0 h : hp_} (hh : ∀ x, pX x = false → ¬ x = 13 → h x = h0 x) {x : Nat} (hx : sX_ x = false) : h x = h0 x := by
  unfold sX_ at hx
  simp only [Bool.or_eq_false_iff] at hx
  exact hh x hx.2.2.1 (fun q => by rw [q] at hx; exact absurd hx.2.1 (by decide))
set_option maxHeartbeats 4000000 in
theorem cf_street {c : Nat → Nat} {N T D kc ks : Nat} {h : hp_} {g : Nat → Nat → Int64} {Q : jj_Rs → jj_St → Prop} (hB : bytesok (h 14) c) (hT : h 13 1 = nI T) (hT6 : T ≤ 600) (hNT : N ≤ T) (hD : 8 ≤ D) (k1 : ∀ S h9, pstreet c N = .ok S → strF h h9 S → Q (.inl (some (.int (nI S.1.length)))) (jj_S, 782, h9, g)) (k2 : ∀ k p h9, pstreet c N = .error (k, p) → strE h h9 k p → Q (.inl (some (.int (nI k - 10)))) (jj_S, 782, jj_rs h9 [(13, upd (h9 13) 1 0)], g)) : jj_R mX9_street D (kc + 1) (ks + 6) (jj_S, 782, h, g) 0 [(0, .ref 0), (1, .int (nI N))] [] Q := by
  obtain ⟨d, rfl⟩ : ∃ d, D = d + 8 := ⟨D - 8, by omega⟩
  refine rr_aload_n 0 rfl rfl dX9_street_0 ?_
  refine rr_iload_n 1 rfl rfl dX9_street_1 ?_
  refine rr_if_lt dX9_street_2 (fun c => absurd c (nI_pos (by omega))) (fun _ => ?_)
  refine rr_iload_n 1 rfl rfl dX9_street_5 ?_
  refine rr_aload_n 0 rfl rfl dX9_street_6 ?_
  refine rr_getR dX9_street_7 fX9_21 lo_0 sh_0 rfl ?_
  refine rr_getI dX9_street_10 fX9_99 lo_13 sh_13 rfl ?_
  rw [show (h 13) 1 = (nI T) from hT]
  refine rr_icmp_gt dX9_street_13 (fun c => absurd c (nI_nlt (by omega) (by omega))) (fun _ => ?_)
  refine rr_iconst 1 rfl dX9_street_16 ?_
  refine rr_goto dX9_street_17 ?_
  refine rr_callV (As := [.int 1]) (rest := []) (kc2 := 1) (ks2 := 6) dX9_street_21 okX9_require lX9_103 lo_0 sh_0 rfl rfl (Nat.le_of_ble_eq_true rfl) (Nat.le_of_ble_eq_true rfl) rfl (by omega) (by simp [jj_rk]) (by simp [jj_rk]) ?_
  refine sp_X9_require (fun _ => ?_) (fun c => absurd c (by decide))
  show jj_R _ _ kc ks (jj_S, 782, h, g) 24 [(0, .ref 0), (1, .int (nI N))] [] Q
  refine rr_aload_n 0 rfl rfl dX9_street_24 ?_
  refine rr_getR dX9_street_25 fX9_21 lo_0 sh_0 rfl ?_
  refine rr_iload_n 1 rfl rfl dX9_street_28 ?_
  refine rr_callV (As := [.int (nI N)]) (rest := []) (kc2 := 0) (ks2 := 0) dX9_street_29 okX5_open lX9_107 lo_13 sh_13 rfl rfl (Nat.le_of_ble_eq_true rfl) (Nat.le_of_ble_eq_true rfl) rfl (by omega) (by simp [jj_rk]) (by simp [jj_rk]) ?_
  refine cl_open hB (by omega) (by omega) (fun h m h8 h1 ho => ?_)
  show jj_R _ _ kc ks (jj_S, 782, h, g) 32 [(0, .ref 0), (1, .int (nI N))] [] Q
  refine rr_aload_n 0 rfl rfl dX9_street_32 ?_
  refine rr_getR dX9_street_33 fX9_31 lo_0 sh_0 rfl ?_
  refine rr_aload_n 0 rfl rfl dX9_street_36 ?_
  refine rr_getR dX9_street_37 fX9_21 lo_0 sh_0 rfl ?_
  refine rr_callV (As := [.ref 13]) (rest := []) (kc2 := 0) (ks2 := 0) dX9_street_40 okX7_readFrom lX9_110 lo_15 sh_15 rfl rfl (Nat.le_of_ble_eq_true rfl) (Nat.le_of_ble_eq_true rfl) rfl (by omega) (by simp [jj_rk]) (by simp [jj_rk]) ?_
  refine cl_street (by omega) (by omega) m h8 (fun S h e1 m => ?_) (fun k p h e1 m => ?_)
  · skip
    show jj_R _ _ kc ks (jj_S, 782, h, g) 43 [(0, .ref 0), (1, .int (nI N))] [] Q
    refine rr_aload_n 0 rfl rfl dX9_street_43 ?_
    refine rr_getR dX9_street_44 fX9_21 lo_0 sh_0 rfl ?_
    refine rr_callV (As := []) (rest := []) (kc2 := 0) (ks2 := 0) dX9_street_47 okX5_empty lX9_114 lo_13 sh_13 rfl rfl (Nat.le_of_ble_eq_true rfl) (Nat.le_of_ble_eq_true rfl) rfl (by omega) (by simp [jj_rk]) (by simp [jj_rk]) ?_
    refine sp_X5_empty  ?_
    show jj_R _ _ kc ks (jj_S, 782, (jj_rs h [(13, (upd (h 13) (1) 0))]), g) 50 [(0, .ref 0), (1, .int (nI N))] [] Q
    refine rr_aload_n 0 rfl rfl dX9_street_50 ?_
    refine rr_getR dX9_street_51 fX9_21 lo_0 sh_0 rfl ?_
    refine rr_getI dX9_street_54 fX9_117 lo_13 sh_13 rfl ?_
    rw [show (jj_rs h [(13, (upd (h 13) (1) 0))]) 13 = (upd (h 13) (1) 0) from rfl]
    rw [show (upd (h 13) (1) 0) 7 = 0 from m.1]
    refine rr_if_eq dX9_street_57 (fun _ => ?_) (fun c => absurd (by decide) c)
    refine rr_aload_n 0 rfl rfl dX9_street_71 ?_
    refine rr_getR dX9_street_72 fX9_27 lo_0 sh_0 rfl ?_
    refine rr_aload_n 0 rfl rfl dX9_street_75 ?_
    refine rr_getR dX9_street_76 fX9_31 lo_0 sh_0 rfl ?_
    refine rr_callV (As := [.ref 15]) (rest := []) (kc2 := 0) (ks2 := 0) dX9_street_79 okX7_copyFrom lX9_120 lo_1 sh_1 rfl rfl (Nat.le_of_ble_eq_true rfl) (Nat.le_of_ble_eq_true rfl) rfl (by omega) (by simp [jj_rk]) (by simp [jj_rk]) ?_
    refine sp_X7_copyFrom  ?_
    show jj_R _ _ kc ks (jj_S, 782, (jj_rs (jj_rs h [(13, (upd (h 13) (1) 0))]) [(1, (rX7_copyFrom_1 (h 1) (h 2) (h 3) (h 4) (h 5) (h 6) (h 15) (h 16) (h 17) (h 18) (h 19) (h 20))), (2, (rX7_copyFrom_2 (h 1) (h 2) (h 3) (h 4) (h 5) (h 6) (h 15) (h 16) (h 17) (h 18) (h 19) (h 20))), (3, (rX7_copyFrom_3 (h 1) (h 2) (h 3) (h 4) (h 5) (h 6) (h 15) (h 16) (h 17) (h 18) (h 19) (h 20))), (4, (rX7_copyFrom_4 (h 1) (h 2) (h 3) (h 4) (h 5) (h 6) (h 15) (h 16) (h 17) (h 18) (h 19) (h 20))), (5, (rX7_copyFrom_5 (h 1) (h 2) (h 3) (h 4) (h 5) (h 6) (h 15) (h 16) (h 17) (h 18) (h 19) (h 20))), (6, (rX7_copyFrom_6 (h 1) (h 2) (h 3) (h 4) (h 5) (h 6) (h 15) (h 16) (h 17) (h 18) (h 19) (h 20)))]), g) 82 [(0, .ref 0), (1, .int (nI N))] [] Q
    rw [jj_rs_rs (B := h) (L := [(13, (upd (h 13) (1) 0))]) (M := [(1, (rX7_copyFrom_1 (h 1) (h 2) (h 3) (h 4) (h 5) (h 6) (h 15) (h 16) (h 17) (h 18) (h 19) (h 20))), (2, (rX7_copyFrom_2 (h 1) (h 2) (h 3) (h 4) (h 5) (h 6) (h 15) (h 16) (h 17) (h 18) (h 19) (h 20))), (3, (rX7_copyFrom_3 (h 1) (h 2) (h 3) (h 4) (h 5) (h 6) (h 15) (h 16) (h 17) (h 18) (h 19) (h 20))), (4, (rX7_copyFrom_4 (h 1) (h 2) (h 3) (h 4) (h 5) (h 6) (h 15) (h 16) (h 17) (h 18) (h 19) (h 20))), (5, (rX7_copyFrom_5 (h 1) (h 2) (h 3) (h 4) (h 5) (h 6) (h 15) (h 16) (h 17) (h 18) (h 19) (h 20))), (6, (rX7_copyFrom_6 (h 1) (h 2) (h 3) (h 4) (h 5) (h 6) (h 15) (h 16) (h 17) (h 18) (h 19) (h 20)))]) (L2 := [(1, (rX7_copyFrom_1 (h 1) (h 2) (h 3) (h 4) (h 5) (h 6) (h 15) (h 16) (h 17) (h 18) (h 19) (h 20))), (2, (rX7_copyFrom_2 (h 1) (h 2) (h 3) (h 4) (h 5) (h 6) (h 15) (h 16) (h 17) (h 18) (h 19) (h 20))), (3, (rX7_copyFrom_3 (h 1) (h 2) (h 3) (h 4) (h 5) (h 6) (h 15) (h 16) (h 17) (h 18) (h 19) (h 20))), (4, (rX7_copyFrom_4 (h 1) (h 2) (h 3) (h 4) (h 5) (h 6) (h 15) (h 16) (h 17) (h 18) (h 19) (h 20))), (5, (rX7_copyFrom_5 (h 1) (h 2) (h 3) (h 4) (h 5) (h 6) (h 15) (h 16) (h 17) (h 18) (h 19) (h 20))), (6, (rX7_copyFrom_6 (h 1) (h 2) (h 3) (h 4) (h 5) (h 6) (h 15) (h 16) (h 17) (h 18) (h 19) (h 20))), (13, (upd (h 13) (1) 0))]) rfl]
    refine rr_aload_n 0 rfl rfl dX9_street_82 ?_
    refine rr_getR dX9_street_83 fX9_34 lo_0 sh_0 rfl ?_
    refine rr_callV (As := []) (rest := []) (kc2 := 0) (ks2 := 0) dX9_street_86 okX4_forget lX9_124 lo_7 sh_7 rfl rfl (Nat.le_of_ble_eq_true rfl) (Nat.le_of_ble_eq_true rfl) rfl (by omega) (by simp [jj_rk]) (by simp [jj_rk]) ?_
    refine sp_X4_forget  ?_
    show jj_R _ _ kc ks (jj_S, 782, (jj_rs (jj_rs h [(1, (rX7_copyFrom_1 (h 1) (h 2) (h 3) (h 4) (h 5) (h 6) (h 15) (h 16) (h 17) (h 18) (h 19) (h 20))), (2, (rX7_copyFrom_2 (h 1) (h 2) (h 3) (h 4) (h 5) (h 6) (h 15) (h 16) (h 17) (h 18) (h 19) (h 20))), (3, (rX7_copyFrom_3 (h 1) (h 2) (h 3) (h 4) (h 5) (h 6) (h 15) (h 16) (h 17) (h 18) (h 19) (h 20))), (4, (rX7_copyFrom_4 (h 1) (h 2) (h 3) (h 4) (h 5) (h 6) (h 15) (h 16) (h 17) (h 18) (h 19) (h 20))), (5, (rX7_copyFrom_5 (h 1) (h 2) (h 3) (h 4) (h 5) (h 6) (h 15) (h 16) (h 17) (h 18) (h 19) (h 20))), (6, (rX7_copyFrom_6 (h 1) (h 2) (h 3) (h 4) (h 5) (h 6) (h 15) (h 16) (h 17) (h 18) (h 19) (h 20))), (13, (upd (h 13) (1) 0))]) [(7, (rX4_forget_7 (h 7)))]), g) 89 [(0, .ref 0), (1, .int (nI N))] [] Q
    rw [jj_rs_rs (B := h) (L := [(1, (rX7_copyFrom_1 (h 1) (h 2) (h 3) (h 4) (h 5) (h 6) (h 15) (h 16) (h 17) (h 18) (h 19) (h 20))), (2, (rX7_copyFrom_2 (h 1) (h 2) (h 3) (h 4) (h 5) (h 6) (h 15) (h 16) (h 17) (h 18) (h 19) (h 20))), (3, (rX7_copyFrom_3 (h 1) (h 2) (h 3) (h 4) (h 5) (h 6) (h 15) (h 16) (h 17) (h 18) (h 19) (h 20))), (4, (rX7_copyFrom_4 (h 1) (h 2) (h 3) (h 4) (h 5) (h 6) (h 15) (h 16) (h 17) (h 18) (h 19) (h 20))), (5, (rX7_copyFrom_5 (h 1) (h 2) (h 3) (h 4) (h 5) (h 6) (h 15) (h 16) (h 17) (h 18) (h 19) (h 20))), (6, (rX7_copyFrom_6 (h 1) (h 2) (h 3) (h 4) (h 5) (h 6) (h 15) (h 16) (h 17) (h 18) (h 19) (h 20))), (13, (upd (h 13) (1) 0))]) (M := [(7, (rX4_forget_7 (h 7)))]) (L2 := [(1, (rX7_copyFrom_1 (h 1) (h 2) (h 3) (h 4) (h 5) (h 6) (h 15) (h 16) (h 17) (h 18) (h 19) (h 20))), (2, (rX7_copyFrom_2 (h 1) (h 2) (h 3) (h 4) (h 5) (h 6) (h 15) (h 16) (h 17) (h 18) (h 19) (h 20))), (3, (rX7_copyFrom_3 (h 1) (h 2) (h 3) (h 4) (h 5) (h 6) (h 15) (h 16) (h 17) (h 18) (h 19) (h 20))), (4, (rX7_copyFrom_4 (h 1) (h 2) (h 3) (h 4) (h 5) (h 6) (h 15) (h 16) (h 17) (h 18) (h 19) (h 20))), (5, (rX7_copyFrom_5 (h 1) (h 2) (h 3) (h 4) (h 5) (h 6) (h 15) (h 16) (h 17) (h 18) (h 19) (h 20))), (6, (rX7_copyFrom_6 (h 1) (h 2) (h 3) (h 4) (h 5) (h 6) (h 15) (h 16) (h 17) (h 18) (h 19) (h 20))), (7, (rX4_forget_7 (h 7))), (13, (upd (h 13) (1) 0))]) rfl]
    refine rr_aload_n 0 rfl rfl dX9_street_89 ?_
    refine rr_getR dX9_street_90 fX9_56 lo_0 sh_0 rfl ?_
    refine rr_callV (As := []) (rest := []) (kc2 := 0) (ks2 := 0) dX9_street_93 okX0_forget lX9_127 lo_25 sh_25 rfl rfl (Nat.le_of_ble_eq_true rfl) (Nat.le_of_ble_eq_true rfl) rfl (by omega) (by simp [jj_rk]) (by simp [jj_rk]) ?_
    refine sp_X0_forget  ?_
    show jj_R _ _ kc ks (jj_S, 782, (jj_rs (jj_rs h [(1, (rX7_copyFrom_1 (h 1) (h 2) (h 3) (h 4) (h 5) (h 6) (h 15) (h 16) (h 17) (h 18) (h 19) (h 20))), (2, (rX7_copyFrom_2 (h 1) (h 2) (h 3) (h 4) (h 5) (h 6) (h 15) (h 16) (h 17) (h 18) (h 19) (h 20))), (3, (rX7_copyFrom_3 (h 1) (h 2) (h 3) (h 4) (h 5) (h 6) (h 15) (h 16) (h 17) (h 18) (h 19) (h 20))), (4, (rX7_copyFrom_4 (h 1) (h 2) (h 3) (h 4) (h 5) (h 6) (h 15) (h 16) (h 17) (h 18) (h 19) (h 20))), (5, (rX7_copyFrom_5 (h 1) (h 2) (h 3) (h 4) (h 5) (h 6) (h 15) (h 16) (h 17) (h 18) (h 19) (h 20))), (6, (rX7_copyFrom_6 (h 1) (h 2) (h 3) (h 4) (h 5) (h 6) (h 15) (h 16) (h 17) (h 18) (h 19) (h 20))), (7, (rX4_forget_7 (h 7))), (13, (upd (h 13) (1) 0))]) [(25, (rX0_forget_25 (h 25)))]), g) 96 [(0, .ref 0), (1, .int (nI N))] [] Q
    rw [jj_rs_rs (B := h) (L := [(1, (rX7_copyFrom_1 (h 1) (h 2) (h 3) (h 4) (h 5) (h 6) (h 15) (h 16) (h 17) (h 18) (h 19) (h 20))), (2, (rX7_copyFrom_2 (h 1) (h 2) (h 3) (h 4) (h 5) (h 6) (h 15) (h 16) (h 17) (h 18) (h 19) (h 20))), (3, (rX7_copyFrom_3 (h 1) (h 2) (h 3) (h 4) (h 5) (h 6) (h 15) (h 16) (h 17) (h 18) (h 19) (h 20))), (4, (rX7_copyFrom_4 (h 1) (h 2) (h 3) (h 4) (h 5) (h 6) (h 15) (h 16) (h 17) (h 18) (h 19) (h 20))), (5, (rX7_copyFrom_5 (h 1) (h 2) (h 3) (h 4) (h 5) (h 6) (h 15) (h 16) (h 17) (h 18) (h 19) (h 20))), (6, (rX7_copyFrom_6 (h 1) (h 2) (h 3) (h 4) (h 5) (h 6) (h 15) (h 16) (h 17) (h 18) (h 19) (h 20))), (7, (rX4_forget_7 (h 7))), (13, (upd (h 13) (1) 0))]) (M := [(25, (rX0_forget_25 (h 25)))]) (L2 := [(1, (rX7_copyFrom_1 (h 1) (h 2) (h 3) (h 4) (h 5) (h 6) (h 15) (h 16) (h 17) (h 18) (h 19) (h 20))), (2, (rX7_copyFrom_2 (h 1) (h 2) (h 3) (h 4) (h 5) (h 6) (h 15) (h 16) (h 17) (h 18) (h 19) (h 20))), (3, (rX7_copyFrom_3 (h 1) (h 2) (h 3) (h 4) (h 5) (h 6) (h 15) (h 16) (h 17) (h 18) (h 19) (h 20))), (4, (rX7_copyFrom_4 (h 1) (h 2) (h 3) (h 4) (h 5) (h 6) (h 15) (h 16) (h 17) (h 18) (h 19) (h 20))), (5, (rX7_copyFrom_5 (h 1) (h 2) (h 3) (h 4) (h 5) (h 6) (h 15) (h 16) (h 17) (h 18) (h 19) (h 20))), (6, (rX7_copyFrom_6 (h 1) (h 2) (h 3) (h 4) (h 5) (h 6) (h 15) (h 16) (h 17) (h 18) (h 19) (h 20))), (7, (rX4_forget_7 (h 7))), (13, (upd (h 13) (1) 0)), (25, (rX0_forget_25 (h 25)))]) rfl]
    refine rr_aload_n 0 rfl rfl dX9_street_96 ?_
    refine rr_getR dX9_street_97 fX9_80 lo_0 sh_0 rfl ?_
    refine rr_callV (As := []) (rest := []) (kc2 := 0) (ks2 := 0) dX9_street_100 okX6_begin lX9_77 lo_38 sh_38 rfl rfl (Nat.le_of_ble_eq_true rfl) (Nat.le_of_ble_eq_true rfl) rfl (by omega) (by simp [jj_rk]) (by simp [jj_rk]) ?_
    refine sp_X6_begin  ?_
    show jj_R _ _ kc ks (jj_S, 782, (jj_rs (jj_rs h [(1, (rX7_copyFrom_1 (h 1) (h 2) (h 3) (h 4) (h 5) (h 6) (h 15) (h 16) (h 17) (h 18) (h 19) (h 20))), (2, (rX7_copyFrom_2 (h 1) (h 2) (h 3) (h 4) (h 5) (h 6) (h 15) (h 16) (h 17) (h 18) (h 19) (h 20))), (3, (rX7_copyFrom_3 (h 1) (h 2) (h 3) (h 4) (h 5) (h 6) (h 15) (h 16) (h 17) (h 18) (h 19) (h 20))), (4, (rX7_copyFrom_4 (h 1) (h 2) (h 3) (h 4) (h 5) (h 6) (h 15) (h 16) (h 17) (h 18) (h 19) (h 20))), (5, (rX7_copyFrom_5 (h 1) (h 2) (h 3) (h 4) (h 5) (h 6) (h 15) (h 16) (h 17) (h 18) (h 19) (h 20))), (6, (rX7_copyFrom_6 (h 1) (h 2) (h 3) (h 4) (h 5) (h 6) (h 15) (h 16) (h 17) (h 18) (h 19) (h 20))), (7, (rX4_forget_7 (h 7))), (13, (upd (h 13) (1) 0)), (25, (rX0_forget_25 (h 25)))]) [(38, (rX6_begin_38 (h 38) (h 39) (h 40) (h 41) (h 42))), (39, (rX6_begin_39 (h 38) (h 39) (h 40) (h 41) (h 42))), (40, (rX6_begin_40 (h 38) (h 39) (h 40) (h 41) (h 42))), (41, (rX6_begin_41 (h 38) (h 39) (h 40) (h 41) (h 42))), (42, (rX6_begin_42 (h 38) (h 39) (h 40) (h 41) (h 42)))]), g) 103 [(0, .ref 0), (1, .int (nI N))] [] Q
    rw [jj_rs_rs (B := h) (L := [(1, (rX7_copyFrom_1 (h 1) (h 2) (h 3) (h 4) (h 5) (h 6) (h 15) (h 16) (h 17) (h 18) (h 19) (h 20))), (2, (rX7_copyFrom_2 (h 1) (h 2) (h 3) (h 4) (h 5) (h 6) (h 15) (h 16) (h 17) (h 18) (h 19) (h 20))), (3, (rX7_copyFrom_3 (h 1) (h 2) (h 3) (h 4) (h 5) (h 6) (h 15) (h 16) (h 17) (h 18) (h 19) (h 20))), (4, (rX7_copyFrom_4 (h 1) (h 2) (h 3) (h 4) (h 5) (h 6) (h 15) (h 16) (h 17) (h 18) (h 19) (h 20))), (5, (rX7_copyFrom_5 (h 1) (h 2) (h 3) (h 4) (h 5) (h 6) (h 15) (h 16) (h 17) (h 18) (h 19) (h 20))), (6, (rX7_copyFrom_6 (h 1) (h 2) (h 3) (h 4) (h 5) (h 6) (h 15) (h 16) (h 17) (h 18) (h 19) (h 20))), (7, (rX4_forget_7 (h 7))), (13, (upd (h 13) (1) 0)), (25, (rX0_forget_25 (h 25)))]) (M := [(38, (rX6_begin_38 (h 38) (h 39) (h 40) (h 41) (h 42))), (39, (rX6_begin_39 (h 38) (h 39) (h 40) (h 41) (h 42))), (40, (rX6_begin_40 (h 38) (h 39) (h 40) (h 41) (h 42))), (41, (rX6_begin_41 (h 38) (h 39) (h 40) (h 41) (h 42))), (42, (rX6_begin_42 (h 38) (h 39) (h 40) (h 41) (h 42)))]) (L2 := [(1, (rX7_copyFrom_1 (h 1) (h 2) (h 3) (h 4) (h 5) (h 6) (h 15) (h 16) (h 17) (h 18) (h 19) (h 20))), (2, (rX7_copyFrom_2 (h 1) (h 2) (h 3) (h 4) (h 5) (h 6) (h 15) (h 16) (h 17) (h 18) (h 19) (h 20))), (3, (rX7_copyFrom_3 (h 1) (h 2) (h 3) (h 4) (h 5) (h 6) (h 15) (h 16) (h 17) (h 18) (h 19) (h 20))), (4, (rX7_copyFrom_4 (h 1) (h 2) (h 3) (h 4) (h 5) (h 6) (h 15) (h 16) (h 17) (h 18) (h 19) (h 20))), (5, (rX7_copyFrom_5 (h 1) (h 2) (h 3) (h 4) (h 5) (h 6) (h 15) (h 16) (h 17) (h 18) (h 19) (h 20))), (6, (rX7_copyFrom_6 (h 1) (h 2) (h 3) (h 4) (h 5) (h 6) (h 15) (h 16) (h 17) (h 18) (h 19) (h 20))), (7, (rX4_forget_7 (h 7))), (13, (upd (h 13) (1) 0)), (25, (rX0_forget_25 (h 25))), (38, (rX6_begin_38 (h 38) (h 39) (h 40) (h 41) (h 42))), (39, (rX6_begin_39 (h 38) (h 39) (h 40) (h 41) (h 42))), (40, (rX6_begin_40 (h 38) (h 39) (h 40) (h 41) (h 42))), (41, (rX6_begin_41 (h 38) (h 39) (h 40) (h 41) (h 42))), (42, (rX6_begin_42 (h 38) (h 39) (h 40) (h 41) (h 42)))]) rfl]
    refine rr_aload_n 0 rfl rfl dX9_street_103 ?_
    refine rr_getR dX9_street_104 fX9_70 lo_0 sh_0 rfl ?_
    refine rr_callV (As := []) (rest := []) (kc2 := 0) (ks2 := 0) dX9_street_107 okX1_forget lX9_128 lo_34 sh_34 rfl rfl (Nat.le_of_ble_eq_true rfl) (Nat.le_of_ble_eq_true rfl) rfl (by omega) (by simp [jj_rk]) (by simp [jj_rk]) ?_
    refine sp_X1_forget  ?_
    show jj_R _ _ kc ks (jj_S, 782, (jj_rs (jj_rs h [(1, (rX7_copyFrom_1 (h 1) (h 2) (h 3) (h 4) (h 5) (h 6) (h 15) (h 16) (h 17) (h 18) (h 19) (h 20))), (2, (rX7_copyFrom_2 (h 1) (h 2) (h 3) (h 4) (h 5) (h 6) (h 15) (h 16) (h 17) (h 18) (h 19) (h 20))), (3, (rX7_copyFrom_3 (h 1) (h 2) (h 3) (h 4) (h 5) (h 6) (h 15) (h 16) (h 17) (h 18) (h 19) (h 20))), (4, (rX7_copyFrom_4 (h 1) (h 2) (h 3) (h 4) (h 5) (h 6) (h 15) (h 16) (h 17) (h 18) (h 19) (h 20))), (5, (rX7_copyFrom_5 (h 1) (h 2) (h 3) (h 4) (h 5) (h 6) (h 15) (h 16) (h 17) (h 18) (h 19) (h 20))), (6, (rX7_copyFrom_6 (h 1) (h 2) (h 3) (h 4) (h 5) (h 6) (h 15) (h 16) (h 17) (h 18) (h 19) (h 20))), (7, (rX4_forget_7 (h 7))), (13, (upd (h 13) (1) 0)), (25, (rX0_forget_25 (h 25))), (38, (rX6_begin_38 (h 38) (h 39) (h 40) (h 41) (h 42))), (39, (rX6_begin_39 (h 38) (h 39) (h 40) (h 41) (h 42))), (40, (rX6_begin_40 (h 38) (h 39) (h 40) (h 41) (h 42))), (41, (rX6_begin_41 (h 38) (h 39) (h 40) (h 41) (h 42))), (42, (rX6_begin_42 (h 38) (h 39) (h 40) (h 41) (h 42)))]) [(34, (rX1_forget_34 (h 34)))]), g) 110 [(0, .ref 0), (1, .int (nI N))] [] Q
    rw [jj_rs_rs (B := h) (L := [(1, (rX7_copyFrom_1 (h 1) (h 2) (h 3) (h 4) (h 5) (h 6) (h 15) (h 16) (h 17) (h 18) (h 19) (h 20))), (2, (rX7_copyFrom_2 (h 1) (h 2) (h 3) (h 4) (h 5) (h 6) (h 15) (h 16) (h 17) (h 18) (h 19) (h 20))), (3, (rX7_copyFrom_3 (h 1) (h 2) (h 3) (h 4) (h 5) (h 6) (h 15) (h 16) (h 17) (h 18) (h 19) (h 20))), (4, (rX7_copyFrom_4 (h 1) (h 2) (h 3) (h 4) (h 5) (h 6) (h 15) (h 16) (h 17) (h 18) (h 19) (h 20))), (5, (rX7_copyFrom_5 (h 1) (h 2) (h 3) (h 4) (h 5) (h 6) (h 15) (h 16) (h 17) (h 18) (h 19) (h 20))), (6, (rX7_copyFrom_6 (h 1) (h 2) (h 3) (h 4) (h 5) (h 6) (h 15) (h 16) (h 17) (h 18) (h 19) (h 20))), (7, (rX4_forget_7 (h 7))), (13, (upd (h 13) (1) 0)), (25, (rX0_forget_25 (h 25))), (38, (rX6_begin_38 (h 38) (h 39) (h 40) (h 41) (h 42))), (39, (rX6_begin_39 (h 38) (h 39) (h 40) (h 41) (h 42))), (40, (rX6_begin_40 (h 38) (h 39) (h 40) (h 41) (h 42))), (41, (rX6_begin_41 (h 38) (h 39) (h 40) (h 41) (h 42))), (42, (rX6_begin_42 (h 38) (h 39) (h 40) (h 41) (h 42)))]) (M := [(34, (rX1_forget_34 (h 34)))]) (L2 := [(1, (rX7_copyFrom_1 (h 1) (h 2) (h 3) (h 4) (h 5) (h 6) (h 15) (h 16) (h 17) (h 18) (h 19) (h 20))), (2, (rX7_copyFrom_2 (h 1) (h 2) (h 3) (h 4) (h 5) (h 6) (h 15) (h 16) (h 17) (h 18) (h 19) (h 20))), (3, (rX7_copyFrom_3 (h 1) (h 2) (h 3) (h 4) (h 5) (h 6) (h 15) (h 16) (h 17) (h 18) (h 19) (h 20))), (4, (rX7_copyFrom_4 (h 1) (h 2) (h 3) (h 4) (h 5) (h 6) (h 15) (h 16) (h 17) (h 18) (h 19) (h 20))), (5, (rX7_copyFrom_5 (h 1) (h 2) (h 3) (h 4) (h 5) (h 6) (h 15) (h 16) (h 17) (h 18) (h 19) (h 20))), (6, (rX7_copyFrom_6 (h 1) (h 2) (h 3) (h 4) (h 5) (h 6) (h 15) (h 16) (h 17) (h 18) (h 19) (h 20))), (7, (rX4_forget_7 (h 7))), (13, (upd (h 13) (1) 0)), (25, (rX0_forget_25 (h 25))), (34, (rX1_forget_34 (h 34))), (38, (rX6_begin_38 (h 38) (h 39) (h 40) (h 41) (h 42))), (39, (rX6_begin_39 (h 38) (h 39) (h 40) (h 41) (h 42))), (40, (rX6_begin_40 (h 38) (h 39) (h 40) (h 41) (h 42))), (41, (rX6_begin_41 (h 38) (h 39) (h 40) (h 41) (h 42))), (42, (rX6_begin_42 (h 38) (h 39) (h 40) (h 41) (h 42)))]) rfl]
    refine rr_aload_n 0 rfl rfl dX9_street_110 ?_
    refine rr_iconst 0 rfl dX9_street_111 ?_
    refine rr_putI dX9_street_112 fX9_129 ni9_12 lo_0 sh_0 rfl ?_
    rw [jj_rs_set (B := h) (L := [(1, (rX7_copyFrom_1 (h 1) (h 2) (h 3) (h 4) (h 5) (h 6) (h 15) (h 16) (h 17) (h 18) (h 19) (h 20))), (2, (rX7_copyFrom_2 (h 1) (h 2) (h 3) (h 4) (h 5) (h 6) (h 15) (h 16) (h 17) (h 18) (h 19) (h 20))), (3, (rX7_copyFrom_3 (h 1) (h 2) (h 3) (h 4) (h 5) (h 6) (h 15) (h 16) (h 17) (h 18) (h 19) (h 20))), (4, (rX7_copyFrom_4 (h 1) (h 2) (h 3) (h 4) (h 5) (h 6) (h 15) (h 16) (h 17) (h 18) (h 19) (h 20))), (5, (rX7_copyFrom_5 (h 1) (h 2) (h 3) (h 4) (h 5) (h 6) (h 15) (h 16) (h 17) (h 18) (h 19) (h 20))), (6, (rX7_copyFrom_6 (h 1) (h 2) (h 3) (h 4) (h 5) (h 6) (h 15) (h 16) (h 17) (h 18) (h 19) (h 20))), (7, (rX4_forget_7 (h 7))), (13, (upd (h 13) (1) 0)), (25, (rX0_forget_25 (h 25))), (34, (rX1_forget_34 (h 34))), (38, (rX6_begin_38 (h 38) (h 39) (h 40) (h 41) (h 42))), (39, (rX6_begin_39 (h 38) (h 39) (h 40) (h 41) (h 42))), (40, (rX6_begin_40 (h 38) (h 39) (h 40) (h 41) (h 42))), (41, (rX6_begin_41 (h 38) (h 39) (h 40) (h 41) (h 42))), (42, (rX6_begin_42 (h 38) (h 39) (h 40) (h 41) (h 42)))]) (L2 := [(0, (upd (h 0) (12) 0)), (1, (rX7_copyFrom_1 (h 1) (h 2) (h 3) (h 4) (h 5) (h 6) (h 15) (h 16) (h 17) (h 18) (h 19) (h 20))), (2, (rX7_copyFrom_2 (h 1) (h 2) (h 3) (h 4) (h 5) (h 6) (h 15) (h 16) (h 17) (h 18) (h 19) (h 20))), (3, (rX7_copyFrom_3 (h 1) (h 2) (h 3) (h 4) (h 5) (h 6) (h 15) (h 16) (h 17) (h 18) (h 19) (h 20))), (4, (rX7_copyFrom_4 (h 1) (h 2) (h 3) (h 4) (h 5) (h 6) (h 15) (h 16) (h 17) (h 18) (h 19) (h 20))), (5, (rX7_copyFrom_5 (h 1) (h 2) (h 3) (h 4) (h 5) (h 6) (h 15) (h 16) (h 17) (h 18) (h 19) (h 20))), (6, (rX7_copyFrom_6 (h 1) (h 2) (h 3) (h 4) (h 5) (h 6) (h 15) (h 16) (h 17) (h 18) (h 19) (h 20))), (7, (rX4_forget_7 (h 7))), (13, (upd (h 13) (1) 0)), (25, (rX0_forget_25 (h 25))), (34, (rX1_forget_34 (h 34))), (38, (rX6_begin_38 (h 38) (h 39) (h 40) (h 41) (h 42))), (39, (rX6_begin_39 (h 38) (h 39) (h 40) (h 41) (h 42))), (40, (rX6_begin_40 (h 38) (h 39) (h 40) (h 41) (h 42))), (41, (rX6_begin_41 (h 38) (h 39) (h 40) (h 41) (h 42))), (42, (rX6_begin_42 (h 38) (h 39) (h 40) (h 41) (h 42)))]) (r := (h 0)) rfl rfl]
    refine rr_aload_n 0 rfl rfl dX9_street_115 ?_
    refine rr_getR dX9_street_116 fX9_27 lo_0 sh_0 rfl ?_
    refine rr_getI dX9_street_119 fX9_132 lo_1 sh_1 rfl ?_
    rw [show (jj_rs h [(0, (upd (h 0) (12) 0)), (1, (rX7_copyFrom_1 (h 1) (h 2) (h 3) (h 4) (h 5) (h 6) (h 15) (h 16) (h 17) (h 18) (h 19) (h 20))), (2, (rX7_copyFrom_2 (h 1) (h 2) (h 3) (h 4) (h 5) (h 6) (h 15) (h 16) (h 17) (h 18) (h 19) (h 20))), (3, (rX7_copyFrom_3 (h 1) (h 2) (h 3) (h 4) (h 5) (h 6) (h 15) (h 16) (h 17) (h 18) (h 19) (h 20))), (4, (rX7_copyFrom_4 (h 1) (h 2) (h 3) (h 4) (h 5) (h 6) (h 15) (h 16) (h 17) (h 18) (h 19) (h 20))), (5, (rX7_copyFrom_5 (h 1) (h 2) (h 3) (h 4) (h 5) (h 6) (h 15) (h 16) (h 17) (h 18) (h 19) (h 20))), (6, (rX7_copyFrom_6 (h 1) (h 2) (h 3) (h 4) (h 5) (h 6) (h 15) (h 16) (h 17) (h 18) (h 19) (h 20))), (7, (rX4_forget_7 (h 7))), (13, (upd (h 13) (1) 0)), (25, (rX0_forget_25 (h 25))), (34, (rX1_forget_34 (h 34))), (38, (rX6_begin_38 (h 38) (h 39) (h 40) (h 41) (h 42))), (39, (rX6_begin_39 (h 38) (h 39) (h 40) (h 41) (h 42))), (40, (rX6_begin_40 (h 38) (h 39) (h 40) (h 41) (h 42))), (41, (rX6_begin_41 (h 38) (h 39) (h 40) (h 41) (h 42))), (42, (rX6_begin_42 (h 38) (h 39) (h 40) (h 41) (h 42)))]) 1 = (rX7_copyFrom_1 (h 1) (h 2) (h 3) (h 4) (h 5) (h 6) (h 15) (h 16) (h 17) (h 18) (h 19) (h 20)) from rfl]
    refine rr_ireturn dX9_street_122 rfl ?_
    obtain ⟨m1, m2, m3, m4, m5, m6, m7, m8, m9⟩ := m
    rw [show ((rX7_copyFrom_1 (h 1) (h 2) (h 3) (h 4) (h 5) (h 6) (h 15) (h 16) (h 17) (h 18) (h 19) (h 20)) 0) = nI S.1.length from m3]
    refine k1 S _ e1 ⟨rfl, m2, m3, m4, m5, fun i hi => (cpy_8 (by omega)).trans (m6 i hi), fun i z hi => ?_, m8, rfl, rfl, ⟨rfl, rfl, rfl⟩, fun p hp => ?_, ⟨rfl, rfl⟩, ⟨rfl, ?_, ?_⟩, fun x hx => ?_⟩
    · have hi2 := (List.getElem?_eq_some_iff.mp hi).1
      have q := m7 i z hi
      exact ⟨(cpy_8 (by omega)).trans q.1, (cpy_8 (by omega)).trans q.2.1, (cpy_8 (by omega)).trans q.2.2.1, (cpy_8 (by omega)).trans q.2.2.2⟩
    · rcases lt_8 hp with rfl | rfl | rfl | rfl | rfl | rfl | rfl | rfl <;> exact ⟨rfl, rfl, rfl, rfl⟩
    · exact (congrFun (m9 0 rfl (by decide)) 13).trans (congrFun (ho 0 (by decide)) 13)
    · exact (congrFun (m9 0 rfl (by decide)) 14).trans (congrFun (ho 0 (by decide)) 14)
    · have e9 := sX_0 m9 hx
      have e8 : ¬ x = 13 := fun q => by rw [q] at hx; exact absurd hx (by decide)
      rw [rs_no (P := sX_) rfl hx, e9, ho x e8]
  · skip
    have ke := pstreet_er e1
    have hk0 : ¬ nI k = 0 := nI_k0 ke.1 ke.2
    show jj_R _ _ kc ks (jj_S, 782, h, g) 43 [(0, .ref 0), (1, .int (nI N))] [] Q
    refine rr_aload_n 0 rfl rfl dX9_street_43 ?_
    refine rr_getR dX9_street_44 fX9_21 lo_0 sh_0 rfl ?_
    refine rr_callV (As := []) (rest := []) (kc2 := 0) (ks2 := 0) dX9_street_47 okX5_empty lX9_114 lo_13 sh_13 rfl rfl (Nat.le_of_ble_eq_true rfl) (Nat.le_of_ble_eq_true rfl) rfl (by omega) (by simp [jj_rk]) (by simp [jj_rk]) ?_
    refine sp_X5_empty  ?_
    show jj_R _ _ kc ks (jj_S, 782, (jj_rs h [(13, (upd (h 13) (1) 0))]), g) 50 [(0, .ref 0), (1, .int (nI N))] [] Q
    refine rr_aload_n 0 rfl rfl dX9_street_50 ?_
    refine rr_getR dX9_street_51 fX9_21 lo_0 sh_0 rfl ?_
    refine rr_getI dX9_street_54 fX9_117 lo_13 sh_13 rfl ?_
    rw [show (jj_rs h [(13, (upd (h 13) (1) 0))]) 13 = (upd (h 13) (1) 0) from rfl]
    rw [show (upd (h 13) (1) 0) 7 = (nI k) from m.1]
    refine rr_if_eq dX9_street_57 (fun c => absurd c hk0) (fun _ => ?_)
    refine rr_aload_n 0 rfl rfl dX9_street_60 ?_
    refine rr_getR dX9_street_61 fX9_21 lo_0 sh_0 rfl ?_
    refine rr_getI dX9_street_64 fX9_117 lo_13 sh_13 rfl ?_
    rw [show (jj_rs h [(13, (upd (h 13) (1) 0))]) 13 = (upd (h 13) (1) 0) from rfl]
    rw [show (upd (h 13) (1) 0) 7 = (nI k) from m.1]
    refine rr_bipush 10 rfl dX9_street_67 ?_
    refine rr_isub dX9_street_69 ?_
    refine rr_ireturn dX9_street_70 rfl ?_
    exact k2 k p h e1 ⟨m.1, m.2.1, fun x hx hx3 => (m.2.2 x hx hx3).trans (ho x hx3)⟩
