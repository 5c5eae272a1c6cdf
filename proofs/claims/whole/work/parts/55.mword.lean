/-- a word that the reference knows by six numbers -/
def wok (L : List Nat) (s : Int32) : Prop := (∀ i, i < L.length → 97 ≤ L.getD i 0 ∧ L.getD i 0 ≤ 122) ∧ 0 < L.length ∧ L.length ≤ 6 ∧ w27 L < 2 ^ 31 ∧ s = nI (w27 L)
theorem wok_is {c : Nat → Nat} {e a : Nat} {L : List Nat} {s : Int32} (h : wok L s) : wh c e a = s ↔ wis c e a L = true := by
  rw [h.2.2.2.2]
  exact wh_is h.1 h.2.1 h.2.2.1 h.2.2.2.1
theorem sp_isWord {c : Nat → Nat} {e x d kc ks : Nat} {h : Nat → Nat → Int32} {g : Nat → Nat → Int64} {Q : jj_Rs → jj_St → Prop} {L : List Nat} {a1 a2 a3 a4 a5 a6 : Int32} (he : e ≤ 600) (hL : wok L (vX10_six a1 a2 a3 a4 a5 a6)) (hs : h 49 2 = nI e) (ha : h 49 4 = nI x) (hF : fedok (h 50) c) (hx : x ≤ e) (hf : h 49 5 = 0) (k1 : wis c e (spn isB c e x) L = true → Q (.inl (some (.int 1))) (jj_S, 782, jj_rs h [(49, upd (h 49) 4 (nI (spn isB c e x)))], g)) (k2 : ¬ wis c e (spn isB c e x) L = true → Q (.inl (some (.int 0))) (jj_S, 782, jj_rs h [(49, upd (h 49) 4 (nI (spn isB c e x)))], g)) : jj_R mX10_isWord (d + 3) kc ks (jj_S, 782, h, g) 0 [(0, .ref 49), (1, .int a1), (2, .int a2), (3, .int a3), (4, .int a4), (5, .int a5), (6, .int a6)] [] Q := by
  refine rr_aload_n 0 rfl rfl dX10_isWord_0 ?_
  refine rr_getI dX10_isWord_1 fX10_111 lo_49 sh_49 rfl ?_
  rw [show (h 49) 5 = 0 from hf]
  refine rr_if_ne dX10_isWord_4 (fun c => absurd c (by decide)) (fun _ => ?_)
  refine rr_aload_n 0 rfl rfl dX10_isWord_7 ?_
  refine rr_callV (As := []) (rest := []) (kc2 := 0) (ks2 := 0) dX10_isWord_8 okX10_wordHere lX10_136 lo_49 sh_49 rfl rfl (Nat.le_of_ble_eq_true rfl) (Nat.le_of_ble_eq_true rfl) rfl (by omega) (by simp [jj_rk]) (by simp [jj_rk]) ?_
  refine sp_wordHere he hs ha hF hx ?_
  show jj_R _ _ kc ks (jj_S, 782, (jj_rs h [(49, (upd (h 49) (4) (nI (spn isB c e x))))]), g) 11 [(0, .ref 49), (1, .int a1), (2, .int a2), (3, .int a3), (4, .int a4), (5, .int a5), (6, .int a6)] [.int (wh c e (spn isB c e x))] Q
  refine rr_iload_n 1 rfl rfl dX10_isWord_11 ?_
  refine rr_iload_n 2 rfl rfl dX10_isWord_12 ?_
  refine rr_iload_n 3 rfl rfl dX10_isWord_13 ?_
  refine rr_iload 4 rfl dX10_isWord_14 ?_
  refine rr_iload 5 rfl dX10_isWord_16 ?_
  refine rr_iload 6 rfl dX10_isWord_18 ?_
  refine rr_callS (As := [.int a1, .int a2, .int a3, .int a4, .int a5, .int a6]) (rest := [.int (wh c e (spn isB c e x))]) (kc2 := 0) (ks2 := 0) dX10_isWord_20 okX10_six lX10_140 rfl (Nat.le_of_ble_eq_true rfl) (Nat.le_of_ble_eq_true rfl) rfl (by omega) (by simp [jj_rk]) (by simp [jj_rk]) ?_
  refine sp_X10_six  ?_
  show jj_R _ _ kc ks (jj_S, 782, (jj_rs h [(49, (upd (h 49) (4) (nI (spn isB c e x))))]), g) 23 [(0, .ref 49), (1, .int a1), (2, .int a2), (3, .int a3), (4, .int a4), (5, .int a5), (6, .int a6)] [.int (vX10_six a1 a2 a3 a4 a5 a6), .int (wh c e (spn isB c e x))] Q
  refine rr_icmp_ne dX10_isWord_23 (fun c1 => ?_) (fun c1 => ?_)
  · skip
    refine rr_iconst 0 rfl dX10_isWord_30 ?_
    refine rr_nreturn dX10_isWord_31 rfl (by first | rfl | assumption) ?_
    rw [wok_is hL] at c1
    exact k2 c1
  · skip
    refine rr_iconst 1 rfl dX10_isWord_26 ?_
    refine rr_goto dX10_isWord_27 ?_
    refine rr_nreturn dX10_isWord_31 rfl (by first | rfl | assumption) ?_
    rw [wok_is hL] at c1
    exact k1 c1
theorem sp_takes {c : Nat → Nat} {e x d kc ks : Nat} {h : Nat → Nat → Int32} {g : Nat → Nat → Int64} {Q : jj_Rs → jj_St → Prop} {L : List Nat} {a1 a2 a3 a4 a5 a6 : Int32} (he : e ≤ 600) (hL : wok L (vX10_six a1 a2 a3 a4 a5 a6)) (hs : h 49 2 = nI e) (ha : h 49 4 = nI x) (hF : fedok (h 50) c) (hx : x ≤ e) (hf : h 49 5 = 0) (k1 : wis c e (spn isB c e x) L = true → Q (.inl (some (.int 1))) (jj_S, 782, jj_rs h [(49, upd (h 49) 4 (nI (nx c e (spn isB c e x))))], g)) (k2 : ¬ wis c e (spn isB c e x) L = true → Q (.inl (some (.int 0))) (jj_S, 782, jj_rs h [(49, upd (h 49) 4 (nI (spn isB c e x)))], g)) : jj_R mX10_takes (d + 4) kc ks (jj_S, 782, h, g) 0 [(0, .ref 49), (1, .int a1), (2, .int a2), (3, .int a3), (4, .int a4), (5, .int a5), (6, .int a6)] [] Q := by
  have hA : spn isB c e x ≤ e := spn_le hx
  refine rr_aload_n 0 rfl rfl dX10_takes_0 ?_
  refine rr_iload_n 1 rfl rfl dX10_takes_1 ?_
  refine rr_iload_n 2 rfl rfl dX10_takes_2 ?_
  refine rr_iload_n 3 rfl rfl dX10_takes_3 ?_
  refine rr_iload 4 rfl dX10_takes_4 ?_
  refine rr_iload 5 rfl dX10_takes_6 ?_
  refine rr_iload 6 rfl dX10_takes_8 ?_
  refine rr_callV (As := [.int a1, .int a2, .int a3, .int a4, .int a5, .int a6]) (rest := []) (kc2 := 0) (ks2 := 0) dX10_takes_10 okX10_isWord lX10_147 lo_49 sh_49 rfl rfl (Nat.le_of_ble_eq_true rfl) (Nat.le_of_ble_eq_true rfl) rfl (by omega) (by simp [jj_rk]) (by simp [jj_rk]) ?_
  refine sp_isWord he hL hs ha hF hx hf (fun w => ?_) (fun w => ?_)
  · show jj_R _ _ kc ks (jj_S, 782, (jj_rs h [(49, upd (h 49) 4 (nI (spn isB c e x)))]), g) 13 [(0, .ref 49), (1, .int a1), (2, .int a2), (3, .int a3), (4, .int a4), (5, .int a5), (6, .int a6)] [.int 1] Q
    refine rr_istore [(0, .ref 49), (1, .int a1), (2, .int a2), (3, .int a3), (4, .int a4), (5, .int a5), (6, .int a6), (7, .int 1)] dX10_takes_13 (by decide) rfl ?_
    refine rr_iload 7 rfl dX10_takes_15 ?_
    refine rr_if_eq dX10_takes_17 (fun c => absurd c (by decide)) (fun _ => ?_)
    refine rr_aload_n 0 rfl rfl dX10_takes_20 ?_
    refine rr_callV (As := []) (rest := []) (kc2 := 0) (ks2 := 0) dX10_takes_21 okX10_skipWord lX10_144 lo_49 sh_49 rfl rfl (Nat.le_of_ble_eq_true rfl) (Nat.le_of_ble_eq_true rfl) rfl (by omega) (by simp [jj_rk]) (by simp [jj_rk]) ?_
    refine sp_skipWord (x := spn isB c e x) he ((jj_une (by decide)).trans hs) (jj_ueq rfl) hF (by omega) ?_
    show jj_R _ _ kc ks (jj_S, 782, jj_rs (jj_rs h [(49, upd (h 49) 4 (nI (spn isB c e x)))]) [(49, upd (upd (h 49) 4 (nI (spn isB c e x))) 4 (nI (spn isL c e (spn isB c e x))))], g) 24 [(0, .ref 49), (1, .int a1), (2, .int a2), (3, .int a3), (4, .int a4), (5, .int a5), (6, .int a6), (7, .int 1)] [] Q
    rw [jj_rs1, up_up]
    refine rr_iload 7 rfl dX10_takes_24 ?_
    have w2 := w
    unfold wis at w2
    rw [Bool.and_eq_true, decide_eq_true_eq] at w2
    rw [← (kd_2 w2.1).2.2]
    exact rr_nreturn dX10_takes_26 rfl rfl (k1 w)
  · show jj_R _ _ kc ks (jj_S, 782, (jj_rs h [(49, upd (h 49) 4 (nI (spn isB c e x)))]), g) 13 [(0, .ref 49), (1, .int a1), (2, .int a2), (3, .int a3), (4, .int a4), (5, .int a5), (6, .int a6)] [.int 0] Q
    refine rr_istore [(0, .ref 49), (1, .int a1), (2, .int a2), (3, .int a3), (4, .int a4), (5, .int a5), (6, .int a6), (7, .int 0)] dX10_takes_13 (by decide) rfl ?_
    refine rr_iload 7 rfl dX10_takes_15 ?_
    refine rr_if_eq dX10_takes_17 (fun _ => ?_) (fun c => absurd rfl c)
    refine rr_iload 7 rfl dX10_takes_24 ?_
    exact rr_nreturn dX10_takes_26 rfl rfl (k2 w)
theorem wk_again : wok [97, 103, 97, 105, 110] (vX10_six 1 7 1 9 14 0) := ⟨by decide, by decide, by decide, by decide, by decide +kernel⟩
theorem wk_behind : wok [98, 101, 104, 105, 110, 100] (vX10_six 2 5 8 9 14 4) := ⟨by decide, by decide, by decide, by decide, by decide +kernel⟩
theorem wk_cut : wok [99, 117, 116] (vX10_six 3 21 20 0 0 0) := ⟨by decide, by decide, by decide, by decide, by decide +kernel⟩
theorem wk_day : wok [100, 97, 121] (vX10_six 4 1 25 0 0 0) := ⟨by decide, by decide, by decide, by decide, by decide +kernel⟩
theorem wk_double : wok [100, 111, 117, 98, 108, 101] (vX10_six 4 15 21 2 12 5) := ⟨by decide, by decide, by decide, by decide, by decide +kernel⟩
theorem wk_friend : wok [102, 114, 105, 101, 110, 100] (vX10_six 6 18 9 5 14 4) := ⟨by decide, by decide, by decide, by decide, by decide +kernel⟩
theorem wk_haste : wok [104, 97, 115, 116, 101] (vX10_six 8 1 19 20 5 0) := ⟨by decide, by decide, by decide, by decide, by decide +kernel⟩
theorem wk_least : wok [108, 101, 97, 115, 116] (vX10_six 12 5 1 19 20 0) := ⟨by decide, by decide, by decide, by decide, by decide +kernel⟩
theorem wk_mend : wok [109, 101, 110, 100] (vX10_six 13 5 14 4 0 0) := ⟨by decide, by decide, by decide, by decide, by decide +kernel⟩
theorem wk_most : wok [109, 111, 115, 116] (vX10_six 13 15 19 20 0 0) := ⟨by decide, by decide, by decide, by decide, by decide +kernel⟩
theorem wk_person : wok [112, 101, 114, 115, 111, 110] (vX10_six 16 5 18 19 15 14) := ⟨by decide, by decide, by decide, by decide, by decide +kernel⟩
theorem wk_self : wok [115, 101, 108, 102] (vX10_six 19 5 12 6 0 0) := ⟨by decide, by decide, by decide, by decide, by decide +kernel⟩
theorem wk_slips : wok [115, 108, 105, 112, 115] (vX10_six 19 12 9 16 19 0) := ⟨by decide, by decide, by decide, by decide, by decide +kernel⟩
theorem wk_string : wok [115, 116, 114, 105, 110, 103] (vX10_six 19 20 18 9 14 7) := ⟨by decide, by decide, by decide, by decide, by decide +kernel⟩
theorem wk_tie : wok [116, 105, 101] (vX10_six 20 9 5 0 0 0) := ⟨by decide, by decide, by decide, by decide, by decide +kernel⟩
theorem wk_undo : wok [117, 110, 100, 111] (vX10_six 21 14 4 15 0 0) := ⟨by decide, by decide, by decide, by decide, by decide +kernel⟩
