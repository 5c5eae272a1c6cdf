theorem spn_idem {P : Nat → Bool} {c : Nat → Nat} {e x : Nat} : spn P c e (spn P c e x) = spn P c e x := by
  refine spn_no (fun q => ?_)
  have := spn_stop (P := P) (c := c) (e := e) (x := x) q.1
  rw [q.2] at this
  exact absurd this (by decide)
theorem rs_same {h : Nat → Nat → Int32} {v : Int32} : jj_rs (jj_rs h [(49, upd (h 49) 4 v)]) [(49, upd (jj_rs h [(49, upd (h 49) 4 v)] 49) 4 v)] = jj_rs h [(49, upd (h 49) 4 v)] := by
  rw [jj_rs1, show jj_rs h [(49, upd (h 49) 4 v)] 49 = upd (h 49) 4 v from rfl, up_up]
theorem rs_to {h : Nat → Nat → Int32} {v w : Int32} : jj_rs (jj_rs h [(49, upd (h 49) 4 v)]) [(49, upd (jj_rs h [(49, upd (h 49) 4 v)] 49) 4 w)] = jj_rs h [(49, upd (h 49) 4 w)] := by
  rw [jj_rs1, show jj_rs h [(49, upd (h 49) 4 v)] 49 = upd (h 49) 4 v from rfl, up_up]
theorem sp_kindHere {c : Nat → Nat} {e x d kc ks : Nat} {h : Nat → Nat → Int32} {g : Nat → Nat → Int64} {Q : jj_Rs → jj_St → Prop} (he : e ≤ 600) (hs : h 49 2 = nI e) (ha : h 49 4 = nI x) (hF : fedok (h 50) c) (hx : x ≤ e) (hf : h 49 5 = 0) (kq : Q (.inl (some (.int (if wis c e (spn isB c e x) [112, 101, 114, 115, 111, 110] = true then 0 else (if wis c e (spn isB c e x) [102, 114, 105, 101, 110, 100] = true then 1 else (if wis c e (spn isB c e x) [115, 116, 114, 105, 110, 103] = true then 2 else (-1))))))) (jj_S, 782, (jj_rs h [(49, upd (h 49) 4 (nI (spn isB c e x)))]), g)) : jj_R mX10_kindHere (d + 4) kc ks (jj_S, 782, h, g) 0 [(0, .ref 49)] [] Q := by
  have hA : spn isB c e x ≤ e := spn_le hx
  refine rr_aload_n 0 rfl rfl dX10_kindHere_0 ?_
  refine rr_bipush 16 rfl dX10_kindHere_1 ?_
  refine rr_iconst 5 rfl dX10_kindHere_3 ?_
  refine rr_bipush 18 rfl dX10_kindHere_4 ?_
  refine rr_bipush 19 rfl dX10_kindHere_6 ?_
  refine rr_bipush 15 rfl dX10_kindHere_8 ?_
  refine rr_bipush 14 rfl dX10_kindHere_10 ?_
  refine rr_callV (As := [.int 16, .int 5, .int 18, .int 19, .int 15, .int 14]) (rest := []) (kc2 := 0) (ks2 := 0) dX10_kindHere_12 okX10_isWord lX10_147 lo_49 sh_49 rfl rfl (Nat.le_of_ble_eq_true rfl) (Nat.le_of_ble_eq_true rfl) rfl (by omega) (by simp [jj_rk]) (by simp [jj_rk]) ?_
  refine sp_isWord he wk_person hs ha hF hx hf (fun w0 => ?_) (fun w0 => ?_)
  · skip
    show jj_R _ _ kc ks (jj_S, 782, (jj_rs h [(49, upd (h 49) 4 (nI (spn isB c e x)))]), g) 15 [(0, .ref 49)] [.int 1] Q
    refine rr_if_eq dX10_kindHere_15 (fun c => absurd c (by decide)) (fun _ => ?_)
    refine rr_iconst 0 rfl dX10_kindHere_18 ?_
    refine rr_ireturn dX10_kindHere_19 rfl ?_
    simpa only [if_pos w0] using kq
  · skip
    show jj_R _ _ kc ks (jj_S, 782, (jj_rs h [(49, upd (h 49) 4 (nI (spn isB c e x)))]), g) 15 [(0, .ref 49)] [.int 0] Q
    refine rr_if_eq dX10_kindHere_15 (fun _ => ?_) (fun c => absurd rfl c)
    refine rr_aload_n 0 rfl rfl dX10_kindHere_20 ?_
    refine rr_bipush 6 rfl dX10_kindHere_21 ?_
    refine rr_bipush 18 rfl dX10_kindHere_23 ?_
    refine rr_bipush 9 rfl dX10_kindHere_25 ?_
    refine rr_iconst 5 rfl dX10_kindHere_27 ?_
    refine rr_bipush 14 rfl dX10_kindHere_28 ?_
    refine rr_iconst 4 rfl dX10_kindHere_30 ?_
    refine rr_callV (As := [.int 6, .int 18, .int 9, .int 5, .int 14, .int 4]) (rest := []) (kc2 := 0) (ks2 := 0) dX10_kindHere_31 okX10_isWord lX10_147 lo_49 sh_49 rfl rfl (Nat.le_of_ble_eq_true rfl) (Nat.le_of_ble_eq_true rfl) rfl (by omega) (by simp [jj_rk]) (by simp [jj_rk]) ?_
    refine sp_isWord (x := (spn isB c e x)) he wk_friend ((jj_une (by decide)).trans hs) (jj_ueq rfl) hF hA ((jj_une (by decide)).trans hf) (fun w1 => ?_) (fun w1 => ?_)
    · skip
      rw [spn_idem] at w1
      rw [spn_idem, rs_same]
      show jj_R _ _ kc ks (jj_S, 782, (jj_rs h [(49, upd (h 49) 4 (nI (spn isB c e x)))]), g) 34 [(0, .ref 49)] [.int 1] Q
      refine rr_if_eq dX10_kindHere_34 (fun c => absurd c (by decide)) (fun _ => ?_)
      refine rr_iconst 1 rfl dX10_kindHere_37 ?_
      refine rr_ireturn dX10_kindHere_38 rfl ?_
      simpa only [if_neg w0, if_pos w1] using kq
    · skip
      rw [spn_idem] at w1
      rw [spn_idem, rs_same]
      show jj_R _ _ kc ks (jj_S, 782, (jj_rs h [(49, upd (h 49) 4 (nI (spn isB c e x)))]), g) 34 [(0, .ref 49)] [.int 0] Q
      refine rr_if_eq dX10_kindHere_34 (fun _ => ?_) (fun c => absurd rfl c)
      refine rr_aload_n 0 rfl rfl dX10_kindHere_39 ?_
      refine rr_bipush 19 rfl dX10_kindHere_40 ?_
      refine rr_bipush 20 rfl dX10_kindHere_42 ?_
      refine rr_bipush 18 rfl dX10_kindHere_44 ?_
      refine rr_bipush 9 rfl dX10_kindHere_46 ?_
      refine rr_bipush 14 rfl dX10_kindHere_48 ?_
      refine rr_bipush 7 rfl dX10_kindHere_50 ?_
      refine rr_callV (As := [.int 19, .int 20, .int 18, .int 9, .int 14, .int 7]) (rest := []) (kc2 := 0) (ks2 := 0) dX10_kindHere_52 okX10_isWord lX10_147 lo_49 sh_49 rfl rfl (Nat.le_of_ble_eq_true rfl) (Nat.le_of_ble_eq_true rfl) rfl (by omega) (by simp [jj_rk]) (by simp [jj_rk]) ?_
      refine sp_isWord (x := (spn isB c e x)) he wk_string ((jj_une (by decide)).trans hs) (jj_ueq rfl) hF hA ((jj_une (by decide)).trans hf) (fun w2 => ?_) (fun w2 => ?_)
      · skip
        rw [spn_idem] at w2
        rw [spn_idem, rs_same]
        show jj_R _ _ kc ks (jj_S, 782, (jj_rs h [(49, upd (h 49) 4 (nI (spn isB c e x)))]), g) 55 [(0, .ref 49)] [.int 1] Q
        refine rr_if_eq dX10_kindHere_55 (fun c => absurd c (by decide)) (fun _ => ?_)
        refine rr_iconst 2 rfl dX10_kindHere_58 ?_
        refine rr_goto dX10_kindHere_59 ?_
        refine rr_ireturn dX10_kindHere_63 rfl ?_
        simpa only [if_neg w0, if_neg w1, if_pos w2] using kq
      · skip
        rw [spn_idem] at w2
        rw [spn_idem, rs_same]
        show jj_R _ _ kc ks (jj_S, 782, (jj_rs h [(49, upd (h 49) 4 (nI (spn isB c e x)))]), g) 55 [(0, .ref 49)] [.int 0] Q
        refine rr_if_eq dX10_kindHere_55 (fun _ => ?_) (fun c => absurd rfl c)
        refine rr_iconst (-1) rfl dX10_kindHere_62 ?_
        refine rr_ireturn dX10_kindHere_63 rfl ?_
        simpa only [if_neg w0, if_neg w1, if_neg w2] using kq
theorem sp_stepHere {c : Nat → Nat} {e x d kc ks : Nat} {h : Nat → Nat → Int32} {g : Nat → Nat → Int64} {Q : jj_Rs → jj_St → Prop} (he : e ≤ 600) (hs : h 49 2 = nI e) (ha : h 49 4 = nI x) (hF : fedok (h 50) c) (hx : x ≤ e) (hf : h 49 5 = 0) (kq : Q (.inl (some (.int (if wis c e (spn isB c e x) [116, 105, 101] = true then 0 else (if wis c e (spn isB c e x) [100, 111, 117, 98, 108, 101] = true then 1 else (if wis c e (spn isB c e x) [99, 117, 116] = true then 2 else (if wis c e (spn isB c e x) [109, 101, 110, 100] = true then 3 else (if wis c e (spn isB c e x) [117, 110, 100, 111] = true then 4 else (if wis c e (spn isB c e x) [100, 97, 121] = true then 5 else (if wis c e (spn isB c e x) [97, 103, 97, 105, 110] = true then 6 else (-1))))))))))) (jj_S, 782, (jj_rs h [(49, upd (h 49) 4 (nI (spn isB c e x)))]), g)) : jj_R mX10_stepHere (d + 4) kc ks (jj_S, 782, h, g) 0 [(0, .ref 49)] [] Q := by
  have hA : spn isB c e x ≤ e := spn_le hx
  refine rr_aload_n 0 rfl rfl dX10_stepHere_0 ?_
  refine rr_bipush 20 rfl dX10_stepHere_1 ?_
  refine rr_bipush 9 rfl dX10_stepHere_3 ?_
  refine rr_iconst 5 rfl dX10_stepHere_5 ?_
  refine rr_iconst 0 rfl dX10_stepHere_6 ?_
  refine rr_iconst 0 rfl dX10_stepHere_7 ?_
  refine rr_iconst 0 rfl dX10_stepHere_8 ?_
  refine rr_callV (As := [.int 20, .int 9, .int 5, .int 0, .int 0, .int 0]) (rest := []) (kc2 := 0) (ks2 := 0) dX10_stepHere_9 okX10_isWord lX10_147 lo_49 sh_49 rfl rfl (Nat.le_of_ble_eq_true rfl) (Nat.le_of_ble_eq_true rfl) rfl (by omega) (by simp [jj_rk]) (by simp [jj_rk]) ?_
  refine sp_isWord he wk_tie hs ha hF hx hf (fun w0 => ?_) (fun w0 => ?_)
  · skip
    show jj_R _ _ kc ks (jj_S, 782, (jj_rs h [(49, upd (h 49) 4 (nI (spn isB c e x)))]), g) 12 [(0, .ref 49)] [.int 1] Q
    refine rr_if_eq dX10_stepHere_12 (fun c => absurd c (by decide)) (fun _ => ?_)
    refine rr_iconst 0 rfl dX10_stepHere_15 ?_
    refine rr_ireturn dX10_stepHere_16 rfl ?_
    simpa only [if_pos w0] using kq
  · skip
    show jj_R _ _ kc ks (jj_S, 782, (jj_rs h [(49, upd (h 49) 4 (nI (spn isB c e x)))]), g) 12 [(0, .ref 49)] [.int 0] Q
    refine rr_if_eq dX10_stepHere_12 (fun _ => ?_) (fun c => absurd rfl c)
    refine rr_aload_n 0 rfl rfl dX10_stepHere_17 ?_
    refine rr_iconst 4 rfl dX10_stepHere_18 ?_
    refine rr_bipush 15 rfl dX10_stepHere_19 ?_
    refine rr_bipush 21 rfl dX10_stepHere_21 ?_
    refine rr_iconst 2 rfl dX10_stepHere_23 ?_
    refine rr_bipush 12 rfl dX10_stepHere_24 ?_
    refine rr_iconst 5 rfl dX10_stepHere_26 ?_
    refine rr_callV (As := [.int 4, .int 15, .int 21, .int 2, .int 12, .int 5]) (rest := []) (kc2 := 0) (ks2 := 0) dX10_stepHere_27 okX10_isWord lX10_147 lo_49 sh_49 rfl rfl (Nat.le_of_ble_eq_true rfl) (Nat.le_of_ble_eq_true rfl) rfl (by omega) (by simp [jj_rk]) (by simp [jj_rk]) ?_
    refine sp_isWord (x := (spn isB c e x)) he wk_double ((jj_une (by decide)).trans hs) (jj_ueq rfl) hF hA ((jj_une (by decide)).trans hf) (fun w1 => ?_) (fun w1 => ?_)
    · skip
      rw [spn_idem] at w1
      rw [spn_idem, rs_same]
      show jj_R _ _ kc ks (jj_S, 782, (jj_rs h [(49, upd (h 49) 4 (nI (spn isB c e x)))]), g) 30 [(0, .ref 49)] [.int 1] Q
      refine rr_if_eq dX10_stepHere_30 (fun c => absurd c (by decide)) (fun _ => ?_)
      refine rr_iconst 1 rfl dX10_stepHere_33 ?_
      refine rr_ireturn dX10_stepHere_34 rfl ?_
      simpa only [if_neg w0, if_pos w1] using kq
    · skip
      rw [spn_idem] at w1
      rw [spn_idem, rs_same]
      show jj_R _ _ kc ks (jj_S, 782, (jj_rs h [(49, upd (h 49) 4 (nI (spn isB c e x)))]), g) 30 [(0, .ref 49)] [.int 0] Q
      refine rr_if_eq dX10_stepHere_30 (fun _ => ?_) (fun c => absurd rfl c)
      refine rr_aload_n 0 rfl rfl dX10_stepHere_35 ?_
      refine rr_iconst 3 rfl dX10_stepHere_36 ?_
      refine rr_bipush 21 rfl dX10_stepHere_37 ?_
      refine rr_bipush 20 rfl dX10_stepHere_39 ?_
      refine rr_iconst 0 rfl dX10_stepHere_41 ?_
      refine rr_iconst 0 rfl dX10_stepHere_42 ?_
      refine rr_iconst 0 rfl dX10_stepHere_43 ?_
      refine rr_callV (As := [.int 3, .int 21, .int 20, .int 0, .int 0, .int 0]) (rest := []) (kc2 := 0) (ks2 := 0) dX10_stepHere_44 okX10_isWord lX10_147 lo_49 sh_49 rfl rfl (Nat.le_of_ble_eq_true rfl) (Nat.le_of_ble_eq_true rfl) rfl (by omega) (by simp [jj_rk]) (by simp [jj_rk]) ?_
      refine sp_isWord (x := (spn isB c e x)) he wk_cut ((jj_une (by decide)).trans hs) (jj_ueq rfl) hF hA ((jj_une (by decide)).trans hf) (fun w2 => ?_) (fun w2 => ?_)
      · skip
        rw [spn_idem] at w2
        rw [spn_idem, rs_same]
        show jj_R _ _ kc ks (jj_S, 782, (jj_rs h [(49, upd (h 49) 4 (nI (spn isB c e x)))]), g) 47 [(0, .ref 49)] [.int 1] Q
        refine rr_if_eq dX10_stepHere_47 (fun c => absurd c (by decide)) (fun _ => ?_)
        refine rr_iconst 2 rfl dX10_stepHere_50 ?_
        refine rr_ireturn dX10_stepHere_51 rfl ?_
        simpa only [if_neg w0, if_neg w1, if_pos w2] using kq
      · skip
        rw [spn_idem] at w2
        rw [spn_idem, rs_same]
        show jj_R _ _ kc ks (jj_S, 782, (jj_rs h [(49, upd (h 49) 4 (nI (spn isB c e x)))]), g) 47 [(0, .ref 49)] [.int 0] Q
        refine rr_if_eq dX10_stepHere_47 (fun _ => ?_) (fun c => absurd rfl c)
        refine rr_aload_n 0 rfl rfl dX10_stepHere_52 ?_
        refine rr_bipush 13 rfl dX10_stepHere_53 ?_
        refine rr_iconst 5 rfl dX10_stepHere_55 ?_
        refine rr_bipush 14 rfl dX10_stepHere_56 ?_
        refine rr_iconst 4 rfl dX10_stepHere_58 ?_
        refine rr_iconst 0 rfl dX10_stepHere_59 ?_
        refine rr_iconst 0 rfl dX10_stepHere_60 ?_
        refine rr_callV (As := [.int 13, .int 5, .int 14, .int 4, .int 0, .int 0]) (rest := []) (kc2 := 0) (ks2 := 0) dX10_stepHere_61 okX10_isWord lX10_147 lo_49 sh_49 rfl rfl (Nat.le_of_ble_eq_true rfl) (Nat.le_of_ble_eq_true rfl) rfl (by omega) (by simp [jj_rk]) (by simp [jj_rk]) ?_
        refine sp_isWord (x := (spn isB c e x)) he wk_mend ((jj_une (by decide)).trans hs) (jj_ueq rfl) hF hA ((jj_une (by decide)).trans hf) (fun w3 => ?_) (fun w3 => ?_)
        · skip
          rw [spn_idem] at w3
          rw [spn_idem, rs_same]
          show jj_R _ _ kc ks (jj_S, 782, (jj_rs h [(49, upd (h 49) 4 (nI (spn isB c e x)))]), g) 64 [(0, .ref 49)] [.int 1] Q
          refine rr_if_eq dX10_stepHere_64 (fun c => absurd c (by decide)) (fun _ => ?_)
          refine rr_iconst 3 rfl dX10_stepHere_67 ?_
          refine rr_ireturn dX10_stepHere_68 rfl ?_
          simpa only [if_neg w0, if_neg w1, if_neg w2, if_pos w3] using kq
        · skip
          rw [spn_idem] at w3
          rw [spn_idem, rs_same]
          show jj_R _ _ kc ks (jj_S, 782, (jj_rs h [(49, upd (h 49) 4 (nI (spn isB c e x)))]), g) 64 [(0, .ref 49)] [.int 0] Q
          refine rr_if_eq dX10_stepHere_64 (fun _ => ?_) (fun c => absurd rfl c)
          refine rr_aload_n 0 rfl rfl dX10_stepHere_69 ?_
          refine rr_bipush 21 rfl dX10_stepHere_70 ?_
          refine rr_bipush 14 rfl dX10_stepHere_72 ?_
          refine rr_iconst 4 rfl dX10_stepHere_74 ?_
          refine rr_bipush 15 rfl dX10_stepHere_75 ?_
          refine rr_iconst 0 rfl dX10_stepHere_77 ?_
          refine rr_iconst 0 rfl dX10_stepHere_78 ?_
          refine rr_callV (As := [.int 21, .int 14, .int 4, .int 15, .int 0, .int 0]) (rest := []) (kc2 := 0) (ks2 := 0) dX10_stepHere_79 okX10_isWord lX10_147 lo_49 sh_49 rfl rfl (Nat.le_of_ble_eq_true rfl) (Nat.le_of_ble_eq_true rfl) rfl (by omega) (by simp [jj_rk]) (by simp [jj_rk]) ?_
          refine sp_isWord (x := (spn isB c e x)) he wk_undo ((jj_une (by decide)).trans hs) (jj_ueq rfl) hF hA ((jj_une (by decide)).trans hf) (fun w4 => ?_) (fun w4 => ?_)
          · skip
            rw [spn_idem] at w4
            rw [spn_idem, rs_same]
            show jj_R _ _ kc ks (jj_S, 782, (jj_rs h [(49, upd (h 49) 4 (nI (spn isB c e x)))]), g) 82 [(0, .ref 49)] [.int 1] Q
            refine rr_if_eq dX10_stepHere_82 (fun c => absurd c (by decide)) (fun _ => ?_)
            refine rr_iconst 4 rfl dX10_stepHere_85 ?_
            refine rr_ireturn dX10_stepHere_86 rfl ?_
            simpa only [if_neg w0, if_neg w1, if_neg w2, if_neg w3, if_pos w4] using kq
          · skip
            rw [spn_idem] at w4
            rw [spn_idem, rs_same]
            show jj_R _ _ kc ks (jj_S, 782, (jj_rs h [(49, upd (h 49) 4 (nI (spn isB c e x)))]), g) 82 [(0, .ref 49)] [.int 0] Q
            refine rr_if_eq dX10_stepHere_82 (fun _ => ?_) (fun c => absurd rfl c)
            refine rr_aload_n 0 rfl rfl dX10_stepHere_87 ?_
            refine rr_iconst 4 rfl dX10_stepHere_88 ?_
            refine rr_iconst 1 rfl dX10_stepHere_89 ?_
            refine rr_bipush 25 rfl dX10_stepHere_90 ?_
            refine rr_iconst 0 rfl dX10_stepHere_92 ?_
            refine rr_iconst 0 rfl dX10_stepHere_93 ?_
            refine rr_iconst 0 rfl dX10_stepHere_94 ?_
            refine rr_callV (As := [.int 4, .int 1, .int 25, .int 0, .int 0, .int 0]) (rest := []) (kc2 := 0) (ks2 := 0) dX10_stepHere_95 okX10_isWord lX10_147 lo_49 sh_49 rfl rfl (Nat.le_of_ble_eq_true rfl) (Nat.le_of_ble_eq_true rfl) rfl (by omega) (by simp [jj_rk]) (by simp [jj_rk]) ?_
            refine sp_isWord (x := (spn isB c e x)) he wk_day ((jj_une (by decide)).trans hs) (jj_ueq rfl) hF hA ((jj_une (by decide)).trans hf) (fun w5 => ?_) (fun w5 => ?_)
            · skip
              rw [spn_idem] at w5
              rw [spn_idem, rs_same]
              show jj_R _ _ kc ks (jj_S, 782, (jj_rs h [(49, upd (h 49) 4 (nI (spn isB c e x)))]), g) 98 [(0, .ref 49)] [.int 1] Q
              refine rr_if_eq dX10_stepHere_98 (fun c => absurd c (by decide)) (fun _ => ?_)
              refine rr_iconst 5 rfl dX10_stepHere_101 ?_
              refine rr_ireturn dX10_stepHere_102 rfl ?_
              simpa only [if_neg w0, if_neg w1, if_neg w2, if_neg w3, if_neg w4, if_pos w5] using kq
            · skip
              rw [spn_idem] at w5
              rw [spn_idem, rs_same]
              show jj_R _ _ kc ks (jj_S, 782, (jj_rs h [(49, upd (h 49) 4 (nI (spn isB c e x)))]), g) 98 [(0, .ref 49)] [.int 0] Q
              refine rr_if_eq dX10_stepHere_98 (fun _ => ?_) (fun c => absurd rfl c)
              refine rr_aload_n 0 rfl rfl dX10_stepHere_103 ?_
              refine rr_iconst 1 rfl dX10_stepHere_104 ?_
              refine rr_bipush 7 rfl dX10_stepHere_105 ?_
              refine rr_iconst 1 rfl dX10_stepHere_107 ?_
              refine rr_bipush 9 rfl dX10_stepHere_108 ?_
              refine rr_bipush 14 rfl dX10_stepHere_110 ?_
              refine rr_iconst 0 rfl dX10_stepHere_112 ?_
              refine rr_callV (As := [.int 1, .int 7, .int 1, .int 9, .int 14, .int 0]) (rest := []) (kc2 := 0) (ks2 := 0) dX10_stepHere_113 okX10_isWord lX10_147 lo_49 sh_49 rfl rfl (Nat.le_of_ble_eq_true rfl) (Nat.le_of_ble_eq_true rfl) rfl (by omega) (by simp [jj_rk]) (by simp [jj_rk]) ?_
              refine sp_isWord (x := (spn isB c e x)) he wk_again ((jj_une (by decide)).trans hs) (jj_ueq rfl) hF hA ((jj_une (by decide)).trans hf) (fun w6 => ?_) (fun w6 => ?_)
              · skip
                rw [spn_idem] at w6
                rw [spn_idem, rs_same]
                show jj_R _ _ kc ks (jj_S, 782, (jj_rs h [(49, upd (h 49) 4 (nI (spn isB c e x)))]), g) 116 [(0, .ref 49)] [.int 1] Q
                refine rr_if_eq dX10_stepHere_116 (fun c => absurd c (by decide)) (fun _ => ?_)
                refine rr_bipush 6 rfl dX10_stepHere_119 ?_
                refine rr_goto dX10_stepHere_121 ?_
                refine rr_ireturn dX10_stepHere_125 rfl ?_
                simpa only [if_neg w0, if_neg w1, if_neg w2, if_neg w3, if_neg w4, if_neg w5, if_pos w6] using kq
              · skip
                rw [spn_idem] at w6
                rw [spn_idem, rs_same]
                show jj_R _ _ kc ks (jj_S, 782, (jj_rs h [(49, upd (h 49) 4 (nI (spn isB c e x)))]), g) 116 [(0, .ref 49)] [.int 0] Q
                refine rr_if_eq dX10_stepHere_116 (fun _ => ?_) (fun c => absurd rfl c)
                refine rr_iconst (-1) rfl dX10_stepHere_124 ?_
                refine rr_ireturn dX10_stepHere_125 rfl ?_
                simpa only [if_neg w0, if_neg w1, if_neg w2, if_neg w3, if_neg w4, if_neg w5, if_neg w6] using kq
theorem sp_takesSeven {c : Nat → Nat} {e x d kc ks : Nat} {h : Nat → Nat → Int32} {g : Nat → Nat → Int64} {Q : jj_Rs → jj_St → Prop} (he : e ≤ 600) (hs : h 49 2 = nI e) (ha : h 49 4 = nI x) (hF : fedok (h 50) c) (hx : x ≤ e) (hf : h 49 5 = 0) (k1 : wis c e (spn isB c e x) [102, 105, 110, 103, 101, 114, 115] = true → Q (.inl (some (.int 1))) (jj_S, 782, (jj_rs h [(49, upd (h 49) 4 (nI (nx c e (spn isB c e x))))]), g)) (k2 : ¬ wis c e (spn isB c e x) [102, 105, 110, 103, 101, 114, 115] = true → Q (.inl (some (.int 0))) (jj_S, 782, (jj_rs h [(49, upd (h 49) 4 (nI (spn isB c e x)))]), g)) : jj_R mX10_takesSeven (d + 2) kc ks (jj_S, 782, h, g) 0 [(0, .ref 49), (1, .int (nI (w27 [102, 105, 110, 103, 101, 114]))), (2, .int 19)] [] Q := by
  have hA : spn isB c e x ≤ e := spn_le hx
  refine rr_aload_n 0 rfl rfl dX10_takesSeven_0 ?_
  refine rr_callV (As := []) (rest := []) (kc2 := 0) (ks2 := 0) dX10_takesSeven_1 okX10_blanks lX10_117 lo_49 sh_49 rfl rfl (Nat.le_of_ble_eq_true rfl) (Nat.le_of_ble_eq_true rfl) rfl (by omega) (by simp [jj_rk]) (by simp [jj_rk]) ?_
  refine sp_blanks he hs ha hF (by omega) ?_
  show jj_R _ _ kc ks (jj_S, 782, (jj_rs h [(49, upd (h 49) 4 (nI (spn isB c e x)))]), g) 4 [(0, .ref 49), (1, .int (nI (w27 [102, 105, 110, 103, 101, 114]))), (2, .int 19)] [] Q
  refine rr_iconst 0 rfl dX10_takesSeven_4 ?_
  refine rr_istore_n [(0, .ref 49), (1, .int (nI (w27 [102, 105, 110, 103, 101, 114]))), (2, .int 19), (3, .int 0)] dX10_takesSeven_5 rfl (by decide) rfl ?_
  refine rr_iconst 0 rfl dX10_takesSeven_6 ?_
  refine rr_istore [(0, .ref 49), (1, .int (nI (w27 [102, 105, 110, 103, 101, 114]))), (2, .int 19), (3, .int 0), (4, .int 0)] dX10_takesSeven_7 (by decide) rfl ?_
  refine sp_tsL (a := spn isB c e x) (k := 0) (d := d + 1) he (e - (spn isB c e x)) (by omega) ((jj_une (by decide)).trans hs) (jj_ueq rfl) hF (by omega) (fun i hi => absurd hi (Nat.not_lt_zero i)) ?_
  refine ts_end (a := spn isB c e x) he ((jj_une (by decide)).trans hs) (jj_ueq rfl) hF hA ((jj_une (by decide)).trans hf) (fun w => ?_) k2
  rw [rs_to]
  exact k1 w
