/-- which value of a LAW the word at a names -/
def kv (c : Nat → Nat) (e a : Nat) : Int32 := if wis c e a [102, 105, 110, 103, 101, 114, 115] = true then 0 else (if wis c e a [104, 97, 115, 116, 101] = true then 1 else (if wis c e a [98, 101, 104, 105, 110, 100] = true then 2 else (if wis c e a [100, 111, 117, 98, 108, 101] = true then 3 else (if wis c e a [102, 114, 105, 101, 110, 100] = true then 4 else (if wis c e a [115, 101, 108, 102] = true then 5 else (if wis c e a [115, 108, 105, 112, 115] = true then 6 else (if wis c e a [100, 97, 121] = true then 7 else (-1))))))))
theorem sp_knownHere {c : Nat → Nat} {e x d kc ks : Nat} {h : Nat → Nat → Int32} {g : Nat → Nat → Int64} {Q : jj_Rs → jj_St → Prop} (he : e ≤ 600) (hs : h 49 2 = nI e) (ha : h 49 4 = nI x) (hF : fedok (h 50) c) (hx : x ≤ e) (hf : h 49 5 = 0) (k1 : ¬ kv c e (spn isB c e x) = -1 → Q (.inl (some (.int (kv c e (spn isB c e x))))) (jj_S, 782, (jj_rs h [(49, upd (h 49) 4 (nI (nx c e (spn isB c e x))))]), g)) (k2 : kv c e (spn isB c e x) = -1 → Q (.inl (some (.int (-1)))) (jj_S, 782, (jj_rs h [(49, upd (h 49) 4 (nI (spn isB c e x)))]), g)) : jj_R mX10_knownHere (d + 5) kc ks (jj_S, 782, h, g) 0 [(0, .ref 49)] [] Q := by
  have hA : spn isB c e x ≤ e := spn_le hx
  refine rr_aload_n 0 rfl rfl dX10_knownHere_0 ?_
  refine rr_bipush 6 rfl dX10_knownHere_1 ?_
  refine rr_bipush 9 rfl dX10_knownHere_3 ?_
  refine rr_bipush 14 rfl dX10_knownHere_5 ?_
  refine rr_bipush 7 rfl dX10_knownHere_7 ?_
  refine rr_iconst 5 rfl dX10_knownHere_9 ?_
  refine rr_bipush 18 rfl dX10_knownHere_10 ?_
  refine rr_callS (As := [.int 6, .int 9, .int 14, .int 7, .int 5, .int 18]) (rest := [.ref 49]) (kc2 := 0) (ks2 := 0) dX10_knownHere_12 okX10_six lX10_140 rfl (Nat.le_of_ble_eq_true rfl) (Nat.le_of_ble_eq_true rfl) rfl (by omega) (by simp [jj_rk]) (by simp [jj_rk]) ?_
  refine sp_X10_six ?_
  rw [show vX10_six 6 9 14 7 5 18 = (nI (w27 [102, 105, 110, 103, 101, 114])) from by decide +kernel]
  show jj_R _ _ kc ks (jj_S, 782, h, g) 15 [(0, .ref 49)] [.int (nI (w27 [102, 105, 110, 103, 101, 114])), .ref 49] Q
  refine rr_bipush 19 rfl dX10_knownHere_15 ?_
  refine rr_callV (As := [.int (nI (w27 [102, 105, 110, 103, 101, 114])), .int 19]) (rest := []) (kc2 := 0) (ks2 := 0) dX10_knownHere_17 okX10_takesSeven lX10_218 lo_49 sh_49 rfl rfl (Nat.le_of_ble_eq_true rfl) (Nat.le_of_ble_eq_true rfl) rfl (by omega) (by simp [jj_rk]) (by simp [jj_rk]) ?_
  refine sp_takesSeven (d := d + 2) he hs ha hF hx hf (fun w0 => ?_) (fun w0 => ?_)
  · show jj_R _ _ kc ks (jj_S, 782, (jj_rs h [(49, upd (h 49) 4 (nI (nx c e (spn isB c e x))))]), g) 20 [(0, .ref 49)] [.int 1] Q
    refine rr_if_eq dX10_knownHere_20 (fun c => absurd c (by decide)) (fun _ => ?_)
    refine rr_iconst 0 rfl dX10_knownHere_23 ?_
    refine rr_ireturn dX10_knownHere_24 rfl ?_
    have e9 : kv c e (spn isB c e x) = 0 := by unfold kv; rw [if_pos w0]
    have z9 := k1 (by rw [e9]; decide)
    rw [e9] at z9
    exact z9
  · show jj_R _ _ kc ks (jj_S, 782, (jj_rs h [(49, upd (h 49) 4 (nI (spn isB c e x)))]), g) 20 [(0, .ref 49)] [.int 0] Q
    refine rr_if_eq dX10_knownHere_20 (fun _ => ?_) (fun c => absurd rfl c)
    refine rr_aload_n 0 rfl rfl dX10_knownHere_25 ?_
    refine rr_bipush 8 rfl dX10_knownHere_26 ?_
    refine rr_iconst 1 rfl dX10_knownHere_28 ?_
    refine rr_bipush 19 rfl dX10_knownHere_29 ?_
    refine rr_bipush 20 rfl dX10_knownHere_31 ?_
    refine rr_iconst 5 rfl dX10_knownHere_33 ?_
    refine rr_iconst 0 rfl dX10_knownHere_34 ?_
    refine rr_callV (As := [.int 8, .int 1, .int 19, .int 20, .int 5, .int 0]) (rest := []) (kc2 := 0) (ks2 := 0) dX10_knownHere_35 okX10_takes lX10_222 lo_49 sh_49 rfl rfl (Nat.le_of_ble_eq_true rfl) (Nat.le_of_ble_eq_true rfl) rfl (by omega) (by simp [jj_rk]) (by simp [jj_rk]) ?_
    refine sp_takes (x := (spn isB c e x)) he wk_haste ((jj_une (by decide)).trans hs) (jj_ueq rfl) hF hA ((jj_une (by decide)).trans hf) (fun w1 => ?_) (fun w1 => ?_)
    · skip
      rw [spn_idem] at w1
      rw [spn_idem, rs_to]
      show jj_R _ _ kc ks (jj_S, 782, (jj_rs h [(49, upd (h 49) 4 (nI (nx c e (spn isB c e x))))]), g) 38 [(0, .ref 49)] [.int 1] Q
      refine rr_if_eq dX10_knownHere_38 (fun c => absurd c (by decide)) (fun _ => ?_)
      refine rr_iconst 1 rfl dX10_knownHere_41 ?_
      refine rr_ireturn dX10_knownHere_42 rfl ?_
      have e9 : kv c e (spn isB c e x) = 1 := by unfold kv; rw [if_neg w0, if_pos w1]
      have z9 := k1 (by rw [e9]; decide)
      rw [e9] at z9
      exact z9
    · skip
      rw [spn_idem] at w1
      rw [spn_idem, rs_same]
      show jj_R _ _ kc ks (jj_S, 782, (jj_rs h [(49, upd (h 49) 4 (nI (spn isB c e x)))]), g) 38 [(0, .ref 49)] [.int 0] Q
      refine rr_if_eq dX10_knownHere_38 (fun _ => ?_) (fun c => absurd rfl c)
      refine rr_aload_n 0 rfl rfl dX10_knownHere_43 ?_
      refine rr_iconst 2 rfl dX10_knownHere_44 ?_
      refine rr_iconst 5 rfl dX10_knownHere_45 ?_
      refine rr_bipush 8 rfl dX10_knownHere_46 ?_
      refine rr_bipush 9 rfl dX10_knownHere_48 ?_
      refine rr_bipush 14 rfl dX10_knownHere_50 ?_
      refine rr_iconst 4 rfl dX10_knownHere_52 ?_
      refine rr_callV (As := [.int 2, .int 5, .int 8, .int 9, .int 14, .int 4]) (rest := []) (kc2 := 0) (ks2 := 0) dX10_knownHere_53 okX10_takes lX10_222 lo_49 sh_49 rfl rfl (Nat.le_of_ble_eq_true rfl) (Nat.le_of_ble_eq_true rfl) rfl (by omega) (by simp [jj_rk]) (by simp [jj_rk]) ?_
      refine sp_takes (x := (spn isB c e x)) he wk_behind ((jj_une (by decide)).trans hs) (jj_ueq rfl) hF hA ((jj_une (by decide)).trans hf) (fun w2 => ?_) (fun w2 => ?_)
      · skip
        rw [spn_idem] at w2
        rw [spn_idem, rs_to]
        show jj_R _ _ kc ks (jj_S, 782, (jj_rs h [(49, upd (h 49) 4 (nI (nx c e (spn isB c e x))))]), g) 56 [(0, .ref 49)] [.int 1] Q
        refine rr_if_eq dX10_knownHere_56 (fun c => absurd c (by decide)) (fun _ => ?_)
        refine rr_iconst 2 rfl dX10_knownHere_59 ?_
        refine rr_ireturn dX10_knownHere_60 rfl ?_
        have e9 : kv c e (spn isB c e x) = 2 := by unfold kv; rw [if_neg w0, if_neg w1, if_pos w2]
        have z9 := k1 (by rw [e9]; decide)
        rw [e9] at z9
        exact z9
      · skip
        rw [spn_idem] at w2
        rw [spn_idem, rs_same]
        show jj_R _ _ kc ks (jj_S, 782, (jj_rs h [(49, upd (h 49) 4 (nI (spn isB c e x)))]), g) 56 [(0, .ref 49)] [.int 0] Q
        refine rr_if_eq dX10_knownHere_56 (fun _ => ?_) (fun c => absurd rfl c)
        refine rr_aload_n 0 rfl rfl dX10_knownHere_61 ?_
        refine rr_iconst 4 rfl dX10_knownHere_62 ?_
        refine rr_bipush 15 rfl dX10_knownHere_63 ?_
        refine rr_bipush 21 rfl dX10_knownHere_65 ?_
        refine rr_iconst 2 rfl dX10_knownHere_67 ?_
        refine rr_bipush 12 rfl dX10_knownHere_68 ?_
        refine rr_iconst 5 rfl dX10_knownHere_70 ?_
        refine rr_callV (As := [.int 4, .int 15, .int 21, .int 2, .int 12, .int 5]) (rest := []) (kc2 := 0) (ks2 := 0) dX10_knownHere_71 okX10_takes lX10_222 lo_49 sh_49 rfl rfl (Nat.le_of_ble_eq_true rfl) (Nat.le_of_ble_eq_true rfl) rfl (by omega) (by simp [jj_rk]) (by simp [jj_rk]) ?_
        refine sp_takes (x := (spn isB c e x)) he wk_double ((jj_une (by decide)).trans hs) (jj_ueq rfl) hF hA ((jj_une (by decide)).trans hf) (fun w3 => ?_) (fun w3 => ?_)
        · skip
          rw [spn_idem] at w3
          rw [spn_idem, rs_to]
          show jj_R _ _ kc ks (jj_S, 782, (jj_rs h [(49, upd (h 49) 4 (nI (nx c e (spn isB c e x))))]), g) 74 [(0, .ref 49)] [.int 1] Q
          refine rr_if_eq dX10_knownHere_74 (fun c => absurd c (by decide)) (fun _ => ?_)
          refine rr_iconst 3 rfl dX10_knownHere_77 ?_
          refine rr_ireturn dX10_knownHere_78 rfl ?_
          have e9 : kv c e (spn isB c e x) = 3 := by unfold kv; rw [if_neg w0, if_neg w1, if_neg w2, if_pos w3]
          have z9 := k1 (by rw [e9]; decide)
          rw [e9] at z9
          exact z9
        · skip
          rw [spn_idem] at w3
          rw [spn_idem, rs_same]
          show jj_R _ _ kc ks (jj_S, 782, (jj_rs h [(49, upd (h 49) 4 (nI (spn isB c e x)))]), g) 74 [(0, .ref 49)] [.int 0] Q
          refine rr_if_eq dX10_knownHere_74 (fun _ => ?_) (fun c => absurd rfl c)
          refine rr_aload_n 0 rfl rfl dX10_knownHere_79 ?_
          refine rr_bipush 6 rfl dX10_knownHere_80 ?_
          refine rr_bipush 18 rfl dX10_knownHere_82 ?_
          refine rr_bipush 9 rfl dX10_knownHere_84 ?_
          refine rr_iconst 5 rfl dX10_knownHere_86 ?_
          refine rr_bipush 14 rfl dX10_knownHere_87 ?_
          refine rr_iconst 4 rfl dX10_knownHere_89 ?_
          refine rr_callV (As := [.int 6, .int 18, .int 9, .int 5, .int 14, .int 4]) (rest := []) (kc2 := 0) (ks2 := 0) dX10_knownHere_90 okX10_takes lX10_222 lo_49 sh_49 rfl rfl (Nat.le_of_ble_eq_true rfl) (Nat.le_of_ble_eq_true rfl) rfl (by omega) (by simp [jj_rk]) (by simp [jj_rk]) ?_
          refine sp_takes (x := (spn isB c e x)) he wk_friend ((jj_une (by decide)).trans hs) (jj_ueq rfl) hF hA ((jj_une (by decide)).trans hf) (fun w4 => ?_) (fun w4 => ?_)
          · skip
            rw [spn_idem] at w4
            rw [spn_idem, rs_to]
            show jj_R _ _ kc ks (jj_S, 782, (jj_rs h [(49, upd (h 49) 4 (nI (nx c e (spn isB c e x))))]), g) 93 [(0, .ref 49)] [.int 1] Q
            refine rr_if_eq dX10_knownHere_93 (fun c => absurd c (by decide)) (fun _ => ?_)
            refine rr_iconst 4 rfl dX10_knownHere_96 ?_
            refine rr_ireturn dX10_knownHere_97 rfl ?_
            have e9 : kv c e (spn isB c e x) = 4 := by unfold kv; rw [if_neg w0, if_neg w1, if_neg w2, if_neg w3, if_pos w4]
            have z9 := k1 (by rw [e9]; decide)
            rw [e9] at z9
            exact z9
          · skip
            rw [spn_idem] at w4
            rw [spn_idem, rs_same]
            show jj_R _ _ kc ks (jj_S, 782, (jj_rs h [(49, upd (h 49) 4 (nI (spn isB c e x)))]), g) 93 [(0, .ref 49)] [.int 0] Q
            refine rr_if_eq dX10_knownHere_93 (fun _ => ?_) (fun c => absurd rfl c)
            refine rr_aload_n 0 rfl rfl dX10_knownHere_98 ?_
            refine rr_bipush 19 rfl dX10_knownHere_99 ?_
            refine rr_iconst 5 rfl dX10_knownHere_101 ?_
            refine rr_bipush 12 rfl dX10_knownHere_102 ?_
            refine rr_bipush 6 rfl dX10_knownHere_104 ?_
            refine rr_iconst 0 rfl dX10_knownHere_106 ?_
            refine rr_iconst 0 rfl dX10_knownHere_107 ?_
            refine rr_callV (As := [.int 19, .int 5, .int 12, .int 6, .int 0, .int 0]) (rest := []) (kc2 := 0) (ks2 := 0) dX10_knownHere_108 okX10_takes lX10_222 lo_49 sh_49 rfl rfl (Nat.le_of_ble_eq_true rfl) (Nat.le_of_ble_eq_true rfl) rfl (by omega) (by simp [jj_rk]) (by simp [jj_rk]) ?_
            refine sp_takes (x := (spn isB c e x)) he wk_self ((jj_une (by decide)).trans hs) (jj_ueq rfl) hF hA ((jj_une (by decide)).trans hf) (fun w5 => ?_) (fun w5 => ?_)
            · skip
              rw [spn_idem] at w5
              rw [spn_idem, rs_to]
              show jj_R _ _ kc ks (jj_S, 782, (jj_rs h [(49, upd (h 49) 4 (nI (nx c e (spn isB c e x))))]), g) 111 [(0, .ref 49)] [.int 1] Q
              refine rr_if_eq dX10_knownHere_111 (fun c => absurd c (by decide)) (fun _ => ?_)
              refine rr_iconst 5 rfl dX10_knownHere_114 ?_
              refine rr_ireturn dX10_knownHere_115 rfl ?_
              have e9 : kv c e (spn isB c e x) = 5 := by unfold kv; rw [if_neg w0, if_neg w1, if_neg w2, if_neg w3, if_neg w4, if_pos w5]
              have z9 := k1 (by rw [e9]; decide)
              rw [e9] at z9
              exact z9
            · skip
              rw [spn_idem] at w5
              rw [spn_idem, rs_same]
              show jj_R _ _ kc ks (jj_S, 782, (jj_rs h [(49, upd (h 49) 4 (nI (spn isB c e x)))]), g) 111 [(0, .ref 49)] [.int 0] Q
              refine rr_if_eq dX10_knownHere_111 (fun _ => ?_) (fun c => absurd rfl c)
              refine rr_aload_n 0 rfl rfl dX10_knownHere_116 ?_
              refine rr_bipush 19 rfl dX10_knownHere_117 ?_
              refine rr_bipush 12 rfl dX10_knownHere_119 ?_
              refine rr_bipush 9 rfl dX10_knownHere_121 ?_
              refine rr_bipush 16 rfl dX10_knownHere_123 ?_
              refine rr_bipush 19 rfl dX10_knownHere_125 ?_
              refine rr_iconst 0 rfl dX10_knownHere_127 ?_
              refine rr_callV (As := [.int 19, .int 12, .int 9, .int 16, .int 19, .int 0]) (rest := []) (kc2 := 0) (ks2 := 0) dX10_knownHere_128 okX10_takes lX10_222 lo_49 sh_49 rfl rfl (Nat.le_of_ble_eq_true rfl) (Nat.le_of_ble_eq_true rfl) rfl (by omega) (by simp [jj_rk]) (by simp [jj_rk]) ?_
              refine sp_takes (x := (spn isB c e x)) he wk_slips ((jj_une (by decide)).trans hs) (jj_ueq rfl) hF hA ((jj_une (by decide)).trans hf) (fun w6 => ?_) (fun w6 => ?_)
              · skip
                rw [spn_idem] at w6
                rw [spn_idem, rs_to]
                show jj_R _ _ kc ks (jj_S, 782, (jj_rs h [(49, upd (h 49) 4 (nI (nx c e (spn isB c e x))))]), g) 131 [(0, .ref 49)] [.int 1] Q
                refine rr_if_eq dX10_knownHere_131 (fun c => absurd c (by decide)) (fun _ => ?_)
                refine rr_bipush 6 rfl dX10_knownHere_134 ?_
                refine rr_ireturn dX10_knownHere_136 rfl ?_
                have e9 : kv c e (spn isB c e x) = 6 := by unfold kv; rw [if_neg w0, if_neg w1, if_neg w2, if_neg w3, if_neg w4, if_neg w5, if_pos w6]
                have z9 := k1 (by rw [e9]; decide)
                rw [e9] at z9
                exact z9
              · skip
                rw [spn_idem] at w6
                rw [spn_idem, rs_same]
                show jj_R _ _ kc ks (jj_S, 782, (jj_rs h [(49, upd (h 49) 4 (nI (spn isB c e x)))]), g) 131 [(0, .ref 49)] [.int 0] Q
                refine rr_if_eq dX10_knownHere_131 (fun _ => ?_) (fun c => absurd rfl c)
                refine rr_aload_n 0 rfl rfl dX10_knownHere_137 ?_
                refine rr_iconst 4 rfl dX10_knownHere_138 ?_
                refine rr_iconst 1 rfl dX10_knownHere_139 ?_
                refine rr_bipush 25 rfl dX10_knownHere_140 ?_
                refine rr_iconst 0 rfl dX10_knownHere_142 ?_
                refine rr_iconst 0 rfl dX10_knownHere_143 ?_
                refine rr_iconst 0 rfl dX10_knownHere_144 ?_
                refine rr_callV (As := [.int 4, .int 1, .int 25, .int 0, .int 0, .int 0]) (rest := []) (kc2 := 0) (ks2 := 0) dX10_knownHere_145 okX10_takes lX10_222 lo_49 sh_49 rfl rfl (Nat.le_of_ble_eq_true rfl) (Nat.le_of_ble_eq_true rfl) rfl (by omega) (by simp [jj_rk]) (by simp [jj_rk]) ?_
                refine sp_takes (x := (spn isB c e x)) he wk_day ((jj_une (by decide)).trans hs) (jj_ueq rfl) hF hA ((jj_une (by decide)).trans hf) (fun w7 => ?_) (fun w7 => ?_)
                · skip
                  rw [spn_idem] at w7
                  rw [spn_idem, rs_to]
                  show jj_R _ _ kc ks (jj_S, 782, (jj_rs h [(49, upd (h 49) 4 (nI (nx c e (spn isB c e x))))]), g) 148 [(0, .ref 49)] [.int 1] Q
                  refine rr_if_eq dX10_knownHere_148 (fun c => absurd c (by decide)) (fun _ => ?_)
                  refine rr_bipush 7 rfl dX10_knownHere_151 ?_
                  refine rr_goto dX10_knownHere_153 ?_
                  refine rr_ireturn dX10_knownHere_157 rfl ?_
                  have e9 : kv c e (spn isB c e x) = 7 := by unfold kv; rw [if_neg w0, if_neg w1, if_neg w2, if_neg w3, if_neg w4, if_neg w5, if_neg w6, if_pos w7]
                  have z9 := k1 (by rw [e9]; decide)
                  rw [e9] at z9
                  exact z9
                · skip
                  rw [spn_idem] at w7
                  rw [spn_idem, rs_same]
                  show jj_R _ _ kc ks (jj_S, 782, (jj_rs h [(49, upd (h 49) 4 (nI (spn isB c e x)))]), g) 148 [(0, .ref 49)] [.int 0] Q
                  refine rr_if_eq dX10_knownHere_148 (fun _ => ?_) (fun c => absurd rfl c)
                  refine rr_iconst (-1) rfl dX10_knownHere_156 ?_
                  refine rr_ireturn dX10_knownHere_157 rfl ?_
                  exact k2 (by unfold kv; rw [if_neg w0, if_neg w1, if_neg w2, if_neg w3, if_neg w4, if_neg w5, if_neg w6, if_neg w7])
