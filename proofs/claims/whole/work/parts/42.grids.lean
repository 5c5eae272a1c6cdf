theorem jj_u1 {u : Nat} (hu : u ≤ 16) (c : ¬ nI u = 0) : 0 < u := by
  rcases Nat.eq_zero_or_pos u with rfl | h
  · exact absurd rfl c
  · exact h
theorem jj_ev {n : Nat} {v : Int32} (hn : n ≤ 8) (c : ¬ vX10_in v 0 (vX10_everybody n) = 0) : ∃ V : Nat, V < 256 ∧ v = nI V := by
  have e : ∃ b : Nat, b ≤ 255 ∧ vX10_everybody n = nI b := by
    unfold vX10_everybody
    rcases (show n = 0 ∨ n = 1 ∨ n = 2 ∨ n = 3 ∨ n = 4 ∨ n = 5 ∨ n = 6 ∨ n = 7 ∨ n = 8 by omega) with rfl | rfl | rfl | rfl | rfl | rfl | rfl | rfl | rfl
    · exact ⟨0, by decide, by decide +kernel⟩
    · exact ⟨1, by decide, by decide +kernel⟩
    · exact ⟨3, by decide, by decide +kernel⟩
    · exact ⟨7, by decide, by decide +kernel⟩
    · exact ⟨15, by decide, by decide +kernel⟩
    · exact ⟨31, by decide, by decide +kernel⟩
    · exact ⟨63, by decide, by decide +kernel⟩
    · exact ⟨127, by decide, by decide +kernel⟩
    · exact ⟨255, by decide, by decide +kernel⟩
  obtain ⟨b, hb, e⟩ := e
  rw [e] at c
  obtain ⟨V, hV, rfl⟩ := jj_inN (b := b) (by omega) c
  exact ⟨V, by omega, rfl⟩
theorem jj_and256 {q : Nat} {y : Int32} (hq : q < 256) : vp_in (nI q &&& y) 256 := by
  obtain ⟨X, hX, e⟩ := jj_andN (y := y) (show q < 2 ^ 31 by omega)
  rw [e]; exact vp_in_nI (by omega) (by decide)
def vX10_undo (r49 : Nat → Int32) (r497 : Nat → Int32) (g500 : Nat → Nat → Int32) (u : Nat) : Int32 := (if (nI u) = 0 then (-1) else (nI (u - 1)))
def rX10_undo_49 (r49 : Nat → Int32) (r497 : Nat → Int32) (g500 : Nat → Nat → Int32) (u : Nat) : Nat → Int32 := (if (nI u) = 0 then (upd r49 (0) 0) else (upd (upd (upd r49 (0) 0) (32) (nI (u - 1))) (33) 0))
def rX10_undo_497 (r49 : Nat → Int32) (r497 : Nat → Int32) (g500 : Nat → Nat → Int32) (u : Nat) : Nat → Int32 := (if (nI u) = 0 then r497 else (rX10_copies_gn_497 r497 g500 (nI (u - 1))))
set_option maxHeartbeats 1000000 in
theorem sp_X10_undo {d kc ks : Nat} {h : Nat → Nat → Int32} {g : Nat → Nat → Int64} {Q : jj_Rs → jj_St → Prop} {u : Nat} (hu : h 49 32 = nI u) (hu2 : u ≤ 16) (kq : Q (.inl (some (.int (vX10_undo (h 49) (h 497) (jj_gd h 500 16) u)))) (jj_S, 782, (jj_rs h [(49, (rX10_undo_49 (h 49) (h 497) (jj_gd h 500 16) u)), (497, (rX10_undo_497 (h 49) (h 497) (jj_gd h 500 16) u))]), g)) : jj_R mX10_undo (d + 1) kc ks (jj_S, 782, h, g) 0 [(0, .ref 49)] [] Q := by
  refine rr_aload_n 0 rfl rfl dX10_undo_0 ?_
  refine rr_iconst 0 rfl dX10_undo_1 ?_
  refine rr_putI dX10_undo_2 fX10_95 ni10_0 lo_49 sh_49 rfl ?_
  rw [jj_rs_set0 (B := h) (o := 49) (r := (h 49)) rfl]
  refine rr_aload_n 0 rfl rfl dX10_undo_5 ?_
  refine rr_getI dX10_undo_6 fX10_194 lo_49 sh_49 rfl ?_
  rw [show (jj_rs h [(49, (upd (h 49) (0) 0))]) 49 = (upd (h 49) (0) 0) from rfl]
  rw [show (upd (h 49) (0) 0) 32 = (nI u) from hu]
  refine rr_if_ne dX10_undo_9 (fun c1 => ?_) (fun c1 => ?_)
  · skip
    have hu1 : 0 < u := jj_u1 hu2 (by assumption)
    refine rr_aload_n 0 rfl rfl dX10_undo_14 ?_
    refine rr_dup rfl dX10_undo_15 ?_
    refine rr_getI dX10_undo_16 fX10_194 lo_49 sh_49 rfl ?_
    rw [show (jj_rs h [(49, (upd (h 49) (0) 0))]) 49 = (upd (h 49) (0) 0) from rfl]
    rw [show (upd (h 49) (0) 0) 32 = (nI u) from hu]
    refine rr_iconst 1 rfl dX10_undo_19 ?_
    refine rr_isub dX10_undo_20 ?_
    rw [show ((nI u) - 1 : Int32) = (nI (u - 1)) from jj_nsub (a := u) (b := 1) (by omega)]
    refine rr_putI dX10_undo_21 fX10_194 ni10_32 lo_49 sh_49 rfl ?_
    rw [jj_rs_set (B := h) (L := [(49, (upd (h 49) (0) 0))]) (L2 := [(49, (upd (upd (h 49) (0) 0) (32) (nI (u - 1))))]) (r := (upd (h 49) (0) 0)) rfl rfl]
    refine rr_aload_n 0 rfl rfl dX10_undo_24 ?_
    refine rr_getR dX10_undo_25 fX10_67 lo_49 sh_49 rfl ?_
    refine rr_aload_n 0 rfl rfl dX10_undo_28 ?_
    refine rr_getI dX10_undo_29 fX10_194 lo_49 sh_49 rfl ?_
    rw [show (jj_rs h [(49, (upd (upd (h 49) (0) 0) (32) (nI (u - 1))))]) 49 = (upd (upd (h 49) (0) 0) (32) (nI (u - 1))) from rfl]
    rw [show (upd (upd (h 49) (0) 0) (32) (nI (u - 1))) 32 = (nI (u - 1)) from rfl]
    refine rr_aaload dX10_undo_32 lo_499 sh_499 (vp_in_nI (by omega) (by decide)) ?_
    refine rr_aload_n 0 rfl rfl dX10_undo_33 ?_
    refine rr_getR dX10_undo_34 fX10_61 lo_49 sh_49 rfl ?_
    refine rr_callS (As := [.ref (500 + ((nI (u - 1)) : Int32).toNatClampNeg), .ref 497]) (rest := []) (kc2 := 0) (ks2 := 0) dX10_undo_37 okX10_copies lX10_304 rfl (Nat.le_of_ble_eq_true rfl) (Nat.le_of_ble_eq_true rfl) rfl (by omega) (by simp [jj_rk] <;> first | exact Or.inl (lr_499 (jj_ink (i := (nI (u - 1))) (vp_in_nI (by omega) (by decide))))) (by simp [jj_rk] <;> first | exact Or.inl (lr_499 (jj_ink (i := (nI (u - 1))) (vp_in_nI (by omega) (by decide))))) ?_
    refine sp_X10_copies_gn (vp_in_nI (by omega) (by decide)) ?_
    show jj_R _ _ kc ks (jj_S, 782, (jj_rs (jj_rs h [(49, (upd (upd (h 49) (0) 0) (32) (nI (u - 1))))]) [(497, (rX10_copies_gn_497 (h 497) (jj_gd (jj_rs h [(49, (upd (upd (h 49) (0) 0) (32) (nI (u - 1))))]) 500 16) (nI (u - 1))))]), g) 40 [(0, .ref 49)] [] Q
    rw [jj_rs_rs (B := h) (L := [(49, (upd (upd (h 49) (0) 0) (32) (nI (u - 1))))]) (M := [(497, (rX10_copies_gn_497 (h 497) (jj_gd (jj_rs h [(49, (upd (upd (h 49) (0) 0) (32) (nI (u - 1))))]) 500 16) (nI (u - 1))))]) (L2 := [(49, (upd (upd (h 49) (0) 0) (32) (nI (u - 1)))), (497, (rX10_copies_gn_497 (h 497) (jj_gd (jj_rs h [(49, (upd (upd (h 49) (0) 0) (32) (nI (u - 1))))]) 500 16) (nI (u - 1))))]) rfl]
    try rw [show jj_gd (jj_rs h [(49, (upd (upd (h 49) (0) 0) (32) (nI (u - 1))))]) 500 16 = jj_gd h 500 16 from (jj_gd_rs (B := h) (L := [(49, (upd (upd (h 49) (0) 0) (32) (nI (u - 1))))]) (b := 500) (len := 16) rfl)]
    refine rr_aload_n 0 rfl rfl dX10_undo_40 ?_
    refine rr_iconst 0 rfl dX10_undo_41 ?_
    refine rr_putI dX10_undo_42 fX10_197 ni10_33 lo_49 sh_49 rfl ?_
    rw [jj_rs_set (B := h) (L := [(49, (upd (upd (h 49) (0) 0) (32) (nI (u - 1)))), (497, (rX10_copies_gn_497 (h 497) (jj_gd h 500 16) (nI (u - 1))))]) (L2 := [(49, (upd (upd (upd (h 49) (0) 0) (32) (nI (u - 1))) (33) 0)), (497, (rX10_copies_gn_497 (h 497) (jj_gd h 500 16) (nI (u - 1))))]) (r := (upd (upd (h 49) (0) 0) (32) (nI (u - 1)))) rfl rfl]
    refine rr_aload_n 0 rfl rfl dX10_undo_45 ?_
    refine rr_getI dX10_undo_46 fX10_194 lo_49 sh_49 rfl ?_
    rw [show (jj_rs h [(49, (upd (upd (upd (h 49) (0) 0) (32) (nI (u - 1))) (33) 0)), (497, (rX10_copies_gn_497 (h 497) (jj_gd h 500 16) (nI (u - 1))))]) 49 = (upd (upd (upd (h 49) (0) 0) (32) (nI (u - 1))) (33) 0) from rfl]
    rw [show (upd (upd (upd (h 49) (0) 0) (32) (nI (u - 1))) (33) 0) 32 = (nI (u - 1)) from rfl]
    refine rr_ireturn dX10_undo_49 rfl ?_
    simpa only [vX10_undo, rX10_undo_49, rX10_undo_497, if_neg c1] using kq
  · skip
    refine rr_iconst (-1) rfl dX10_undo_12 ?_
    refine rr_ireturn dX10_undo_13 rfl ?_
    refine jj_Qh (jj_rs_add (B := h) (L := [(49, (upd (h 49) (0) 0))]) (L2 := [(49, (upd (h 49) (0) 0)), (497, (h 497))]) (o := 497) (r := (h 497)) rfl rfl) ?_
    simpa only [vX10_undo, rX10_undo_49, rX10_undo_497, if_pos c1] using kq
def fX10_lays_person_2 (g55 : Nat → Nat → Int32) (k1 : Nat) (k2 : Nat) (a2 : (Nat → Nat → Int32)) : (Nat → Nat → Int32) := (jj_ug a2 (((nI k1) : Int32).toNatClampNeg) (k2) (g55 ((nI k1) : Int32).toNatClampNeg k2))
def fX10_lays_person_1 (g55 : Nat → Nat → Int32) (k1 : Nat) (a1 : (Nat → Nat → Int32)) : (Nat → Nat → Int32) := (jj_fo (fX10_lays_person_2 g55 k1) 4 a1)
def qX10_lays_person_64 (g55 : Nat → Nat → Int32) (g64 : Nat → Nat → Int32) (q : Nat) : Nat → Nat → Int32 := (jj_fo (fX10_lays_person_1 g55) q g64)
set_option maxHeartbeats 1000000 in
theorem sp_X10_lays_person {d kc ks : Nat} {h : Nat → Nat → Int32} {g : Nat → Nat → Int64} {Q : jj_Rs → jj_St → Prop} {q : Nat} {q_ : Int32} (hq_ : q_ = nI q) (hq : q ≤ 8) (kq : Q (.inl none) (jj_S, 782, (jj_gs h 64 8 (qX10_lays_person_64 (jj_gd h 55 8) (jj_gd h 64 8) q)), g)) : jj_R mX10_lays (d + 0) kc ks (jj_S, 782, h, g) 0 [(0, .ref 54), (1, .ref 63), (2, .int q_)] [] Q := by
  subst hq_
  refine rr_iconst 0 rfl dX10_lays_0 ?_
  refine rr_istore_n [(0, .ref 54), (1, .ref 63), (2, .int (nI q)), (3, .int 0)] dX10_lays_1 rfl (by decide) rfl ?_
  refine jj_Rh (jj_gs_id (B := h) (L := []) (b := 64) (len := 8)) ?_
  rw [jj_rs_nil]
  refine jj_for (fun k1 (a1 : (Nat → Nat → Int32)) => jj_R _ _ kc ks (jj_S, 782, (jj_gs h 64 8 a1), g) 2 [(0, .ref 54), (1, .ref 63), (2, .int (nI q)), (3, .int (nI k1))] [] Q) (fX10_lays_person_1 (jj_gd h 55 8)) q (jj_gd h 64 8) ?_ ?_
  · intro k1 hk1 ih1
    generalize jj_fo _ k1 _ = a1 at ih1 ⊢
    try dsimp only at ih1 ⊢
    refine rr_iload_n 3 rfl rfl dX10_lays_2 ?_
    refine rr_iload_n 2 rfl rfl dX10_lays_3 ?_
    refine rr_icmp_ge dX10_lays_4 (fun c => absurd c (nI_ge (a := k1) (b := q) (by omega) (by omega))) (fun _ => ?_)
    refine rr_iconst 0 rfl dX10_lays_7 ?_
    refine rr_istore [(0, .ref 54), (1, .ref 63), (2, .int (nI q)), (3, .int (nI k1)), (4, .int 0)] dX10_lays_8 (by decide) rfl ?_
    refine jj_for (fun k2 (a2 : (Nat → Nat → Int32)) => jj_R _ _ kc ks (jj_S, 782, (jj_gs h 64 8 a2), g) 10 [(0, .ref 54), (1, .ref 63), (2, .int (nI q)), (3, .int (nI k1)), (4, .int (nI k2))] [] Q) (fX10_lays_person_2 (jj_gd h 55 8) k1) 4 a1 ?_ ?_
    · intro k2 hk2 ih2
      generalize jj_fo _ k2 _ = a2 at ih2 ⊢
      try dsimp only at ih2 ⊢
      refine rr_iload 4 rfl dX10_lays_10 ?_
      refine rr_aload_n 1 rfl rfl dX10_lays_12 ?_
      refine rr_iload_n 3 rfl rfl dX10_lays_13 ?_
      refine rr_aaload dX10_lays_14 lo_63 sh_63 (vp_in_nI (by omega) (by decide)) ?_
      refine rr_alenI 4 dX10_lays_15 (lr_63 (jj_ink (i := (nI k1)) (vp_in_nI (by omega) (by decide)))) (sr_63 (jj_ink (i := (nI k1)) (vp_in_nI (by omega) (by decide)))) (by decide) rfl ?_
      refine rr_icmp_ge dX10_lays_16 (fun c => absurd c (nI_ge (a := k2) (b := 4) (by omega) (by omega))) (fun _ => ?_)
      refine rr_aload_n 1 rfl rfl dX10_lays_19 ?_
      refine rr_iload_n 3 rfl rfl dX10_lays_20 ?_
      refine rr_aaload dX10_lays_21 lo_63 sh_63 (vp_in_nI (by omega) (by decide)) ?_
      refine rr_iload 4 rfl dX10_lays_22 ?_
      refine rr_aload_n 0 rfl rfl dX10_lays_24 ?_
      refine rr_iload_n 3 rfl rfl dX10_lays_25 ?_
      refine rr_aaload dX10_lays_26 lo_54 sh_54 (vp_in_nI (by omega) (by decide)) ?_
      refine rr_iload 4 rfl dX10_lays_27 ?_
      refine rr_iaload dX10_lays_29 (lr_54 (jj_ink (i := (nI k1)) (vp_in_nI (by omega) (by decide)))) (sr_54 (jj_ink (i := (nI k1)) (vp_in_nI (by omega) (by decide)))) (vp_in_nI (by omega) (by decide)) ?_
      rw [show (jj_gs h 64 8 a2) (55 + ((nI k1) : Int32).toNatClampNeg) = jj_gd h 55 8 ((nI k1) : Int32).toNatClampNeg from ((jj_gd_at (jj_ink (i := (nI k1)) (vp_in_nI (by omega) (by decide)))).trans (congrFun (jj_gd_gs (B := h) (b := 64) (len := 8) (b2 := 55) (len2 := 8) rfl) _))]
      refine rr_iastore dX10_lays_30 (lr_63 (jj_ink (i := (nI k1)) (vp_in_nI (by omega) (by decide)))) (sr_63 (jj_ink (i := (nI k1)) (vp_in_nI (by omega) (by decide)))) (vp_in_nI (by omega) (by decide)) ?_
      refine jj_Rh (jj_gs_set (B := h) (L := []) (b := 64) (len := 8) (G := a2) (x := ((nI k1) : Int32).toNatClampNeg) rfl (jj_ink (i := (nI k1)) (vp_in_nI (by omega) (by decide)))) ?_
      rw [jj_rs_nil]
      refine rr_iinc 4 1 [(0, .ref 54), (1, .ref 63), (2, .int (nI q)), (3, .int (nI k1)), (4, .int ((nI k2) + 1))] dX10_lays_31 rfl rfl (by decide) rfl ?_
      refine rr_goto dX10_lays_34 ?_
      simpa only [nI_1, (nI_clamp (show k2 < 2 ^ 31 by omega)), fX10_lays_person_2] using ih2
    · try dsimp only
      refine rr_iload 4 rfl dX10_lays_10 ?_
      refine rr_aload_n 1 rfl rfl dX10_lays_12 ?_
      refine rr_iload_n 3 rfl rfl dX10_lays_13 ?_
      refine rr_aaload dX10_lays_14 lo_63 sh_63 (vp_in_nI (by omega) (by decide)) ?_
      refine rr_alenI 4 dX10_lays_15 (lr_63 (jj_ink (i := (nI k1)) (vp_in_nI (by omega) (by decide)))) (sr_63 (jj_ink (i := (nI k1)) (vp_in_nI (by omega) (by decide)))) (by decide) rfl ?_
      refine rr_icmp_ge dX10_lays_16 (fun _ => ?_) (fun c => absurd (jj_le_rf _) c)
      refine rr_iinc 3 1 [(0, .ref 54), (1, .ref 63), (2, .int (nI q)), (3, .int ((nI k1) + 1)), (4, .int (nI 4))] dX10_lays_37 rfl rfl (by decide) rfl ?_
      refine rr_goto dX10_lays_40 ?_
      refine rr_drop (ls := [(0, .ref 54), (1, .ref 63), (2, .int (nI q)), (3, .int ((nI k1) + 1))]) [0, 1, 2, 3] rfl ?_
      simpa only [nI_1, (nI_clamp (show k1 < 2 ^ 31 by omega)), fX10_lays_person_1] using ih1
  · try dsimp only
    refine rr_iload_n 3 rfl rfl dX10_lays_2 ?_
    refine rr_iload_n 2 rfl rfl dX10_lays_3 ?_
    refine rr_icmp_ge dX10_lays_4 (fun _ => ?_) (fun c => absurd (jj_le_rf _) c)
    refine rr_return dX10_lays_43 rfl ?_
    simpa only [qX10_lays_person_64] using kq
def fX10_lays_law_2 (g236 : Nat → Nat → Int32) (k1 : Nat) (k2 : Nat) (a2 : (Nat → Nat → Int32)) : (Nat → Nat → Int32) := (jj_ug a2 (((nI k1) : Int32).toNatClampNeg) (k2) (g236 ((nI k1) : Int32).toNatClampNeg k2))
def fX10_lays_law_1 (g236 : Nat → Nat → Int32) (k1 : Nat) (a1 : (Nat → Nat → Int32)) : (Nat → Nat → Int32) := (jj_fo (fX10_lays_law_2 g236 k1) 2 a1)
def qX10_lays_law_75 (g75 : Nat → Nat → Int32) (g236 : Nat → Nat → Int32) (q : Nat) : Nat → Nat → Int32 := (jj_fo (fX10_lays_law_1 g236) q g75)
set_option maxHeartbeats 1000000 in
theorem sp_X10_lays_law {d kc ks : Nat} {h : Nat → Nat → Int32} {g : Nat → Nat → Int64} {Q : jj_Rs → jj_St → Prop} {q : Nat} {q_ : Int32} (hq_ : q_ = nI q) (hq : q ≤ 160) (kq : Q (.inl none) (jj_S, 782, (jj_gs h 75 160 (qX10_lays_law_75 (jj_gd h 75 160) (jj_gd h 236 160) q)), g)) : jj_R mX10_lays (d + 0) kc ks (jj_S, 782, h, g) 0 [(0, .ref 235), (1, .ref 74), (2, .int q_)] [] Q := by
  subst hq_
  refine rr_iconst 0 rfl dX10_lays_0 ?_
  refine rr_istore_n [(0, .ref 235), (1, .ref 74), (2, .int (nI q)), (3, .int 0)] dX10_lays_1 rfl (by decide) rfl ?_
  refine jj_Rh (jj_gs_id (B := h) (L := []) (b := 75) (len := 160)) ?_
  rw [jj_rs_nil]
  refine jj_for (fun k1 (a1 : (Nat → Nat → Int32)) => jj_R _ _ kc ks (jj_S, 782, (jj_gs h 75 160 a1), g) 2 [(0, .ref 235), (1, .ref 74), (2, .int (nI q)), (3, .int (nI k1))] [] Q) (fX10_lays_law_1 (jj_gd h 236 160)) q (jj_gd h 75 160) ?_ ?_
  · intro k1 hk1 ih1
    generalize jj_fo _ k1 _ = a1 at ih1 ⊢
    try dsimp only at ih1 ⊢
    refine rr_iload_n 3 rfl rfl dX10_lays_2 ?_
    refine rr_iload_n 2 rfl rfl dX10_lays_3 ?_
    refine rr_icmp_ge dX10_lays_4 (fun c => absurd c (nI_ge (a := k1) (b := q) (by omega) (by omega))) (fun _ => ?_)
    refine rr_iconst 0 rfl dX10_lays_7 ?_
    refine rr_istore [(0, .ref 235), (1, .ref 74), (2, .int (nI q)), (3, .int (nI k1)), (4, .int 0)] dX10_lays_8 (by decide) rfl ?_
    refine jj_for (fun k2 (a2 : (Nat → Nat → Int32)) => jj_R _ _ kc ks (jj_S, 782, (jj_gs h 75 160 a2), g) 10 [(0, .ref 235), (1, .ref 74), (2, .int (nI q)), (3, .int (nI k1)), (4, .int (nI k2))] [] Q) (fX10_lays_law_2 (jj_gd h 236 160) k1) 2 a1 ?_ ?_
    · intro k2 hk2 ih2
      generalize jj_fo _ k2 _ = a2 at ih2 ⊢
      try dsimp only at ih2 ⊢
      refine rr_iload 4 rfl dX10_lays_10 ?_
      refine rr_aload_n 1 rfl rfl dX10_lays_12 ?_
      refine rr_iload_n 3 rfl rfl dX10_lays_13 ?_
      refine rr_aaload dX10_lays_14 lo_74 sh_74 (vp_in_nI (by omega) (by decide)) ?_
      refine rr_alenI 2 dX10_lays_15 (lr_74 (jj_ink (i := (nI k1)) (vp_in_nI (by omega) (by decide)))) (sr_74 (jj_ink (i := (nI k1)) (vp_in_nI (by omega) (by decide)))) (by decide) rfl ?_
      refine rr_icmp_ge dX10_lays_16 (fun c => absurd c (nI_ge (a := k2) (b := 2) (by omega) (by omega))) (fun _ => ?_)
      refine rr_aload_n 1 rfl rfl dX10_lays_19 ?_
      refine rr_iload_n 3 rfl rfl dX10_lays_20 ?_
      refine rr_aaload dX10_lays_21 lo_74 sh_74 (vp_in_nI (by omega) (by decide)) ?_
      refine rr_iload 4 rfl dX10_lays_22 ?_
      refine rr_aload_n 0 rfl rfl dX10_lays_24 ?_
      refine rr_iload_n 3 rfl rfl dX10_lays_25 ?_
      refine rr_aaload dX10_lays_26 lo_235 sh_235 (vp_in_nI (by omega) (by decide)) ?_
      refine rr_iload 4 rfl dX10_lays_27 ?_
      refine rr_iaload dX10_lays_29 (lr_235 (jj_ink (i := (nI k1)) (vp_in_nI (by omega) (by decide)))) (sr_235 (jj_ink (i := (nI k1)) (vp_in_nI (by omega) (by decide)))) (vp_in_nI (by omega) (by decide)) ?_
      rw [show (jj_gs h 75 160 a2) (236 + ((nI k1) : Int32).toNatClampNeg) = jj_gd h 236 160 ((nI k1) : Int32).toNatClampNeg from ((jj_gd_at (jj_ink (i := (nI k1)) (vp_in_nI (by omega) (by decide)))).trans (congrFun (jj_gd_gs (B := h) (b := 75) (len := 160) (b2 := 236) (len2 := 160) rfl) _))]
      refine rr_iastore dX10_lays_30 (lr_74 (jj_ink (i := (nI k1)) (vp_in_nI (by omega) (by decide)))) (sr_74 (jj_ink (i := (nI k1)) (vp_in_nI (by omega) (by decide)))) (vp_in_nI (by omega) (by decide)) ?_
      refine jj_Rh (jj_gs_set (B := h) (L := []) (b := 75) (len := 160) (G := a2) (x := ((nI k1) : Int32).toNatClampNeg) rfl (jj_ink (i := (nI k1)) (vp_in_nI (by omega) (by decide)))) ?_
      rw [jj_rs_nil]
      refine rr_iinc 4 1 [(0, .ref 235), (1, .ref 74), (2, .int (nI q)), (3, .int (nI k1)), (4, .int ((nI k2) + 1))] dX10_lays_31 rfl rfl (by decide) rfl ?_
      refine rr_goto dX10_lays_34 ?_
      simpa only [nI_1, (nI_clamp (show k2 < 2 ^ 31 by omega)), fX10_lays_law_2] using ih2
    · try dsimp only
      refine rr_iload 4 rfl dX10_lays_10 ?_
      refine rr_aload_n 1 rfl rfl dX10_lays_12 ?_
      refine rr_iload_n 3 rfl rfl dX10_lays_13 ?_
      refine rr_aaload dX10_lays_14 lo_74 sh_74 (vp_in_nI (by omega) (by decide)) ?_
      refine rr_alenI 2 dX10_lays_15 (lr_74 (jj_ink (i := (nI k1)) (vp_in_nI (by omega) (by decide)))) (sr_74 (jj_ink (i := (nI k1)) (vp_in_nI (by omega) (by decide)))) (by decide) rfl ?_
      refine rr_icmp_ge dX10_lays_16 (fun _ => ?_) (fun c => absurd (jj_le_rf _) c)
      refine rr_iinc 3 1 [(0, .ref 235), (1, .ref 74), (2, .int (nI q)), (3, .int ((nI k1) + 1)), (4, .int (nI 2))] dX10_lays_37 rfl rfl (by decide) rfl ?_
      refine rr_goto dX10_lays_40 ?_
      refine rr_drop (ls := [(0, .ref 235), (1, .ref 74), (2, .int (nI q)), (3, .int ((nI k1) + 1))]) [0, 1, 2, 3] rfl ?_
      simpa only [nI_1, (nI_clamp (show k1 < 2 ^ 31 by omega)), fX10_lays_law_1] using ih1
  · try dsimp only
    refine rr_iload_n 3 rfl rfl dX10_lays_2 ?_
    refine rr_iload_n 2 rfl rfl dX10_lays_3 ?_
    refine rr_icmp_ge dX10_lays_4 (fun _ => ?_) (fun c => absurd (jj_le_rf _) c)
    refine rr_return dX10_lays_43 rfl ?_
    simpa only [qX10_lays_law_75] using kq
def fX10_lays_line_2 (g406 : Nat → Nat → Int32) (k1 : Nat) (k2 : Nat) (a2 : (Nat → Nat → Int32)) : (Nat → Nat → Int32) := (jj_ug a2 (((nI k1) : Int32).toNatClampNeg) (k2) (g406 ((nI k1) : Int32).toNatClampNeg k2))
def fX10_lays_line_1 (g406 : Nat → Nat → Int32) (k1 : Nat) (a1 : (Nat → Nat → Int32)) : (Nat → Nat → Int32) := (jj_fo (fX10_lays_line_2 g406 k1) 2 a1)
def qX10_lays_line_397 (g397 : Nat → Nat → Int32) (g406 : Nat → Nat → Int32) (q : Nat) : Nat → Nat → Int32 := (jj_fo (fX10_lays_line_1 g406) q g397)
set_option maxHeartbeats 1000000 in
theorem sp_X10_lays_line {d kc ks : Nat} {h : Nat → Nat → Int32} {g : Nat → Nat → Int64} {Q : jj_Rs → jj_St → Prop} {q : Nat} {q_ : Int32} (hq_ : q_ = nI q) (hq : q ≤ 8) (kq : Q (.inl none) (jj_S, 782, (jj_gs h 397 8 (qX10_lays_line_397 (jj_gd h 397 8) (jj_gd h 406 8) q)), g)) : jj_R mX10_lays (d + 0) kc ks (jj_S, 782, h, g) 0 [(0, .ref 405), (1, .ref 396), (2, .int q_)] [] Q := by
  subst hq_
  refine rr_iconst 0 rfl dX10_lays_0 ?_
  refine rr_istore_n [(0, .ref 405), (1, .ref 396), (2, .int (nI q)), (3, .int 0)] dX10_lays_1 rfl (by decide) rfl ?_
  refine jj_Rh (jj_gs_id (B := h) (L := []) (b := 397) (len := 8)) ?_
  rw [jj_rs_nil]
  refine jj_for (fun k1 (a1 : (Nat → Nat → Int32)) => jj_R _ _ kc ks (jj_S, 782, (jj_gs h 397 8 a1), g) 2 [(0, .ref 405), (1, .ref 396), (2, .int (nI q)), (3, .int (nI k1))] [] Q) (fX10_lays_line_1 (jj_gd h 406 8)) q (jj_gd h 397 8) ?_ ?_
  · intro k1 hk1 ih1
    generalize jj_fo _ k1 _ = a1 at ih1 ⊢
    try dsimp only at ih1 ⊢
    refine rr_iload_n 3 rfl rfl dX10_lays_2 ?_
    refine rr_iload_n 2 rfl rfl dX10_lays_3 ?_
    refine rr_icmp_ge dX10_lays_4 (fun c => absurd c (nI_ge (a := k1) (b := q) (by omega) (by omega))) (fun _ => ?_)
    refine rr_iconst 0 rfl dX10_lays_7 ?_
    refine rr_istore [(0, .ref 405), (1, .ref 396), (2, .int (nI q)), (3, .int (nI k1)), (4, .int 0)] dX10_lays_8 (by decide) rfl ?_
    refine jj_for (fun k2 (a2 : (Nat → Nat → Int32)) => jj_R _ _ kc ks (jj_S, 782, (jj_gs h 397 8 a2), g) 10 [(0, .ref 405), (1, .ref 396), (2, .int (nI q)), (3, .int (nI k1)), (4, .int (nI k2))] [] Q) (fX10_lays_line_2 (jj_gd h 406 8) k1) 2 a1 ?_ ?_
    · intro k2 hk2 ih2
      generalize jj_fo _ k2 _ = a2 at ih2 ⊢
      try dsimp only at ih2 ⊢
      refine rr_iload 4 rfl dX10_lays_10 ?_
      refine rr_aload_n 1 rfl rfl dX10_lays_12 ?_
      refine rr_iload_n 3 rfl rfl dX10_lays_13 ?_
      refine rr_aaload dX10_lays_14 lo_396 sh_396 (vp_in_nI (by omega) (by decide)) ?_
      refine rr_alenI 2 dX10_lays_15 (lr_396 (jj_ink (i := (nI k1)) (vp_in_nI (by omega) (by decide)))) (sr_396 (jj_ink (i := (nI k1)) (vp_in_nI (by omega) (by decide)))) (by decide) rfl ?_
      refine rr_icmp_ge dX10_lays_16 (fun c => absurd c (nI_ge (a := k2) (b := 2) (by omega) (by omega))) (fun _ => ?_)
      refine rr_aload_n 1 rfl rfl dX10_lays_19 ?_
      refine rr_iload_n 3 rfl rfl dX10_lays_20 ?_
      refine rr_aaload dX10_lays_21 lo_396 sh_396 (vp_in_nI (by omega) (by decide)) ?_
      refine rr_iload 4 rfl dX10_lays_22 ?_
      refine rr_aload_n 0 rfl rfl dX10_lays_24 ?_
      refine rr_iload_n 3 rfl rfl dX10_lays_25 ?_
      refine rr_aaload dX10_lays_26 lo_405 sh_405 (vp_in_nI (by omega) (by decide)) ?_
      refine rr_iload 4 rfl dX10_lays_27 ?_
      refine rr_iaload dX10_lays_29 (lr_405 (jj_ink (i := (nI k1)) (vp_in_nI (by omega) (by decide)))) (sr_405 (jj_ink (i := (nI k1)) (vp_in_nI (by omega) (by decide)))) (vp_in_nI (by omega) (by decide)) ?_
      rw [show (jj_gs h 397 8 a2) (406 + ((nI k1) : Int32).toNatClampNeg) = jj_gd h 406 8 ((nI k1) : Int32).toNatClampNeg from ((jj_gd_at (jj_ink (i := (nI k1)) (vp_in_nI (by omega) (by decide)))).trans (congrFun (jj_gd_gs (B := h) (b := 397) (len := 8) (b2 := 406) (len2 := 8) rfl) _))]
      refine rr_iastore dX10_lays_30 (lr_396 (jj_ink (i := (nI k1)) (vp_in_nI (by omega) (by decide)))) (sr_396 (jj_ink (i := (nI k1)) (vp_in_nI (by omega) (by decide)))) (vp_in_nI (by omega) (by decide)) ?_
      refine jj_Rh (jj_gs_set (B := h) (L := []) (b := 397) (len := 8) (G := a2) (x := ((nI k1) : Int32).toNatClampNeg) rfl (jj_ink (i := (nI k1)) (vp_in_nI (by omega) (by decide)))) ?_
      rw [jj_rs_nil]
      refine rr_iinc 4 1 [(0, .ref 405), (1, .ref 396), (2, .int (nI q)), (3, .int (nI k1)), (4, .int ((nI k2) + 1))] dX10_lays_31 rfl rfl (by decide) rfl ?_
      refine rr_goto dX10_lays_34 ?_
      simpa only [nI_1, (nI_clamp (show k2 < 2 ^ 31 by omega)), fX10_lays_line_2] using ih2
    · try dsimp only
      refine rr_iload 4 rfl dX10_lays_10 ?_
      refine rr_aload_n 1 rfl rfl dX10_lays_12 ?_
      refine rr_iload_n 3 rfl rfl dX10_lays_13 ?_
      refine rr_aaload dX10_lays_14 lo_396 sh_396 (vp_in_nI (by omega) (by decide)) ?_
      refine rr_alenI 2 dX10_lays_15 (lr_396 (jj_ink (i := (nI k1)) (vp_in_nI (by omega) (by decide)))) (sr_396 (jj_ink (i := (nI k1)) (vp_in_nI (by omega) (by decide)))) (by decide) rfl ?_
      refine rr_icmp_ge dX10_lays_16 (fun _ => ?_) (fun c => absurd (jj_le_rf _) c)
      refine rr_iinc 3 1 [(0, .ref 405), (1, .ref 396), (2, .int (nI q)), (3, .int ((nI k1) + 1)), (4, .int (nI 2))] dX10_lays_37 rfl rfl (by decide) rfl ?_
      refine rr_goto dX10_lays_40 ?_
      refine rr_drop (ls := [(0, .ref 405), (1, .ref 396), (2, .int (nI q)), (3, .int ((nI k1) + 1))]) [0, 1, 2, 3] rfl ?_
      simpa only [nI_1, (nI_clamp (show k1 < 2 ^ 31 by omega)), fX10_lays_line_1] using ih1
  · try dsimp only
    refine rr_iload_n 3 rfl rfl dX10_lays_2 ?_
    refine rr_iload_n 2 rfl rfl dX10_lays_3 ?_
    refine rr_icmp_ge dX10_lays_4 (fun _ => ?_) (fun c => absurd (jj_le_rf _) c)
    refine rr_return dX10_lays_43 rfl ?_
    simpa only [qX10_lays_line_397] using kq
def fX10_tellsNothing_1  (k1 : Nat) (a1 : (Nat → Int32)) : (Nat → Int32) := (upd a1 (k1) 0)
def rX10_tellsNothing_52 (r52 : Nat → Int32) (r72 : Nat → Int32) : Nat → Int32 := (upd (upd r52 (0) 0) (1) 20)
def rX10_tellsNothing_72 (r52 : Nat → Int32) (r72 : Nat → Int32) : Nat → Int32 := (jj_fo fX10_tellsNothing_1 8 r72)
set_option maxHeartbeats 1000000 in
theorem sp_X10_tellsNothing {d kc ks : Nat} {h : Nat → Nat → Int32} {g : Nat → Nat → Int64} {Q : jj_Rs → jj_St → Prop}  (kq : Q (.inl none) (jj_S, 782, (jj_rs h [(52, (rX10_tellsNothing_52 (h 52) (h 72))), (72, (rX10_tellsNothing_72 (h 52) (h 72)))]), g)) : jj_R mX10_tellsNothing (d + 0) kc ks (jj_S, 782, h, g) 0 [(0, .ref 49)] [] Q := by
  refine rr_aload_n 0 rfl rfl dX10_tellsNothing_0 ?_
  refine rr_getR dX10_tellsNothing_1 fX10_20 lo_49 sh_49 rfl ?_
  refine rr_iconst 0 rfl dX10_tellsNothing_4 ?_
  refine rr_iconst 0 rfl dX10_tellsNothing_5 ?_
  refine rr_iastore dX10_tellsNothing_6 lo_52 sh_52 (jj_inL rfl) ?_
  rw [show (0 : Int32).toNatClampNeg = 0 from rfl]
  rw [jj_rs_set0 (B := h) (o := 52) (r := (h 52)) rfl]
  refine rr_aload_n 0 rfl rfl dX10_tellsNothing_7 ?_
  refine rr_getR dX10_tellsNothing_8 fX10_20 lo_49 sh_49 rfl ?_
  refine rr_iconst 1 rfl dX10_tellsNothing_11 ?_
  refine rr_bipush 20 rfl dX10_tellsNothing_12 ?_
  refine rr_iastore dX10_tellsNothing_14 lo_52 sh_52 (jj_inL rfl) ?_
  rw [show (1 : Int32).toNatClampNeg = 1 from rfl]
  rw [jj_rs_set (B := h) (L := [(52, (upd (h 52) (0) 0))]) (L2 := [(52, (upd (upd (h 52) (0) 0) (1) 20))]) (r := (upd (h 52) (0) 0)) rfl rfl]
  refine rr_iconst 0 rfl dX10_tellsNothing_15 ?_
  refine rr_istore_n [(0, .ref 49), (1, .int 0)] dX10_tellsNothing_16 rfl (by decide) rfl ?_
  refine jj_Rh (jj_rs_add (B := h) (L := [(52, (upd (upd (h 52) (0) 0) (1) 20))]) (L2 := [(52, (upd (upd (h 52) (0) 0) (1) 20)), (72, (h 72))]) (o := 72) (r := (h 72)) rfl rfl) ?_
  refine jj_for (fun k1 (a1 : (Nat → Int32)) => jj_R _ _ kc ks (jj_S, 782, (jj_rs h [(52, (upd (upd (h 52) (0) 0) (1) 20)), (72, a1)]), g) 17 [(0, .ref 49), (1, .int (nI k1))] [] Q) fX10_tellsNothing_1 8 (h 72) ?_ ?_
  · intro k1 hk1 ih1
    generalize jj_fo _ k1 _ = a1 at ih1 ⊢
    try dsimp only at ih1 ⊢
    refine rr_iload_n 1 rfl rfl dX10_tellsNothing_17 ?_
    refine rr_bipush 8 rfl dX10_tellsNothing_18 ?_
    refine rr_icmp_ge dX10_tellsNothing_20 (fun c => absurd c (nI_ge (a := k1) (b := 8) (by omega) (by omega))) (fun _ => ?_)
    refine rr_aload_n 0 rfl rfl dX10_tellsNothing_23 ?_
    refine rr_getR dX10_tellsNothing_24 fX10_34 lo_49 sh_49 rfl ?_
    refine rr_iload_n 1 rfl rfl dX10_tellsNothing_27 ?_
    refine rr_iconst 0 rfl dX10_tellsNothing_28 ?_
    refine rr_iastore dX10_tellsNothing_29 lo_72 sh_72 (vp_in_nI (by omega) (by decide)) ?_
    rw [jj_rs_set (B := h) (L := [(52, (upd (upd (h 52) (0) 0) (1) 20)), (72, a1)]) (L2 := [(52, (upd (upd (h 52) (0) 0) (1) 20)), (72, (upd a1 (((nI k1) : Int32).toNatClampNeg) 0))]) (r := a1) rfl rfl]
    refine rr_iinc 1 1 [(0, .ref 49), (1, .int ((nI k1) + 1))] dX10_tellsNothing_30 rfl rfl (by decide) rfl ?_
    refine rr_goto dX10_tellsNothing_33 ?_
    simpa only [nI_1, (nI_clamp (show k1 < 2 ^ 31 by omega)), fX10_tellsNothing_1] using ih1
  · try dsimp only
    refine rr_iload_n 1 rfl rfl dX10_tellsNothing_17 ?_
    refine rr_bipush 8 rfl dX10_tellsNothing_18 ?_
    refine rr_icmp_ge dX10_tellsNothing_20 (fun _ => ?_) (fun c => absurd (jj_le_rf _) c)
    refine rr_return dX10_tellsNothing_36 rfl ?_
    simpa only [rX10_tellsNothing_52, rX10_tellsNothing_72] using kq
def fX10_round_3 (g64 : Nat → Nat → Int32) (k1 : Nat) (k2 : Nat) (a2 : Int32 × (Nat → Nat → Int32)) (k3 : Nat) (a3 : Int32) : Int32 := (if (vX10_has ((nI (1 + k1)) &&& ((1 <<< ((nI k2) &&& 31)) ^^^ ((-1) : Int32))) (nI k3)) = 0 then a3 else (if a3 = (-1) then ((a2.2 (((nI (1 + k1)) &&& ((1 <<< ((nI k2) &&& 31)) ^^^ ((-1) : Int32))) : Int32).toNatClampNeg k3) + (vX10_way g64 (nI k3) (nI k2))) else (vX10_less a3 ((a2.2 (((nI (1 + k1)) &&& ((1 <<< ((nI k2) &&& 31)) ^^^ ((-1) : Int32))) : Int32).toNatClampNeg k3) + (vX10_way g64 (nI k3) (nI k2))))))
def fX10_round_4 (g64 : Nat → Nat → Int32) (k1 : Nat) (k2 : Nat) (a2 : Int32 × (Nat → Nat → Int32)) (k4 : Nat) (a4 : Int32) : Int32 := (if (vX10_has ((nI (1 + k1)) &&& ((1 <<< ((nI k2) &&& 31)) ^^^ ((-1) : Int32))) (nI k4)) = 0 then a4 else (if a4 = (-1) then ((a2.2 (((nI (1 + k1)) &&& ((1 <<< ((nI k2) &&& 31)) ^^^ ((-1) : Int32))) : Int32).toNatClampNeg k4) + (vX10_way g64 (nI k4) (nI k2))) else (vX10_less a4 ((a2.2 (((nI (1 + k1)) &&& ((1 <<< ((nI k2) &&& 31)) ^^^ ((-1) : Int32))) : Int32).toNatClampNeg k4) + (vX10_way g64 (nI k4) (nI k2))))))
def fX10_round_2 (g64 : Nat → Nat → Int32) (n : Nat) (p : Int32) (V : Nat) (k1 : Nat) (k2 : Nat) (a2 : Int32 × (Nat → Nat → Int32)) : Int32 × (Nat → Nat → Int32) := (if ((nI (1 + k1)) &&& ((nI V) ^^^ ((-1) : Int32))) = 0 then (if (vX10_has (nI (1 + k1)) (nI k2)) = 0 then (a2.1, a2.2) else (if ((nI (1 + k1)) &&& ((1 <<< ((nI k2) &&& 31)) ^^^ ((-1) : Int32))) = 0 then (if (nI (1 + k1)) = (nI V) then (if a2.1 = (-1) then ((jj_fo (fX10_round_4 g64 k1 k2 a2) n (vX10_way g64 p (nI k2))), (jj_ug a2.2 (((nI (1 + k1)) : Int32).toNatClampNeg) (k2) (jj_fo (fX10_round_4 g64 k1 k2 a2) n (vX10_way g64 p (nI k2))))) else ((vX10_less a2.1 (jj_fo (fX10_round_4 g64 k1 k2 a2) n (vX10_way g64 p (nI k2)))), (jj_ug a2.2 (((nI (1 + k1)) : Int32).toNatClampNeg) (k2) (jj_fo (fX10_round_4 g64 k1 k2 a2) n (vX10_way g64 p (nI k2)))))) else (a2.1, (jj_ug a2.2 (((nI (1 + k1)) : Int32).toNatClampNeg) (k2) (jj_fo (fX10_round_4 g64 k1 k2 a2) n (vX10_way g64 p (nI k2)))))) else (if (nI (1 + k1)) = (nI V) then (if a2.1 = (-1) then ((jj_fo (fX10_round_3 g64 k1 k2 a2) n (-1)), (jj_ug a2.2 (((nI (1 + k1)) : Int32).toNatClampNeg) (k2) (jj_fo (fX10_round_3 g64 k1 k2 a2) n (-1)))) else ((vX10_less a2.1 (jj_fo (fX10_round_3 g64 k1 k2 a2) n (-1))), (jj_ug a2.2 (((nI (1 + k1)) : Int32).toNatClampNeg) (k2) (jj_fo (fX10_round_3 g64 k1 k2 a2) n (-1))))) else (a2.1, (jj_ug a2.2 (((nI (1 + k1)) : Int32).toNatClampNeg) (k2) (jj_fo (fX10_round_3 g64 k1 k2 a2) n (-1))))))) else (a2.1, a2.2))
def fX10_round_1 (g64 : Nat → Nat → Int32) (n : Nat) (p : Int32) (V : Nat) (k1 : Nat) (a1 : Int32 × (Nat → Nat → Int32)) : Int32 × (Nat → Nat → Int32) := ((jj_fo (fX10_round_2 g64 n p V k1) n (a1.1, a1.2)).1, (jj_fo (fX10_round_2 g64 n p V k1) n (a1.1, a1.2)).2)
def fX10_round_7 (g64 : Nat → Nat → Int32) (k5 : Nat) (k6 : Nat) (a6 : Int32 × (Nat → Nat → Int32)) (k7 : Nat) (a7 : Int32) : Int32 := (if (vX10_has ((nI (1 + k5)) &&& ((1 <<< ((nI k6) &&& 31)) ^^^ ((-1) : Int32))) (nI k7)) = 0 then a7 else (if a7 = (-1) then ((a6.2 (((nI (1 + k5)) &&& ((1 <<< ((nI k6) &&& 31)) ^^^ ((-1) : Int32))) : Int32).toNatClampNeg k7) + (vX10_way g64 (nI k7) (nI k6))) else (vX10_less a7 ((a6.2 (((nI (1 + k5)) &&& ((1 <<< ((nI k6) &&& 31)) ^^^ ((-1) : Int32))) : Int32).toNatClampNeg k7) + (vX10_way g64 (nI k7) (nI k6))))))
def fX10_round_8 (g64 : Nat → Nat → Int32) (k5 : Nat) (k6 : Nat) (a6 : Int32 × (Nat → Nat → Int32)) (k8 : Nat) (a8 : Int32) : Int32 := (if (vX10_has ((nI (1 + k5)) &&& ((1 <<< ((nI k6) &&& 31)) ^^^ ((-1) : Int32))) (nI k8)) = 0 then a8 else (if a8 = (-1) then ((a6.2 (((nI (1 + k5)) &&& ((1 <<< ((nI k6) &&& 31)) ^^^ ((-1) : Int32))) : Int32).toNatClampNeg k8) + (vX10_way g64 (nI k8) (nI k6))) else (vX10_less a8 ((a6.2 (((nI (1 + k5)) &&& ((1 <<< ((nI k6) &&& 31)) ^^^ ((-1) : Int32))) : Int32).toNatClampNeg k8) + (vX10_way g64 (nI k8) (nI k6))))))
def fX10_round_6 (g64 : Nat → Nat → Int32) (n : Nat) (p : Int32) (V : Nat) (k5 : Nat) (k6 : Nat) (a6 : Int32 × (Nat → Nat → Int32)) : Int32 × (Nat → Nat → Int32) := (if ((nI (1 + k5)) &&& ((nI V) ^^^ ((-1) : Int32))) = 0 then (if (vX10_has (nI (1 + k5)) (nI k6)) = 0 then (a6.1, a6.2) else (if ((nI (1 + k5)) &&& ((1 <<< ((nI k6) &&& 31)) ^^^ ((-1) : Int32))) = 0 then (if (nI (1 + k5)) = (nI V) then (if a6.1 = (-1) then ((jj_fo (fX10_round_8 g64 k5 k6 a6) n (vX10_way g64 p (nI k6))), (jj_ug a6.2 (((nI (1 + k5)) : Int32).toNatClampNeg) (k6) (jj_fo (fX10_round_8 g64 k5 k6 a6) n (vX10_way g64 p (nI k6))))) else ((vX10_less a6.1 (jj_fo (fX10_round_8 g64 k5 k6 a6) n (vX10_way g64 p (nI k6)))), (jj_ug a6.2 (((nI (1 + k5)) : Int32).toNatClampNeg) (k6) (jj_fo (fX10_round_8 g64 k5 k6 a6) n (vX10_way g64 p (nI k6)))))) else (a6.1, (jj_ug a6.2 (((nI (1 + k5)) : Int32).toNatClampNeg) (k6) (jj_fo (fX10_round_8 g64 k5 k6 a6) n (vX10_way g64 p (nI k6)))))) else (if (nI (1 + k5)) = (nI V) then (if a6.1 = (-1) then ((jj_fo (fX10_round_7 g64 k5 k6 a6) n (-1)), (jj_ug a6.2 (((nI (1 + k5)) : Int32).toNatClampNeg) (k6) (jj_fo (fX10_round_7 g64 k5 k6 a6) n (-1)))) else ((vX10_less a6.1 (jj_fo (fX10_round_7 g64 k5 k6 a6) n (-1))), (jj_ug a6.2 (((nI (1 + k5)) : Int32).toNatClampNeg) (k6) (jj_fo (fX10_round_7 g64 k5 k6 a6) n (-1))))) else (a6.1, (jj_ug a6.2 (((nI (1 + k5)) : Int32).toNatClampNeg) (k6) (jj_fo (fX10_round_7 g64 k5 k6 a6) n (-1))))))) else (a6.1, a6.2))
def fX10_round_5 (g64 : Nat → Nat → Int32) (n : Nat) (p : Int32) (V : Nat) (k5 : Nat) (a5 : Int32 × (Nat → Nat → Int32)) : Int32 × (Nat → Nat → Int32) := ((jj_fo (fX10_round_6 g64 n p V k5) n (a5.1, a5.2)).1, (jj_fo (fX10_round_6 g64 n p V k5) n (a5.1, a5.2)).2)
def vX10_round (r49 : Nat → Int32) (r51 : Nat → Int32) (g64 : Nat → Nat → Int32) (g521 : Nat → Nat → Int32) (n : Nat) (p : Int32) (v : Int32) : Int32 := (if (vX10_isPerson n p) = 0 then 0 else (if (vX10_in v 0 (vX10_everybody n)) = 0 then 0 else (if v = 0 then (jj_fo (fX10_round_5 g64 n p (v : Int32).toNatClampNeg) (v : Int32).toNatClampNeg (0, g521)).1 else (jj_fo (fX10_round_1 g64 n p (v : Int32).toNatClampNeg) (v : Int32).toNatClampNeg ((-1), g521)).1)))
def rX10_round_49 (r49 : Nat → Int32) (r51 : Nat → Int32) (g64 : Nat → Nat → Int32) (g521 : Nat → Nat → Int32) (n : Nat) (p : Int32) (v : Int32) : Nat → Int32 := (if (vX10_isPerson n p) = 0 then (upd (upd r49 (0) 0) (0) 1) else (if (vX10_in v 0 (vX10_everybody n)) = 0 then (upd (upd r49 (0) 0) (0) 2) else (upd r49 (0) 0)))
def rX10_round_51 (r49 : Nat → Int32) (r51 : Nat → Int32) (g64 : Nat → Nat → Int32) (g521 : Nat → Nat → Int32) (n : Nat) (p : Int32) (v : Int32) : Nat → Int32 := (if (vX10_isPerson n p) = 0 then (upd r51 (0) ((r51 0) + 1)) else (if (vX10_in v 0 (vX10_everybody n)) = 0 then (upd r51 (1) ((r51 1) + 1)) else r51))
def qX10_round_521 (r49 : Nat → Int32) (r51 : Nat → Int32) (g64 : Nat → Nat → Int32) (g521 : Nat → Nat → Int32) (n : Nat) (p : Int32) (v : Int32) : Nat → Nat → Int32 := (if (vX10_isPerson n p) = 0 then g521 else (if (vX10_in v 0 (vX10_everybody n)) = 0 then g521 else (if v = 0 then (jj_fo (fX10_round_5 g64 n p (v : Int32).toNatClampNeg) (v : Int32).toNatClampNeg (0, g521)).2 else (jj_fo (fX10_round_1 g64 n p (v : Int32).toNatClampNeg) (v : Int32).toNatClampNeg ((-1), g521)).2)))
set_option maxHeartbeats 8000000 in
theorem sp_X10_round {d kc ks : Nat} {h : Nat → Nat → Int32} {g : Nat → Nat → Int64} {Q : jj_Rs → jj_St → Prop} {n : Nat} {p : Int32} {v : Int32} (hT : h 53 0 = nI n) (hn : n ≤ 8) (kq : Q (.inl (some (.int (vX10_round (h 49) (h 51) (jj_gd h 64 8) (jj_gd h 521 256) n p v)))) (jj_S, 782, (jj_rs (jj_gs h 521 256 (qX10_round_521 (h 49) (h 51) (jj_gd h 64 8) (jj_gd h 521 256) n p v)) [(49, (rX10_round_49 (h 49) (h 51) (jj_gd h 64 8) (jj_gd h 521 256) n p v)), (51, (rX10_round_51 (h 49) (h 51) (jj_gd h 64 8) (jj_gd h 521 256) n p v))]), g)) : jj_R mX10_round (d + 2) kc ks (jj_S, 782, h, g) 0 [(0, .ref 49), (1, .int p), (2, .int v)] [] Q := by
  refine rr_aload_n 0 rfl rfl dX10_round_0 ?_
  refine rr_iconst 0 rfl dX10_round_1 ?_
  refine rr_putI dX10_round_2 fX10_95 ni10_0 lo_49 sh_49 rfl ?_
  rw [jj_rs_set0 (B := h) (o := 49) (r := (h 49)) rfl]
  refine rr_aload_n 0 rfl rfl dX10_round_5 ?_
  refine rr_aload_n 0 rfl rfl dX10_round_6 ?_
  refine rr_iload_n 1 rfl rfl dX10_round_7 ?_
  refine rr_callV (As := [.int p]) (rest := [.ref 49]) (kc2 := 0) (ks2 := 0) dX10_round_8 okX10_isPerson lX10_321 lo_49 sh_49 rfl rfl (Nat.le_of_ble_eq_true rfl) (Nat.le_of_ble_eq_true rfl) rfl (by omega) (by simp [jj_rk]) (by simp [jj_rk]) ?_
  refine sp_X10_isPerson (by first | exact hT | exact (congrFun (jj_eq.rf 53 (by decide)) 0).trans hT) hn ?_
  show jj_R _ _ kc ks (jj_S, 782, (jj_rs h [(49, (upd (h 49) (0) 0))]), g) 11 [(0, .ref 49), (1, .int p), (2, .int v)] [.int (vX10_isPerson n p), .ref 49] Q
  refine rr_if_ne dX10_round_11 (fun c1 => ?_) (fun c1 => ?_)
  · skip
    refine rr_iconst 0 rfl dX10_round_18 ?_
    refine rr_iconst 1 rfl dX10_round_19 ?_
    refine rr_iconst 0 rfl dX10_round_20 ?_
    refine rr_callV (As := [.int 0, .int 1, .int 0]) (rest := []) (kc2 := 0) (ks2 := 0) dX10_round_21 okX10_bad lX10_171 lo_49 sh_49 rfl rfl (Nat.le_of_ble_eq_true rfl) (Nat.le_of_ble_eq_true rfl) rfl (by omega) (by simp [jj_rk]) (by simp [jj_rk]) ?_
    refine sp_X10_bad0_10 rfl ?_
    show jj_R _ _ kc ks (jj_S, 782, (jj_rs h [(49, (upd (h 49) (0) 0))]), g) 24 [(0, .ref 49), (1, .int p), (2, .int v)] [.int 0] Q
    refine rr_if_ne dX10_round_24 (fun c => absurd c (by decide)) (fun _ => ?_)
    refine rr_aload_n 0 rfl rfl dX10_round_27 ?_
    refine rr_iload_n 2 rfl rfl dX10_round_28 ?_
    refine rr_iconst 0 rfl dX10_round_29 ?_
    refine rr_aload_n 0 rfl rfl dX10_round_30 ?_
    refine rr_callV (As := []) (rest := [.int 0, .int v, .ref 49]) (kc2 := 0) (ks2 := 0) dX10_round_31 okX10_everybody lX10_333 lo_49 sh_49 rfl rfl (Nat.le_of_ble_eq_true rfl) (Nat.le_of_ble_eq_true rfl) rfl (by omega) (by simp [jj_rk]) (by simp [jj_rk]) ?_
    refine sp_X10_everybody (by first | exact hT | exact (congrFun (jj_eq.rf 53 (by decide)) 0).trans hT) hn ?_
    show jj_R _ _ kc ks (jj_S, 782, (jj_rs h [(49, (upd (h 49) (0) 0))]), g) 34 [(0, .ref 49), (1, .int p), (2, .int v)] [.int (vX10_everybody n), .int 0, .int v, .ref 49] Q
    refine rr_callS (As := [.int v, .int 0, .int (vX10_everybody n)]) (rest := [.ref 49]) (kc2 := 0) (ks2 := 0) dX10_round_34 okX10_in lX10_129 rfl (Nat.le_of_ble_eq_true rfl) (Nat.le_of_ble_eq_true rfl) rfl (by omega) (by simp [jj_rk]) (by simp [jj_rk]) ?_
    refine sp_X10_in  ?_
    show jj_R _ _ kc ks (jj_S, 782, (jj_rs h [(49, (upd (h 49) (0) 0))]), g) 37 [(0, .ref 49), (1, .int p), (2, .int v)] [.int (vX10_in v 0 (vX10_everybody n)), .ref 49] Q
    refine rr_if_ne dX10_round_37 (fun c2 => ?_) (fun c2 => ?_)
    · skip
      refine rr_iconst 0 rfl dX10_round_44 ?_
      refine rr_iconst 2 rfl dX10_round_45 ?_
      refine rr_iconst 1 rfl dX10_round_46 ?_
      refine rr_callV (As := [.int 0, .int 2, .int 1]) (rest := []) (kc2 := 0) (ks2 := 0) dX10_round_47 okX10_bad lX10_171 lo_49 sh_49 rfl rfl (Nat.le_of_ble_eq_true rfl) (Nat.le_of_ble_eq_true rfl) rfl (by omega) (by simp [jj_rk]) (by simp [jj_rk]) ?_
      refine sp_X10_bad0_21 rfl ?_
      show jj_R _ _ kc ks (jj_S, 782, (jj_rs h [(49, (upd (h 49) (0) 0))]), g) 50 [(0, .ref 49), (1, .int p), (2, .int v)] [.int 0] Q
      refine rr_if_eq dX10_round_50 (fun _ => ?_) (fun c => absurd (by decide) c)
      refine rr_iload_n 2 rfl rfl dX10_round_55 ?_
      refine rr_if_ne dX10_round_56 (fun c3 => ?_) (fun c3 => ?_)
      · skip
        refine rr_iconst (-1) rfl dX10_round_63 ?_
        refine rr_istore_n [(0, .ref 49), (1, .int p), (2, .int v), (3, .int (-1))] dX10_round_64 rfl (by decide) rfl ?_
        obtain ⟨V, hV, rfl⟩ := jj_ev hn (by assumption)
        refine rr_iconst 1 rfl dX10_round_65 ?_
        refine rr_istore [(0, .ref 49), (1, .int p), (2, .int (nI V)), (3, .int (-1)), (4, .int 1)] dX10_round_66 (by decide) rfl ?_
        refine jj_Rh (jj_gs_id (B := h) (L := [(49, (upd (h 49) (0) 0))]) (b := 521) (len := 256)) ?_
        refine jj_for (fun k1 (a1 : Int32 × (Nat → Nat → Int32)) => jj_R _ _ kc ks (jj_S, 782, (jj_rs (jj_gs h 521 256 a1.2) [(49, (upd (h 49) (0) 0))]), g) 68 [(0, .ref 49), (1, .int p), (2, .int (nI V)), (3, .int a1.1), (4, .int (nI (1 + k1)))] [] Q) (fX10_round_1 (jj_gd h 64 8) n p V) V ((-1), (jj_gd h 521 256)) ?_ ?_
        · intro k1 hk1 ih1
          generalize jj_fo _ k1 _ = a1 at ih1 ⊢
          try dsimp only at ih1 ⊢
          refine rr_iload 4 rfl dX10_round_68 ?_
          refine rr_iload_n 2 rfl rfl dX10_round_70 ?_
          refine rr_icmp_gt dX10_round_71 (fun c => absurd c (jj_ngt (a := (1 + k1)) (b := V) (by omega) (by omega))) (fun _ => ?_)
          refine rr_iconst 0 rfl dX10_round_74 ?_
          refine rr_istore [(0, .ref 49), (1, .int p), (2, .int (nI V)), (3, .int a1.1), (4, .int (nI (1 + k1))), (5, .int 0)] dX10_round_75 (by decide) rfl ?_
          refine jj_for (fun k2 (a2 : Int32 × (Nat → Nat → Int32)) => jj_R _ _ kc ks (jj_S, 782, (jj_rs (jj_gs h 521 256 a2.2) [(49, (upd (h 49) (0) 0))]), g) 77 [(0, .ref 49), (1, .int p), (2, .int (nI V)), (3, .int a2.1), (4, .int (nI (1 + k1))), (5, .int (nI k2))] [] Q) (fX10_round_2 (jj_gd h 64 8) n p V k1) n (a1.1, a1.2) ?_ ?_
          · intro k2 hk2 ih2
            generalize jj_fo _ k2 _ = a2 at ih2 ⊢
            try dsimp only at ih2 ⊢
            refine rr_iload 5 rfl dX10_round_77 ?_
            refine rr_aload_n 0 rfl rfl dX10_round_79 ?_
            refine rr_getR dX10_round_80 fX10_23 lo_49 sh_49 rfl ?_
            refine rr_iconst 0 rfl dX10_round_83 ?_
            refine rr_iaload dX10_round_84 lo_53 sh_53 (jj_inL rfl) ?_
            rw [show (jj_rs (jj_gs h 521 256 a2.2) [(49, (upd (h 49) (0) 0))]) 53 = h 53 from rfl]
            rw [show (h 53) (0 : Int32).toNatClampNeg = (nI n) from hT]
            refine rr_icmp_ge dX10_round_85 (fun c => absurd c (nI_ge (a := k2) (b := n) (by omega) (by omega))) (fun _ => ?_)
            refine rr_iload 4 rfl dX10_round_88 ?_
            refine rr_iload_n 2 rfl rfl dX10_round_90 ?_
            refine rr_iconst (-1) rfl dX10_round_91 ?_
            refine rr_ixor dX10_round_92 ?_
            refine rr_iand dX10_round_93 ?_
            refine rr_if_ne dX10_round_94 (fun c4 => ?_) (fun c4 => ?_)
            · skip
              refine rr_iinc 5 1 [(0, .ref 49), (1, .int p), (2, .int (nI V)), (3, .int a2.1), (4, .int (nI (1 + k1))), (5, .int ((nI k2) + 1))] dX10_round_252 rfl rfl (by decide) rfl ?_
              refine rr_goto dX10_round_255 ?_
              try simp only [(nI_clamp (show k2 < 2 ^ 31 by omega))] at c4
              simpa only [nI_1, (nI_clamp (show k2 < 2 ^ 31 by omega)), fX10_round_2, if_neg c4] using ih2
            · skip
              refine rr_iload 4 rfl dX10_round_97 ?_
              refine rr_iload 5 rfl dX10_round_99 ?_
              refine rr_callS (As := [.int (nI (1 + k1)), .int (nI k2)]) (rest := []) (kc2 := 0) (ks2 := 0) dX10_round_101 okX10_has lX10_254 rfl (Nat.le_of_ble_eq_true rfl) (Nat.le_of_ble_eq_true rfl) rfl (by omega) (by simp [jj_rk]) (by simp [jj_rk]) ?_
              refine sp_X10_has  ?_
              show jj_R _ _ kc ks (jj_S, 782, (jj_rs (jj_gs h 521 256 a2.2) [(49, (upd (h 49) (0) 0))]), g) 104 [(0, .ref 49), (1, .int p), (2, .int (nI V)), (3, .int a2.1), (4, .int (nI (1 + k1))), (5, .int (nI k2))] [.int (vX10_has (nI (1 + k1)) (nI k2))] Q
              refine rr_if_ne dX10_round_104 (fun c5 => ?_) (fun c5 => ?_)
              · skip
                refine rr_iload 4 rfl dX10_round_110 ?_
                refine rr_iconst 1 rfl dX10_round_112 ?_
                refine rr_iload 5 rfl dX10_round_113 ?_
                refine rr_ishl dX10_round_115 ?_
                refine rr_iconst (-1) rfl dX10_round_116 ?_
                refine rr_ixor dX10_round_117 ?_
                refine rr_iand dX10_round_118 ?_
                refine rr_istore [(0, .ref 49), (1, .int p), (2, .int (nI V)), (3, .int a2.1), (4, .int (nI (1 + k1))), (5, .int (nI k2)), (6, .int ((nI (1 + k1)) &&& ((1 <<< ((nI k2) &&& 31)) ^^^ ((-1) : Int32))))] dX10_round_119 (by decide) rfl ?_
                refine rr_iload 6 rfl dX10_round_121 ?_
                refine rr_if_ne dX10_round_123 (fun c6 => ?_) (fun c6 => ?_)
                · skip
                  refine rr_iconst (-1) rfl dX10_round_136 ?_
                  refine rr_istore [(0, .ref 49), (1, .int p), (2, .int (nI V)), (3, .int a2.1), (4, .int (nI (1 + k1))), (5, .int (nI k2)), (6, .int ((nI (1 + k1)) &&& ((1 <<< ((nI k2) &&& 31)) ^^^ ((-1) : Int32)))), (7, .int (-1))] dX10_round_137 (by decide) rfl ?_
                  refine rr_iconst 0 rfl dX10_round_139 ?_
                  refine rr_istore [(0, .ref 49), (1, .int p), (2, .int (nI V)), (3, .int a2.1), (4, .int (nI (1 + k1))), (5, .int (nI k2)), (6, .int ((nI (1 + k1)) &&& ((1 <<< ((nI k2) &&& 31)) ^^^ ((-1) : Int32)))), (7, .int (-1)), (8, .int 0)] dX10_round_140 (by decide) rfl ?_
                  refine jj_for (fun k3 (a3 : Int32) => jj_R _ _ kc ks (jj_S, 782, (jj_rs (jj_gs h 521 256 a2.2) [(49, (upd (h 49) (0) 0))]), g) 142 [(0, .ref 49), (1, .int p), (2, .int (nI V)), (3, .int a2.1), (4, .int (nI (1 + k1))), (5, .int (nI k2)), (6, .int ((nI (1 + k1)) &&& ((1 <<< ((nI k2) &&& 31)) ^^^ ((-1) : Int32)))), (7, .int a3), (8, .int (nI k3))] [] Q) (fX10_round_3 (jj_gd h 64 8) k1 k2 a2) n (-1) ?_ ?_
                  · intro k3 hk3 ih3
                    generalize jj_fo _ k3 _ = a3 at ih3 ⊢
                    try dsimp only at ih3 ⊢
                    refine rr_iload 8 rfl dX10_round_142 ?_
                    refine rr_aload_n 0 rfl rfl dX10_round_144 ?_
                    refine rr_getR dX10_round_145 fX10_23 lo_49 sh_49 rfl ?_
                    refine rr_iconst 0 rfl dX10_round_148 ?_
                    refine rr_iaload dX10_round_149 lo_53 sh_53 (jj_inL rfl) ?_
                    rw [show (jj_rs (jj_gs h 521 256 a2.2) [(49, (upd (h 49) (0) 0))]) 53 = h 53 from rfl]
                    rw [show (h 53) (0 : Int32).toNatClampNeg = (nI n) from hT]
                    refine rr_icmp_ge dX10_round_150 (fun c => absurd c (nI_ge (a := k3) (b := n) (by omega) (by omega))) (fun _ => ?_)
                    refine rr_iload 6 rfl dX10_round_153 ?_
                    refine rr_iload 8 rfl dX10_round_155 ?_
                    refine rr_callS (As := [.int ((nI (1 + k1)) &&& ((1 <<< ((nI k2) &&& 31)) ^^^ ((-1) : Int32))), .int (nI k3)]) (rest := []) (kc2 := 0) (ks2 := 0) dX10_round_157 okX10_has lX10_254 rfl (Nat.le_of_ble_eq_true rfl) (Nat.le_of_ble_eq_true rfl) rfl (by omega) (by simp [jj_rk]) (by simp [jj_rk]) ?_
                    refine sp_X10_has  ?_
                    show jj_R _ _ kc ks (jj_S, 782, (jj_rs (jj_gs h 521 256 a2.2) [(49, (upd (h 49) (0) 0))]), g) 160 [(0, .ref 49), (1, .int p), (2, .int (nI V)), (3, .int a2.1), (4, .int (nI (1 + k1))), (5, .int (nI k2)), (6, .int ((nI (1 + k1)) &&& ((1 <<< ((nI k2) &&& 31)) ^^^ ((-1) : Int32)))), (7, .int a3), (8, .int (nI k3))] [.int (vX10_has ((nI (1 + k1)) &&& ((1 <<< ((nI k2) &&& 31)) ^^^ ((-1) : Int32))) (nI k3))] Q
                    refine rr_if_ne dX10_round_160 (fun c7 => ?_) (fun c7 => ?_)
                    · skip
                      refine rr_aload_n 0 rfl rfl dX10_round_166 ?_
                      refine rr_getR dX10_round_167 fX10_73 lo_49 sh_49 rfl ?_
                      refine rr_iload 6 rfl dX10_round_170 ?_
                      refine rr_aaload dX10_round_172 lo_520 sh_520 (jj_and256 (by omega)) ?_
                      refine rr_iload 8 rfl dX10_round_173 ?_
                      refine rr_iaload dX10_round_175 (lr_520 (jj_ink (i := ((nI (1 + k1)) &&& ((1 <<< ((nI k2) &&& 31)) ^^^ ((-1) : Int32)))) (jj_and256 (by omega)))) (sr_520 (jj_ink (i := ((nI (1 + k1)) &&& ((1 <<< ((nI k2) &&& 31)) ^^^ ((-1) : Int32)))) (jj_and256 (by omega)))) (vp_in_nI (by omega) (by decide)) ?_
                      rw [show (jj_rs (jj_gs h 521 256 a2.2) [(49, (upd (h 49) (0) 0))]) (521 + (((nI (1 + k1)) &&& ((1 <<< ((nI k2) &&& 31)) ^^^ ((-1) : Int32))) : Int32).toNatClampNeg) = a2.2 (((nI (1 + k1)) &&& ((1 <<< ((nI k2) &&& 31)) ^^^ ((-1) : Int32))) : Int32).toNatClampNeg from jj_gs_at (L := [(49, (upd (h 49) (0) 0))]) rfl (jj_ink (i := ((nI (1 + k1)) &&& ((1 <<< ((nI k2) &&& 31)) ^^^ ((-1) : Int32)))) (jj_and256 (by omega)))]
                      refine rr_aload_n 0 rfl rfl dX10_round_176 ?_
                      refine rr_iload 8 rfl dX10_round_177 ?_
                      refine rr_iload 5 rfl dX10_round_179 ?_
                      refine rr_callV (As := [.int (nI k3), .int (nI k2)]) (rest := [.int (a2.2 (((nI (1 + k1)) &&& ((1 <<< ((nI k2) &&& 31)) ^^^ ((-1) : Int32))) : Int32).toNatClampNeg ((nI k3) : Int32).toNatClampNeg)]) (kc2 := 0) (ks2 := 0) dX10_round_181 okX10_way lX10_330 lo_49 sh_49 rfl rfl (Nat.le_of_ble_eq_true rfl) (Nat.le_of_ble_eq_true rfl) rfl (by omega) (by simp [jj_rk]) (by simp [jj_rk]) ?_
                      refine sp_X10_way (vp_in_nI (by omega) (by decide)) (vp_in_nI (by omega) (by decide)) ?_
                      show jj_R _ _ kc ks (jj_S, 782, (jj_rs (jj_gs h 521 256 a2.2) [(49, (upd (h 49) (0) 0))]), g) 184 [(0, .ref 49), (1, .int p), (2, .int (nI V)), (3, .int a2.1), (4, .int (nI (1 + k1))), (5, .int (nI k2)), (6, .int ((nI (1 + k1)) &&& ((1 <<< ((nI k2) &&& 31)) ^^^ ((-1) : Int32)))), (7, .int a3), (8, .int (nI k3))] [.int (vX10_way (jj_gd (jj_rs (jj_gs h 521 256 a2.2) [(49, (upd (h 49) (0) 0))]) 64 8) (nI k3) (nI k2)), .int (a2.2 (((nI (1 + k1)) &&& ((1 <<< ((nI k2) &&& 31)) ^^^ ((-1) : Int32))) : Int32).toNatClampNeg ((nI k3) : Int32).toNatClampNeg)] Q
                      try rw [show jj_gd (jj_rs (jj_gs h 521 256 a2.2) [(49, (upd (h 49) (0) 0))]) 64 8 = jj_gd h 64 8 from ((jj_gd_rs (B := (jj_gs h 521 256 a2.2)) (L := [(49, (upd (h 49) (0) 0))]) (b := 64) (len := 8) rfl).trans (jj_gd_gs (B := h) (b := 521) (len := 256) (b2 := 64) (len2 := 8) rfl))]
                      refine rr_iadd dX10_round_184 ?_
                      refine rr_istore [(0, .ref 49), (1, .int p), (2, .int (nI V)), (3, .int a2.1), (4, .int (nI (1 + k1))), (5, .int (nI k2)), (6, .int ((nI (1 + k1)) &&& ((1 <<< ((nI k2) &&& 31)) ^^^ ((-1) : Int32)))), (7, .int a3), (8, .int (nI k3)), (9, .int ((a2.2 (((nI (1 + k1)) &&& ((1 <<< ((nI k2) &&& 31)) ^^^ ((-1) : Int32))) : Int32).toNatClampNeg ((nI k3) : Int32).toNatClampNeg) + (vX10_way (jj_gd h 64 8) (nI k3) (nI k2))))] dX10_round_185 (by decide) rfl ?_
                      refine rr_iload 7 rfl dX10_round_187 ?_
                      refine rr_iconst (-1) rfl dX10_round_189 ?_
                      refine rr_icmp_ne dX10_round_190 (fun c8 => ?_) (fun c8 => ?_)
                      · skip
                        refine rr_iload 7 rfl dX10_round_198 ?_
                        refine rr_iload 9 rfl dX10_round_200 ?_
                        refine rr_callS (As := [.int a3, .int ((a2.2 (((nI (1 + k1)) &&& ((1 <<< ((nI k2) &&& 31)) ^^^ ((-1) : Int32))) : Int32).toNatClampNeg ((nI k3) : Int32).toNatClampNeg) + (vX10_way (jj_gd h 64 8) (nI k3) (nI k2)))]) (rest := []) (kc2 := 0) (ks2 := 0) dX10_round_202 okX10_less lX10_235 rfl (Nat.le_of_ble_eq_true rfl) (Nat.le_of_ble_eq_true rfl) rfl (by omega) (by simp [jj_rk]) (by simp [jj_rk]) ?_
                        refine sp_X10_less  ?_
                        show jj_R _ _ kc ks (jj_S, 782, (jj_rs (jj_gs h 521 256 a2.2) [(49, (upd (h 49) (0) 0))]), g) 205 [(0, .ref 49), (1, .int p), (2, .int (nI V)), (3, .int a2.1), (4, .int (nI (1 + k1))), (5, .int (nI k2)), (6, .int ((nI (1 + k1)) &&& ((1 <<< ((nI k2) &&& 31)) ^^^ ((-1) : Int32)))), (7, .int a3), (8, .int (nI k3)), (9, .int ((a2.2 (((nI (1 + k1)) &&& ((1 <<< ((nI k2) &&& 31)) ^^^ ((-1) : Int32))) : Int32).toNatClampNeg ((nI k3) : Int32).toNatClampNeg) + (vX10_way (jj_gd h 64 8) (nI k3) (nI k2))))] [.int (vX10_less a3 ((a2.2 (((nI (1 + k1)) &&& ((1 <<< ((nI k2) &&& 31)) ^^^ ((-1) : Int32))) : Int32).toNatClampNeg ((nI k3) : Int32).toNatClampNeg) + (vX10_way (jj_gd h 64 8) (nI k3) (nI k2))))] Q
                        refine rr_istore [(0, .ref 49), (1, .int p), (2, .int (nI V)), (3, .int a2.1), (4, .int (nI (1 + k1))), (5, .int (nI k2)), (6, .int ((nI (1 + k1)) &&& ((1 <<< ((nI k2) &&& 31)) ^^^ ((-1) : Int32)))), (7, .int (vX10_less a3 ((a2.2 (((nI (1 + k1)) &&& ((1 <<< ((nI k2) &&& 31)) ^^^ ((-1) : Int32))) : Int32).toNatClampNeg ((nI k3) : Int32).toNatClampNeg) + (vX10_way (jj_gd h 64 8) (nI k3) (nI k2))))), (8, .int (nI k3)), (9, .int ((a2.2 (((nI (1 + k1)) &&& ((1 <<< ((nI k2) &&& 31)) ^^^ ((-1) : Int32))) : Int32).toNatClampNeg ((nI k3) : Int32).toNatClampNeg) + (vX10_way (jj_gd h 64 8) (nI k3) (nI k2))))] dX10_round_205 (by decide) rfl ?_
                        refine rr_iinc 8 1 [(0, .ref 49), (1, .int p), (2, .int (nI V)), (3, .int a2.1), (4, .int (nI (1 + k1))), (5, .int (nI k2)), (6, .int ((nI (1 + k1)) &&& ((1 <<< ((nI k2) &&& 31)) ^^^ ((-1) : Int32)))), (7, .int (vX10_less a3 ((a2.2 (((nI (1 + k1)) &&& ((1 <<< ((nI k2) &&& 31)) ^^^ ((-1) : Int32))) : Int32).toNatClampNeg ((nI k3) : Int32).toNatClampNeg) + (vX10_way (jj_gd h 64 8) (nI k3) (nI k2))))), (8, .int ((nI k3) + 1)), (9, .int ((a2.2 (((nI (1 + k1)) &&& ((1 <<< ((nI k2) &&& 31)) ^^^ ((-1) : Int32))) : Int32).toNatClampNeg ((nI k3) : Int32).toNatClampNeg) + (vX10_way (jj_gd h 64 8) (nI k3) (nI k2))))] dX10_round_207 rfl rfl (by decide) rfl ?_
                        refine rr_goto dX10_round_210 ?_
                        try simp only [(nI_clamp (show k3 < 2 ^ 31 by omega))] at c7
                        try simp only [(nI_clamp (show k3 < 2 ^ 31 by omega))] at c8
                        refine rr_drop (ls := [(0, .ref 49), (1, .int p), (2, .int (nI V)), (3, .int a2.1), (4, .int (nI (1 + k1))), (5, .int (nI k2)), (6, .int ((nI (1 + k1)) &&& ((1 <<< ((nI k2) &&& 31)) ^^^ ((-1) : Int32)))), (7, .int (vX10_less a3 ((a2.2 (((nI (1 + k1)) &&& ((1 <<< ((nI k2) &&& 31)) ^^^ ((-1) : Int32))) : Int32).toNatClampNeg ((nI k3) : Int32).toNatClampNeg) + (vX10_way (jj_gd h 64 8) (nI k3) (nI k2))))), (8, .int ((nI k3) + 1))]) [0, 1, 2, 3, 4, 5, 6, 7, 8] rfl ?_
                        simpa only [nI_1, (nI_clamp (show k3 < 2 ^ 31 by omega)), fX10_round_3, if_neg c7, if_neg c8] using ih3
                      · skip
                        refine rr_iload 9 rfl dX10_round_193 ?_
                        refine rr_goto dX10_round_195 ?_
                        refine rr_istore [(0, .ref 49), (1, .int p), (2, .int (nI V)), (3, .int a2.1), (4, .int (nI (1 + k1))), (5, .int (nI k2)), (6, .int ((nI (1 + k1)) &&& ((1 <<< ((nI k2) &&& 31)) ^^^ ((-1) : Int32)))), (7, .int ((a2.2 (((nI (1 + k1)) &&& ((1 <<< ((nI k2) &&& 31)) ^^^ ((-1) : Int32))) : Int32).toNatClampNeg ((nI k3) : Int32).toNatClampNeg) + (vX10_way (jj_gd h 64 8) (nI k3) (nI k2)))), (8, .int (nI k3)), (9, .int ((a2.2 (((nI (1 + k1)) &&& ((1 <<< ((nI k2) &&& 31)) ^^^ ((-1) : Int32))) : Int32).toNatClampNeg ((nI k3) : Int32).toNatClampNeg) + (vX10_way (jj_gd h 64 8) (nI k3) (nI k2))))] dX10_round_205 (by decide) rfl ?_
                        refine rr_iinc 8 1 [(0, .ref 49), (1, .int p), (2, .int (nI V)), (3, .int a2.1), (4, .int (nI (1 + k1))), (5, .int (nI k2)), (6, .int ((nI (1 + k1)) &&& ((1 <<< ((nI k2) &&& 31)) ^^^ ((-1) : Int32)))), (7, .int ((a2.2 (((nI (1 + k1)) &&& ((1 <<< ((nI k2) &&& 31)) ^^^ ((-1) : Int32))) : Int32).toNatClampNeg ((nI k3) : Int32).toNatClampNeg) + (vX10_way (jj_gd h 64 8) (nI k3) (nI k2)))), (8, .int ((nI k3) + 1)), (9, .int ((a2.2 (((nI (1 + k1)) &&& ((1 <<< ((nI k2) &&& 31)) ^^^ ((-1) : Int32))) : Int32).toNatClampNeg ((nI k3) : Int32).toNatClampNeg) + (vX10_way (jj_gd h 64 8) (nI k3) (nI k2))))] dX10_round_207 rfl rfl (by decide) rfl ?_
                        refine rr_goto dX10_round_210 ?_
                        try simp only [(nI_clamp (show k3 < 2 ^ 31 by omega))] at c7
                        try simp only [(nI_clamp (show k3 < 2 ^ 31 by omega))] at c8
                        refine rr_drop (ls := [(0, .ref 49), (1, .int p), (2, .int (nI V)), (3, .int a2.1), (4, .int (nI (1 + k1))), (5, .int (nI k2)), (6, .int ((nI (1 + k1)) &&& ((1 <<< ((nI k2) &&& 31)) ^^^ ((-1) : Int32)))), (7, .int ((a2.2 (((nI (1 + k1)) &&& ((1 <<< ((nI k2) &&& 31)) ^^^ ((-1) : Int32))) : Int32).toNatClampNeg ((nI k3) : Int32).toNatClampNeg) + (vX10_way (jj_gd h 64 8) (nI k3) (nI k2)))), (8, .int ((nI k3) + 1))]) [0, 1, 2, 3, 4, 5, 6, 7, 8] rfl ?_
                        simpa only [nI_1, (nI_clamp (show k3 < 2 ^ 31 by omega)), fX10_round_3, if_neg c7, if_pos c8] using ih3
                    · skip
                      refine rr_goto dX10_round_163 ?_
                      refine rr_iinc 8 1 [(0, .ref 49), (1, .int p), (2, .int (nI V)), (3, .int a2.1), (4, .int (nI (1 + k1))), (5, .int (nI k2)), (6, .int ((nI (1 + k1)) &&& ((1 <<< ((nI k2) &&& 31)) ^^^ ((-1) : Int32)))), (7, .int a3), (8, .int ((nI k3) + 1))] dX10_round_207 rfl rfl (by decide) rfl ?_
                      refine rr_goto dX10_round_210 ?_
                      try simp only [(nI_clamp (show k3 < 2 ^ 31 by omega))] at c7
                      simpa only [nI_1, (nI_clamp (show k3 < 2 ^ 31 by omega)), fX10_round_3, if_pos c7] using ih3
                  · try dsimp only
                    refine rr_iload 8 rfl dX10_round_142 ?_
                    refine rr_aload_n 0 rfl rfl dX10_round_144 ?_
                    refine rr_getR dX10_round_145 fX10_23 lo_49 sh_49 rfl ?_
                    refine rr_iconst 0 rfl dX10_round_148 ?_
                    refine rr_iaload dX10_round_149 lo_53 sh_53 (jj_inL rfl) ?_
                    rw [show (jj_rs (jj_gs h 521 256 a2.2) [(49, (upd (h 49) (0) 0))]) 53 = h 53 from rfl]
                    rw [show (h 53) (0 : Int32).toNatClampNeg = (nI n) from hT]
                    refine rr_icmp_ge dX10_round_150 (fun _ => ?_) (fun c => absurd (jj_le_rf _) c)
                    refine rr_aload_n 0 rfl rfl dX10_round_213 ?_
                    refine rr_getR dX10_round_214 fX10_73 lo_49 sh_49 rfl ?_
                    refine rr_iload 4 rfl dX10_round_217 ?_
                    refine rr_aaload dX10_round_219 lo_520 sh_520 (vp_in_nI (by omega) (by decide)) ?_
                    refine rr_iload 5 rfl dX10_round_220 ?_
                    refine rr_iload 7 rfl dX10_round_222 ?_
                    refine rr_iastore dX10_round_224 (lr_520 (jj_ink (i := (nI (1 + k1))) (vp_in_nI (by omega) (by decide)))) (sr_520 (jj_ink (i := (nI (1 + k1))) (vp_in_nI (by omega) (by decide)))) (vp_in_nI (by omega) (by decide)) ?_
                    refine jj_Rh (jj_gs_set (B := h) (L := [(49, (upd (h 49) (0) 0))]) (b := 521) (len := 256) (G := a2.2) (x := ((nI (1 + k1)) : Int32).toNatClampNeg) rfl (jj_ink (i := (nI (1 + k1))) (vp_in_nI (by omega) (by decide)))) ?_
                    refine rr_iload 4 rfl dX10_round_225 ?_
                    refine rr_iload_n 2 rfl rfl dX10_round_227 ?_
                    refine rr_icmp_eq dX10_round_228 (fun c9 => ?_) (fun c9 => ?_)
                    · skip
                      refine rr_iload_n 3 rfl rfl dX10_round_235 ?_
                      refine rr_iconst (-1) rfl dX10_round_236 ?_
                      refine rr_icmp_ne dX10_round_237 (fun c10 => ?_) (fun c10 => ?_)
                      · skip
                        refine rr_iload_n 3 rfl rfl dX10_round_245 ?_
                        refine rr_iload 7 rfl dX10_round_246 ?_
                        refine rr_callS (As := [.int a2.1, .int (jj_fo (fX10_round_3 (jj_gd h 64 8) k1 k2 a2) n (-1))]) (rest := []) (kc2 := 0) (ks2 := 0) dX10_round_248 okX10_less lX10_235 rfl (Nat.le_of_ble_eq_true rfl) (Nat.le_of_ble_eq_true rfl) rfl (by omega) (by simp [jj_rk]) (by simp [jj_rk]) ?_
                        refine sp_X10_less  ?_
                        show jj_R _ _ kc ks (jj_S, 782, (jj_rs (jj_gs h 521 256 (jj_ug a2.2 (((nI (1 + k1)) : Int32).toNatClampNeg) (((nI k2) : Int32).toNatClampNeg) (jj_fo (fX10_round_3 (jj_gd h 64 8) k1 k2 a2) n (-1)))) [(49, (upd (h 49) (0) 0))]), g) 251 [(0, .ref 49), (1, .int p), (2, .int (nI V)), (3, .int a2.1), (4, .int (nI (1 + k1))), (5, .int (nI k2)), (6, .int ((nI (1 + k1)) &&& ((1 <<< ((nI k2) &&& 31)) ^^^ ((-1) : Int32)))), (7, .int (jj_fo (fX10_round_3 (jj_gd h 64 8) k1 k2 a2) n (-1))), (8, .int (nI n))] [.int (vX10_less a2.1 (jj_fo (fX10_round_3 (jj_gd h 64 8) k1 k2 a2) n (-1)))] Q
                        refine rr_istore_n [(0, .ref 49), (1, .int p), (2, .int (nI V)), (3, .int (vX10_less a2.1 (jj_fo (fX10_round_3 (jj_gd h 64 8) k1 k2 a2) n (-1)))), (4, .int (nI (1 + k1))), (5, .int (nI k2)), (6, .int ((nI (1 + k1)) &&& ((1 <<< ((nI k2) &&& 31)) ^^^ ((-1) : Int32)))), (7, .int (jj_fo (fX10_round_3 (jj_gd h 64 8) k1 k2 a2) n (-1))), (8, .int (nI n))] dX10_round_251 rfl (by decide) rfl ?_
                        refine rr_iinc 5 1 [(0, .ref 49), (1, .int p), (2, .int (nI V)), (3, .int (vX10_less a2.1 (jj_fo (fX10_round_3 (jj_gd h 64 8) k1 k2 a2) n (-1)))), (4, .int (nI (1 + k1))), (5, .int ((nI k2) + 1)), (6, .int ((nI (1 + k1)) &&& ((1 <<< ((nI k2) &&& 31)) ^^^ ((-1) : Int32)))), (7, .int (jj_fo (fX10_round_3 (jj_gd h 64 8) k1 k2 a2) n (-1))), (8, .int (nI n))] dX10_round_252 rfl rfl (by decide) rfl ?_
                        refine rr_goto dX10_round_255 ?_
                        try simp only [(nI_clamp (show k2 < 2 ^ 31 by omega))] at c4
                        try simp only [(nI_clamp (show k2 < 2 ^ 31 by omega))] at c5
                        try simp only [(nI_clamp (show k2 < 2 ^ 31 by omega))] at c6
                        try simp only [(nI_clamp (show k2 < 2 ^ 31 by omega))] at c9
                        try simp only [(nI_clamp (show k2 < 2 ^ 31 by omega))] at c10
                        refine rr_drop (ls := [(0, .ref 49), (1, .int p), (2, .int (nI V)), (3, .int (vX10_less a2.1 (jj_fo (fX10_round_3 (jj_gd h 64 8) k1 k2 a2) n (-1)))), (4, .int (nI (1 + k1))), (5, .int ((nI k2) + 1))]) [0, 1, 2, 3, 4, 5] rfl ?_
                        simpa only [nI_1, (nI_clamp (show k2 < 2 ^ 31 by omega)), fX10_round_2, if_pos c4, if_neg c5, if_neg c6, if_pos c9, if_neg c10] using ih2
                      · skip
                        refine rr_iload 7 rfl dX10_round_240 ?_
                        refine rr_goto dX10_round_242 ?_
                        refine rr_istore_n [(0, .ref 49), (1, .int p), (2, .int (nI V)), (3, .int (jj_fo (fX10_round_3 (jj_gd h 64 8) k1 k2 a2) n (-1))), (4, .int (nI (1 + k1))), (5, .int (nI k2)), (6, .int ((nI (1 + k1)) &&& ((1 <<< ((nI k2) &&& 31)) ^^^ ((-1) : Int32)))), (7, .int (jj_fo (fX10_round_3 (jj_gd h 64 8) k1 k2 a2) n (-1))), (8, .int (nI n))] dX10_round_251 rfl (by decide) rfl ?_
                        refine rr_iinc 5 1 [(0, .ref 49), (1, .int p), (2, .int (nI V)), (3, .int (jj_fo (fX10_round_3 (jj_gd h 64 8) k1 k2 a2) n (-1))), (4, .int (nI (1 + k1))), (5, .int ((nI k2) + 1)), (6, .int ((nI (1 + k1)) &&& ((1 <<< ((nI k2) &&& 31)) ^^^ ((-1) : Int32)))), (7, .int (jj_fo (fX10_round_3 (jj_gd h 64 8) k1 k2 a2) n (-1))), (8, .int (nI n))] dX10_round_252 rfl rfl (by decide) rfl ?_
                        refine rr_goto dX10_round_255 ?_
                        try simp only [(nI_clamp (show k2 < 2 ^ 31 by omega))] at c4
                        try simp only [(nI_clamp (show k2 < 2 ^ 31 by omega))] at c5
                        try simp only [(nI_clamp (show k2 < 2 ^ 31 by omega))] at c6
                        try simp only [(nI_clamp (show k2 < 2 ^ 31 by omega))] at c9
                        try simp only [(nI_clamp (show k2 < 2 ^ 31 by omega))] at c10
                        refine rr_drop (ls := [(0, .ref 49), (1, .int p), (2, .int (nI V)), (3, .int (jj_fo (fX10_round_3 (jj_gd h 64 8) k1 k2 a2) n (-1))), (4, .int (nI (1 + k1))), (5, .int ((nI k2) + 1))]) [0, 1, 2, 3, 4, 5] rfl ?_
                        simpa only [nI_1, (nI_clamp (show k2 < 2 ^ 31 by omega)), fX10_round_2, if_pos c4, if_neg c5, if_neg c6, if_pos c9, if_pos c10] using ih2
                    · skip
                      refine rr_iload_n 3 rfl rfl dX10_round_231 ?_
                      refine rr_goto dX10_round_232 ?_
                      refine rr_istore_n [(0, .ref 49), (1, .int p), (2, .int (nI V)), (3, .int a2.1), (4, .int (nI (1 + k1))), (5, .int (nI k2)), (6, .int ((nI (1 + k1)) &&& ((1 <<< ((nI k2) &&& 31)) ^^^ ((-1) : Int32)))), (7, .int (jj_fo (fX10_round_3 (jj_gd h 64 8) k1 k2 a2) n (-1))), (8, .int (nI n))] dX10_round_251 rfl (by decide) rfl ?_
                      refine rr_iinc 5 1 [(0, .ref 49), (1, .int p), (2, .int (nI V)), (3, .int a2.1), (4, .int (nI (1 + k1))), (5, .int ((nI k2) + 1)), (6, .int ((nI (1 + k1)) &&& ((1 <<< ((nI k2) &&& 31)) ^^^ ((-1) : Int32)))), (7, .int (jj_fo (fX10_round_3 (jj_gd h 64 8) k1 k2 a2) n (-1))), (8, .int (nI n))] dX10_round_252 rfl rfl (by decide) rfl ?_
                      refine rr_goto dX10_round_255 ?_
                      try simp only [(nI_clamp (show k2 < 2 ^ 31 by omega))] at c4
                      try simp only [(nI_clamp (show k2 < 2 ^ 31 by omega))] at c5
                      try simp only [(nI_clamp (show k2 < 2 ^ 31 by omega))] at c6
                      try simp only [(nI_clamp (show k2 < 2 ^ 31 by omega))] at c9
                      refine rr_drop (ls := [(0, .ref 49), (1, .int p), (2, .int (nI V)), (3, .int a2.1), (4, .int (nI (1 + k1))), (5, .int ((nI k2) + 1))]) [0, 1, 2, 3, 4, 5] rfl ?_
                      simpa only [nI_1, (nI_clamp (show k2 < 2 ^ 31 by omega)), fX10_round_2, if_pos c4, if_neg c5, if_neg c6, if_neg c9] using ih2
                · skip
                  refine rr_aload_n 0 rfl rfl dX10_round_126 ?_
                  refine rr_iload_n 1 rfl rfl dX10_round_127 ?_
                  refine rr_iload 5 rfl dX10_round_128 ?_
                  refine rr_callV (As := [.int p, .int (nI k2)]) (rest := []) (kc2 := 0) (ks2 := 0) dX10_round_130 okX10_way lX10_330 lo_49 sh_49 rfl rfl (Nat.le_of_ble_eq_true rfl) (Nat.le_of_ble_eq_true rfl) rfl (by omega) (by simp [jj_rk]) (by simp [jj_rk]) ?_
                  refine sp_X10_way (jj_pM hn (by assumption)) (vp_in_nI (by omega) (by decide)) ?_
                  show jj_R _ _ kc ks (jj_S, 782, (jj_rs (jj_gs h 521 256 a2.2) [(49, (upd (h 49) (0) 0))]), g) 133 [(0, .ref 49), (1, .int p), (2, .int (nI V)), (3, .int a2.1), (4, .int (nI (1 + k1))), (5, .int (nI k2)), (6, .int ((nI (1 + k1)) &&& ((1 <<< ((nI k2) &&& 31)) ^^^ ((-1) : Int32))))] [.int (vX10_way (jj_gd (jj_rs (jj_gs h 521 256 a2.2) [(49, (upd (h 49) (0) 0))]) 64 8) p (nI k2))] Q
                  try rw [show jj_gd (jj_rs (jj_gs h 521 256 a2.2) [(49, (upd (h 49) (0) 0))]) 64 8 = jj_gd h 64 8 from ((jj_gd_rs (B := (jj_gs h 521 256 a2.2)) (L := [(49, (upd (h 49) (0) 0))]) (b := 64) (len := 8) rfl).trans (jj_gd_gs (B := h) (b := 521) (len := 256) (b2 := 64) (len2 := 8) rfl))]
                  refine rr_goto dX10_round_133 ?_
                  refine rr_istore [(0, .ref 49), (1, .int p), (2, .int (nI V)), (3, .int a2.1), (4, .int (nI (1 + k1))), (5, .int (nI k2)), (6, .int ((nI (1 + k1)) &&& ((1 <<< ((nI k2) &&& 31)) ^^^ ((-1) : Int32)))), (7, .int (vX10_way (jj_gd h 64 8) p (nI k2)))] dX10_round_137 (by decide) rfl ?_
                  refine rr_iconst 0 rfl dX10_round_139 ?_
                  refine rr_istore [(0, .ref 49), (1, .int p), (2, .int (nI V)), (3, .int a2.1), (4, .int (nI (1 + k1))), (5, .int (nI k2)), (6, .int ((nI (1 + k1)) &&& ((1 <<< ((nI k2) &&& 31)) ^^^ ((-1) : Int32)))), (7, .int (vX10_way (jj_gd h 64 8) p (nI k2))), (8, .int 0)] dX10_round_140 (by decide) rfl ?_
                  refine jj_for (fun k4 (a4 : Int32) => jj_R _ _ kc ks (jj_S, 782, (jj_rs (jj_gs h 521 256 a2.2) [(49, (upd (h 49) (0) 0))]), g) 142 [(0, .ref 49), (1, .int p), (2, .int (nI V)), (3, .int a2.1), (4, .int (nI (1 + k1))), (5, .int (nI k2)), (6, .int ((nI (1 + k1)) &&& ((1 <<< ((nI k2) &&& 31)) ^^^ ((-1) : Int32)))), (7, .int a4), (8, .int (nI k4))] [] Q) (fX10_round_4 (jj_gd h 64 8) k1 k2 a2) n (vX10_way (jj_gd h 64 8) p (nI k2)) ?_ ?_
                  · intro k4 hk4 ih4
                    generalize jj_fo _ k4 _ = a4 at ih4 ⊢
                    try dsimp only at ih4 ⊢
                    refine rr_iload 8 rfl dX10_round_142 ?_
                    refine rr_aload_n 0 rfl rfl dX10_round_144 ?_
                    refine rr_getR dX10_round_145 fX10_23 lo_49 sh_49 rfl ?_
                    refine rr_iconst 0 rfl dX10_round_148 ?_
                    refine rr_iaload dX10_round_149 lo_53 sh_53 (jj_inL rfl) ?_
                    rw [show (jj_rs (jj_gs h 521 256 a2.2) [(49, (upd (h 49) (0) 0))]) 53 = h 53 from rfl]
                    rw [show (h 53) (0 : Int32).toNatClampNeg = (nI n) from hT]
                    refine rr_icmp_ge dX10_round_150 (fun c => absurd c (nI_ge (a := k4) (b := n) (by omega) (by omega))) (fun _ => ?_)
                    refine rr_iload 6 rfl dX10_round_153 ?_
                    refine rr_iload 8 rfl dX10_round_155 ?_
                    refine rr_callS (As := [.int ((nI (1 + k1)) &&& ((1 <<< ((nI k2) &&& 31)) ^^^ ((-1) : Int32))), .int (nI k4)]) (rest := []) (kc2 := 0) (ks2 := 0) dX10_round_157 okX10_has lX10_254 rfl (Nat.le_of_ble_eq_true rfl) (Nat.le_of_ble_eq_true rfl) rfl (by omega) (by simp [jj_rk]) (by simp [jj_rk]) ?_
                    refine sp_X10_has  ?_
                    show jj_R _ _ kc ks (jj_S, 782, (jj_rs (jj_gs h 521 256 a2.2) [(49, (upd (h 49) (0) 0))]), g) 160 [(0, .ref 49), (1, .int p), (2, .int (nI V)), (3, .int a2.1), (4, .int (nI (1 + k1))), (5, .int (nI k2)), (6, .int ((nI (1 + k1)) &&& ((1 <<< ((nI k2) &&& 31)) ^^^ ((-1) : Int32)))), (7, .int a4), (8, .int (nI k4))] [.int (vX10_has ((nI (1 + k1)) &&& ((1 <<< ((nI k2) &&& 31)) ^^^ ((-1) : Int32))) (nI k4))] Q
                    refine rr_if_ne dX10_round_160 (fun c11 => ?_) (fun c11 => ?_)
                    · skip
                      refine rr_aload_n 0 rfl rfl dX10_round_166 ?_
                      refine rr_getR dX10_round_167 fX10_73 lo_49 sh_49 rfl ?_
                      refine rr_iload 6 rfl dX10_round_170 ?_
                      refine rr_aaload dX10_round_172 lo_520 sh_520 (jj_and256 (by omega)) ?_
                      refine rr_iload 8 rfl dX10_round_173 ?_
                      refine rr_iaload dX10_round_175 (lr_520 (jj_ink (i := ((nI (1 + k1)) &&& ((1 <<< ((nI k2) &&& 31)) ^^^ ((-1) : Int32)))) (jj_and256 (by omega)))) (sr_520 (jj_ink (i := ((nI (1 + k1)) &&& ((1 <<< ((nI k2) &&& 31)) ^^^ ((-1) : Int32)))) (jj_and256 (by omega)))) (vp_in_nI (by omega) (by decide)) ?_
                      rw [show (jj_rs (jj_gs h 521 256 a2.2) [(49, (upd (h 49) (0) 0))]) (521 + (((nI (1 + k1)) &&& ((1 <<< ((nI k2) &&& 31)) ^^^ ((-1) : Int32))) : Int32).toNatClampNeg) = a2.2 (((nI (1 + k1)) &&& ((1 <<< ((nI k2) &&& 31)) ^^^ ((-1) : Int32))) : Int32).toNatClampNeg from jj_gs_at (L := [(49, (upd (h 49) (0) 0))]) rfl (jj_ink (i := ((nI (1 + k1)) &&& ((1 <<< ((nI k2) &&& 31)) ^^^ ((-1) : Int32)))) (jj_and256 (by omega)))]
                      refine rr_aload_n 0 rfl rfl dX10_round_176 ?_
                      refine rr_iload 8 rfl dX10_round_177 ?_
                      refine rr_iload 5 rfl dX10_round_179 ?_
                      refine rr_callV (As := [.int (nI k4), .int (nI k2)]) (rest := [.int (a2.2 (((nI (1 + k1)) &&& ((1 <<< ((nI k2) &&& 31)) ^^^ ((-1) : Int32))) : Int32).toNatClampNeg ((nI k4) : Int32).toNatClampNeg)]) (kc2 := 0) (ks2 := 0) dX10_round_181 okX10_way lX10_330 lo_49 sh_49 rfl rfl (Nat.le_of_ble_eq_true rfl) (Nat.le_of_ble_eq_true rfl) rfl (by omega) (by simp [jj_rk]) (by simp [jj_rk]) ?_
                      refine sp_X10_way (vp_in_nI (by omega) (by decide)) (vp_in_nI (by omega) (by decide)) ?_
                      show jj_R _ _ kc ks (jj_S, 782, (jj_rs (jj_gs h 521 256 a2.2) [(49, (upd (h 49) (0) 0))]), g) 184 [(0, .ref 49), (1, .int p), (2, .int (nI V)), (3, .int a2.1), (4, .int (nI (1 + k1))), (5, .int (nI k2)), (6, .int ((nI (1 + k1)) &&& ((1 <<< ((nI k2) &&& 31)) ^^^ ((-1) : Int32)))), (7, .int a4), (8, .int (nI k4))] [.int (vX10_way (jj_gd (jj_rs (jj_gs h 521 256 a2.2) [(49, (upd (h 49) (0) 0))]) 64 8) (nI k4) (nI k2)), .int (a2.2 (((nI (1 + k1)) &&& ((1 <<< ((nI k2) &&& 31)) ^^^ ((-1) : Int32))) : Int32).toNatClampNeg ((nI k4) : Int32).toNatClampNeg)] Q
                      try rw [show jj_gd (jj_rs (jj_gs h 521 256 a2.2) [(49, (upd (h 49) (0) 0))]) 64 8 = jj_gd h 64 8 from ((jj_gd_rs (B := (jj_gs h 521 256 a2.2)) (L := [(49, (upd (h 49) (0) 0))]) (b := 64) (len := 8) rfl).trans (jj_gd_gs (B := h) (b := 521) (len := 256) (b2 := 64) (len2 := 8) rfl))]
                      refine rr_iadd dX10_round_184 ?_
                      refine rr_istore [(0, .ref 49), (1, .int p), (2, .int (nI V)), (3, .int a2.1), (4, .int (nI (1 + k1))), (5, .int (nI k2)), (6, .int ((nI (1 + k1)) &&& ((1 <<< ((nI k2) &&& 31)) ^^^ ((-1) : Int32)))), (7, .int a4), (8, .int (nI k4)), (9, .int ((a2.2 (((nI (1 + k1)) &&& ((1 <<< ((nI k2) &&& 31)) ^^^ ((-1) : Int32))) : Int32).toNatClampNeg ((nI k4) : Int32).toNatClampNeg) + (vX10_way (jj_gd h 64 8) (nI k4) (nI k2))))] dX10_round_185 (by decide) rfl ?_
                      refine rr_iload 7 rfl dX10_round_187 ?_
                      refine rr_iconst (-1) rfl dX10_round_189 ?_
                      refine rr_icmp_ne dX10_round_190 (fun c12 => ?_) (fun c12 => ?_)
                      · skip
                        refine rr_iload 7 rfl dX10_round_198 ?_
                        refine rr_iload 9 rfl dX10_round_200 ?_
                        refine rr_callS (As := [.int a4, .int ((a2.2 (((nI (1 + k1)) &&& ((1 <<< ((nI k2) &&& 31)) ^^^ ((-1) : Int32))) : Int32).toNatClampNeg ((nI k4) : Int32).toNatClampNeg) + (vX10_way (jj_gd h 64 8) (nI k4) (nI k2)))]) (rest := []) (kc2 := 0) (ks2 := 0) dX10_round_202 okX10_less lX10_235 rfl (Nat.le_of_ble_eq_true rfl) (Nat.le_of_ble_eq_true rfl) rfl (by omega) (by simp [jj_rk]) (by simp [jj_rk]) ?_
                        refine sp_X10_less  ?_
                        show jj_R _ _ kc ks (jj_S, 782, (jj_rs (jj_gs h 521 256 a2.2) [(49, (upd (h 49) (0) 0))]), g) 205 [(0, .ref 49), (1, .int p), (2, .int (nI V)), (3, .int a2.1), (4, .int (nI (1 + k1))), (5, .int (nI k2)), (6, .int ((nI (1 + k1)) &&& ((1 <<< ((nI k2) &&& 31)) ^^^ ((-1) : Int32)))), (7, .int a4), (8, .int (nI k4)), (9, .int ((a2.2 (((nI (1 + k1)) &&& ((1 <<< ((nI k2) &&& 31)) ^^^ ((-1) : Int32))) : Int32).toNatClampNeg ((nI k4) : Int32).toNatClampNeg) + (vX10_way (jj_gd h 64 8) (nI k4) (nI k2))))] [.int (vX10_less a4 ((a2.2 (((nI (1 + k1)) &&& ((1 <<< ((nI k2) &&& 31)) ^^^ ((-1) : Int32))) : Int32).toNatClampNeg ((nI k4) : Int32).toNatClampNeg) + (vX10_way (jj_gd h 64 8) (nI k4) (nI k2))))] Q
                        refine rr_istore [(0, .ref 49), (1, .int p), (2, .int (nI V)), (3, .int a2.1), (4, .int (nI (1 + k1))), (5, .int (nI k2)), (6, .int ((nI (1 + k1)) &&& ((1 <<< ((nI k2) &&& 31)) ^^^ ((-1) : Int32)))), (7, .int (vX10_less a4 ((a2.2 (((nI (1 + k1)) &&& ((1 <<< ((nI k2) &&& 31)) ^^^ ((-1) : Int32))) : Int32).toNatClampNeg ((nI k4) : Int32).toNatClampNeg) + (vX10_way (jj_gd h 64 8) (nI k4) (nI k2))))), (8, .int (nI k4)), (9, .int ((a2.2 (((nI (1 + k1)) &&& ((1 <<< ((nI k2) &&& 31)) ^^^ ((-1) : Int32))) : Int32).toNatClampNeg ((nI k4) : Int32).toNatClampNeg) + (vX10_way (jj_gd h 64 8) (nI k4) (nI k2))))] dX10_round_205 (by decide) rfl ?_
                        refine rr_iinc 8 1 [(0, .ref 49), (1, .int p), (2, .int (nI V)), (3, .int a2.1), (4, .int (nI (1 + k1))), (5, .int (nI k2)), (6, .int ((nI (1 + k1)) &&& ((1 <<< ((nI k2) &&& 31)) ^^^ ((-1) : Int32)))), (7, .int (vX10_less a4 ((a2.2 (((nI (1 + k1)) &&& ((1 <<< ((nI k2) &&& 31)) ^^^ ((-1) : Int32))) : Int32).toNatClampNeg ((nI k4) : Int32).toNatClampNeg) + (vX10_way (jj_gd h 64 8) (nI k4) (nI k2))))), (8, .int ((nI k4) + 1)), (9, .int ((a2.2 (((nI (1 + k1)) &&& ((1 <<< ((nI k2) &&& 31)) ^^^ ((-1) : Int32))) : Int32).toNatClampNeg ((nI k4) : Int32).toNatClampNeg) + (vX10_way (jj_gd h 64 8) (nI k4) (nI k2))))] dX10_round_207 rfl rfl (by decide) rfl ?_
                        refine rr_goto dX10_round_210 ?_
                        try simp only [(nI_clamp (show k4 < 2 ^ 31 by omega))] at c11
                        try simp only [(nI_clamp (show k4 < 2 ^ 31 by omega))] at c12
                        refine rr_drop (ls := [(0, .ref 49), (1, .int p), (2, .int (nI V)), (3, .int a2.1), (4, .int (nI (1 + k1))), (5, .int (nI k2)), (6, .int ((nI (1 + k1)) &&& ((1 <<< ((nI k2) &&& 31)) ^^^ ((-1) : Int32)))), (7, .int (vX10_less a4 ((a2.2 (((nI (1 + k1)) &&& ((1 <<< ((nI k2) &&& 31)) ^^^ ((-1) : Int32))) : Int32).toNatClampNeg ((nI k4) : Int32).toNatClampNeg) + (vX10_way (jj_gd h 64 8) (nI k4) (nI k2))))), (8, .int ((nI k4) + 1))]) [0, 1, 2, 3, 4, 5, 6, 7, 8] rfl ?_
                        simpa only [nI_1, (nI_clamp (show k4 < 2 ^ 31 by omega)), fX10_round_4, if_neg c11, if_neg c12] using ih4
                      · skip
                        refine rr_iload 9 rfl dX10_round_193 ?_
                        refine rr_goto dX10_round_195 ?_
                        refine rr_istore [(0, .ref 49), (1, .int p), (2, .int (nI V)), (3, .int a2.1), (4, .int (nI (1 + k1))), (5, .int (nI k2)), (6, .int ((nI (1 + k1)) &&& ((1 <<< ((nI k2) &&& 31)) ^^^ ((-1) : Int32)))), (7, .int ((a2.2 (((nI (1 + k1)) &&& ((1 <<< ((nI k2) &&& 31)) ^^^ ((-1) : Int32))) : Int32).toNatClampNeg ((nI k4) : Int32).toNatClampNeg) + (vX10_way (jj_gd h 64 8) (nI k4) (nI k2)))), (8, .int (nI k4)), (9, .int ((a2.2 (((nI (1 + k1)) &&& ((1 <<< ((nI k2) &&& 31)) ^^^ ((-1) : Int32))) : Int32).toNatClampNeg ((nI k4) : Int32).toNatClampNeg) + (vX10_way (jj_gd h 64 8) (nI k4) (nI k2))))] dX10_round_205 (by decide) rfl ?_
                        refine rr_iinc 8 1 [(0, .ref 49), (1, .int p), (2, .int (nI V)), (3, .int a2.1), (4, .int (nI (1 + k1))), (5, .int (nI k2)), (6, .int ((nI (1 + k1)) &&& ((1 <<< ((nI k2) &&& 31)) ^^^ ((-1) : Int32)))), (7, .int ((a2.2 (((nI (1 + k1)) &&& ((1 <<< ((nI k2) &&& 31)) ^^^ ((-1) : Int32))) : Int32).toNatClampNeg ((nI k4) : Int32).toNatClampNeg) + (vX10_way (jj_gd h 64 8) (nI k4) (nI k2)))), (8, .int ((nI k4) + 1)), (9, .int ((a2.2 (((nI (1 + k1)) &&& ((1 <<< ((nI k2) &&& 31)) ^^^ ((-1) : Int32))) : Int32).toNatClampNeg ((nI k4) : Int32).toNatClampNeg) + (vX10_way (jj_gd h 64 8) (nI k4) (nI k2))))] dX10_round_207 rfl rfl (by decide) rfl ?_
                        refine rr_goto dX10_round_210 ?_
                        try simp only [(nI_clamp (show k4 < 2 ^ 31 by omega))] at c11
                        try simp only [(nI_clamp (show k4 < 2 ^ 31 by omega))] at c12
                        refine rr_drop (ls := [(0, .ref 49), (1, .int p), (2, .int (nI V)), (3, .int a2.1), (4, .int (nI (1 + k1))), (5, .int (nI k2)), (6, .int ((nI (1 + k1)) &&& ((1 <<< ((nI k2) &&& 31)) ^^^ ((-1) : Int32)))), (7, .int ((a2.2 (((nI (1 + k1)) &&& ((1 <<< ((nI k2) &&& 31)) ^^^ ((-1) : Int32))) : Int32).toNatClampNeg ((nI k4) : Int32).toNatClampNeg) + (vX10_way (jj_gd h 64 8) (nI k4) (nI k2)))), (8, .int ((nI k4) + 1))]) [0, 1, 2, 3, 4, 5, 6, 7, 8] rfl ?_
                        simpa only [nI_1, (nI_clamp (show k4 < 2 ^ 31 by omega)), fX10_round_4, if_neg c11, if_pos c12] using ih4
                    · skip
                      refine rr_goto dX10_round_163 ?_
                      refine rr_iinc 8 1 [(0, .ref 49), (1, .int p), (2, .int (nI V)), (3, .int a2.1), (4, .int (nI (1 + k1))), (5, .int (nI k2)), (6, .int ((nI (1 + k1)) &&& ((1 <<< ((nI k2) &&& 31)) ^^^ ((-1) : Int32)))), (7, .int a4), (8, .int ((nI k4) + 1))] dX10_round_207 rfl rfl (by decide) rfl ?_
                      refine rr_goto dX10_round_210 ?_
                      try simp only [(nI_clamp (show k4 < 2 ^ 31 by omega))] at c11
                      simpa only [nI_1, (nI_clamp (show k4 < 2 ^ 31 by omega)), fX10_round_4, if_pos c11] using ih4
                  · try dsimp only
                    refine rr_iload 8 rfl dX10_round_142 ?_
                    refine rr_aload_n 0 rfl rfl dX10_round_144 ?_
                    refine rr_getR dX10_round_145 fX10_23 lo_49 sh_49 rfl ?_
                    refine rr_iconst 0 rfl dX10_round_148 ?_
                    refine rr_iaload dX10_round_149 lo_53 sh_53 (jj_inL rfl) ?_
                    rw [show (jj_rs (jj_gs h 521 256 a2.2) [(49, (upd (h 49) (0) 0))]) 53 = h 53 from rfl]
                    rw [show (h 53) (0 : Int32).toNatClampNeg = (nI n) from hT]
                    refine rr_icmp_ge dX10_round_150 (fun _ => ?_) (fun c => absurd (jj_le_rf _) c)
                    refine rr_aload_n 0 rfl rfl dX10_round_213 ?_
                    refine rr_getR dX10_round_214 fX10_73 lo_49 sh_49 rfl ?_
                    refine rr_iload 4 rfl dX10_round_217 ?_
                    refine rr_aaload dX10_round_219 lo_520 sh_520 (vp_in_nI (by omega) (by decide)) ?_
                    refine rr_iload 5 rfl dX10_round_220 ?_
                    refine rr_iload 7 rfl dX10_round_222 ?_
                    refine rr_iastore dX10_round_224 (lr_520 (jj_ink (i := (nI (1 + k1))) (vp_in_nI (by omega) (by decide)))) (sr_520 (jj_ink (i := (nI (1 + k1))) (vp_in_nI (by omega) (by decide)))) (vp_in_nI (by omega) (by decide)) ?_
                    refine jj_Rh (jj_gs_set (B := h) (L := [(49, (upd (h 49) (0) 0))]) (b := 521) (len := 256) (G := a2.2) (x := ((nI (1 + k1)) : Int32).toNatClampNeg) rfl (jj_ink (i := (nI (1 + k1))) (vp_in_nI (by omega) (by decide)))) ?_
                    refine rr_iload 4 rfl dX10_round_225 ?_
                    refine rr_iload_n 2 rfl rfl dX10_round_227 ?_
                    refine rr_icmp_eq dX10_round_228 (fun c13 => ?_) (fun c13 => ?_)
                    · skip
                      refine rr_iload_n 3 rfl rfl dX10_round_235 ?_
                      refine rr_iconst (-1) rfl dX10_round_236 ?_
                      refine rr_icmp_ne dX10_round_237 (fun c14 => ?_) (fun c14 => ?_)
                      · skip
                        refine rr_iload_n 3 rfl rfl dX10_round_245 ?_
                        refine rr_iload 7 rfl dX10_round_246 ?_
                        refine rr_callS (As := [.int a2.1, .int (jj_fo (fX10_round_4 (jj_gd h 64 8) k1 k2 a2) n (vX10_way (jj_gd h 64 8) p (nI k2)))]) (rest := []) (kc2 := 0) (ks2 := 0) dX10_round_248 okX10_less lX10_235 rfl (Nat.le_of_ble_eq_true rfl) (Nat.le_of_ble_eq_true rfl) rfl (by omega) (by simp [jj_rk]) (by simp [jj_rk]) ?_
                        refine sp_X10_less  ?_
                        show jj_R _ _ kc ks (jj_S, 782, (jj_rs (jj_gs h 521 256 (jj_ug a2.2 (((nI (1 + k1)) : Int32).toNatClampNeg) (((nI k2) : Int32).toNatClampNeg) (jj_fo (fX10_round_4 (jj_gd h 64 8) k1 k2 a2) n (vX10_way (jj_gd h 64 8) p (nI k2))))) [(49, (upd (h 49) (0) 0))]), g) 251 [(0, .ref 49), (1, .int p), (2, .int (nI V)), (3, .int a2.1), (4, .int (nI (1 + k1))), (5, .int (nI k2)), (6, .int ((nI (1 + k1)) &&& ((1 <<< ((nI k2) &&& 31)) ^^^ ((-1) : Int32)))), (7, .int (jj_fo (fX10_round_4 (jj_gd h 64 8) k1 k2 a2) n (vX10_way (jj_gd h 64 8) p (nI k2)))), (8, .int (nI n))] [.int (vX10_less a2.1 (jj_fo (fX10_round_4 (jj_gd h 64 8) k1 k2 a2) n (vX10_way (jj_gd h 64 8) p (nI k2))))] Q
                        refine rr_istore_n [(0, .ref 49), (1, .int p), (2, .int (nI V)), (3, .int (vX10_less a2.1 (jj_fo (fX10_round_4 (jj_gd h 64 8) k1 k2 a2) n (vX10_way (jj_gd h 64 8) p (nI k2))))), (4, .int (nI (1 + k1))), (5, .int (nI k2)), (6, .int ((nI (1 + k1)) &&& ((1 <<< ((nI k2) &&& 31)) ^^^ ((-1) : Int32)))), (7, .int (jj_fo (fX10_round_4 (jj_gd h 64 8) k1 k2 a2) n (vX10_way (jj_gd h 64 8) p (nI k2)))), (8, .int (nI n))] dX10_round_251 rfl (by decide) rfl ?_
                        refine rr_iinc 5 1 [(0, .ref 49), (1, .int p), (2, .int (nI V)), (3, .int (vX10_less a2.1 (jj_fo (fX10_round_4 (jj_gd h 64 8) k1 k2 a2) n (vX10_way (jj_gd h 64 8) p (nI k2))))), (4, .int (nI (1 + k1))), (5, .int ((nI k2) + 1)), (6, .int ((nI (1 + k1)) &&& ((1 <<< ((nI k2) &&& 31)) ^^^ ((-1) : Int32)))), (7, .int (jj_fo (fX10_round_4 (jj_gd h 64 8) k1 k2 a2) n (vX10_way (jj_gd h 64 8) p (nI k2)))), (8, .int (nI n))] dX10_round_252 rfl rfl (by decide) rfl ?_
                        refine rr_goto dX10_round_255 ?_
                        try simp only [(nI_clamp (show k2 < 2 ^ 31 by omega))] at c4
                        try simp only [(nI_clamp (show k2 < 2 ^ 31 by omega))] at c5
                        try simp only [(nI_clamp (show k2 < 2 ^ 31 by omega))] at c6
                        try simp only [(nI_clamp (show k2 < 2 ^ 31 by omega))] at c13
                        try simp only [(nI_clamp (show k2 < 2 ^ 31 by omega))] at c14
                        refine rr_drop (ls := [(0, .ref 49), (1, .int p), (2, .int (nI V)), (3, .int (vX10_less a2.1 (jj_fo (fX10_round_4 (jj_gd h 64 8) k1 k2 a2) n (vX10_way (jj_gd h 64 8) p (nI k2))))), (4, .int (nI (1 + k1))), (5, .int ((nI k2) + 1))]) [0, 1, 2, 3, 4, 5] rfl ?_
                        simpa only [nI_1, (nI_clamp (show k2 < 2 ^ 31 by omega)), fX10_round_2, if_pos c4, if_neg c5, if_pos c6, if_pos c13, if_neg c14] using ih2
                      · skip
                        refine rr_iload 7 rfl dX10_round_240 ?_
                        refine rr_goto dX10_round_242 ?_
                        refine rr_istore_n [(0, .ref 49), (1, .int p), (2, .int (nI V)), (3, .int (jj_fo (fX10_round_4 (jj_gd h 64 8) k1 k2 a2) n (vX10_way (jj_gd h 64 8) p (nI k2)))), (4, .int (nI (1 + k1))), (5, .int (nI k2)), (6, .int ((nI (1 + k1)) &&& ((1 <<< ((nI k2) &&& 31)) ^^^ ((-1) : Int32)))), (7, .int (jj_fo (fX10_round_4 (jj_gd h 64 8) k1 k2 a2) n (vX10_way (jj_gd h 64 8) p (nI k2)))), (8, .int (nI n))] dX10_round_251 rfl (by decide) rfl ?_
                        refine rr_iinc 5 1 [(0, .ref 49), (1, .int p), (2, .int (nI V)), (3, .int (jj_fo (fX10_round_4 (jj_gd h 64 8) k1 k2 a2) n (vX10_way (jj_gd h 64 8) p (nI k2)))), (4, .int (nI (1 + k1))), (5, .int ((nI k2) + 1)), (6, .int ((nI (1 + k1)) &&& ((1 <<< ((nI k2) &&& 31)) ^^^ ((-1) : Int32)))), (7, .int (jj_fo (fX10_round_4 (jj_gd h 64 8) k1 k2 a2) n (vX10_way (jj_gd h 64 8) p (nI k2)))), (8, .int (nI n))] dX10_round_252 rfl rfl (by decide) rfl ?_
                        refine rr_goto dX10_round_255 ?_
                        try simp only [(nI_clamp (show k2 < 2 ^ 31 by omega))] at c4
                        try simp only [(nI_clamp (show k2 < 2 ^ 31 by omega))] at c5
                        try simp only [(nI_clamp (show k2 < 2 ^ 31 by omega))] at c6
                        try simp only [(nI_clamp (show k2 < 2 ^ 31 by omega))] at c13
                        try simp only [(nI_clamp (show k2 < 2 ^ 31 by omega))] at c14
                        refine rr_drop (ls := [(0, .ref 49), (1, .int p), (2, .int (nI V)), (3, .int (jj_fo (fX10_round_4 (jj_gd h 64 8) k1 k2 a2) n (vX10_way (jj_gd h 64 8) p (nI k2)))), (4, .int (nI (1 + k1))), (5, .int ((nI k2) + 1))]) [0, 1, 2, 3, 4, 5] rfl ?_
                        simpa only [nI_1, (nI_clamp (show k2 < 2 ^ 31 by omega)), fX10_round_2, if_pos c4, if_neg c5, if_pos c6, if_pos c13, if_pos c14] using ih2
                    · skip
                      refine rr_iload_n 3 rfl rfl dX10_round_231 ?_
                      refine rr_goto dX10_round_232 ?_
                      refine rr_istore_n [(0, .ref 49), (1, .int p), (2, .int (nI V)), (3, .int a2.1), (4, .int (nI (1 + k1))), (5, .int (nI k2)), (6, .int ((nI (1 + k1)) &&& ((1 <<< ((nI k2) &&& 31)) ^^^ ((-1) : Int32)))), (7, .int (jj_fo (fX10_round_4 (jj_gd h 64 8) k1 k2 a2) n (vX10_way (jj_gd h 64 8) p (nI k2)))), (8, .int (nI n))] dX10_round_251 rfl (by decide) rfl ?_
                      refine rr_iinc 5 1 [(0, .ref 49), (1, .int p), (2, .int (nI V)), (3, .int a2.1), (4, .int (nI (1 + k1))), (5, .int ((nI k2) + 1)), (6, .int ((nI (1 + k1)) &&& ((1 <<< ((nI k2) &&& 31)) ^^^ ((-1) : Int32)))), (7, .int (jj_fo (fX10_round_4 (jj_gd h 64 8) k1 k2 a2) n (vX10_way (jj_gd h 64 8) p (nI k2)))), (8, .int (nI n))] dX10_round_252 rfl rfl (by decide) rfl ?_
                      refine rr_goto dX10_round_255 ?_
                      try simp only [(nI_clamp (show k2 < 2 ^ 31 by omega))] at c4
                      try simp only [(nI_clamp (show k2 < 2 ^ 31 by omega))] at c5
                      try simp only [(nI_clamp (show k2 < 2 ^ 31 by omega))] at c6
                      try simp only [(nI_clamp (show k2 < 2 ^ 31 by omega))] at c13
                      refine rr_drop (ls := [(0, .ref 49), (1, .int p), (2, .int (nI V)), (3, .int a2.1), (4, .int (nI (1 + k1))), (5, .int ((nI k2) + 1))]) [0, 1, 2, 3, 4, 5] rfl ?_
                      simpa only [nI_1, (nI_clamp (show k2 < 2 ^ 31 by omega)), fX10_round_2, if_pos c4, if_neg c5, if_pos c6, if_neg c13] using ih2
              · skip
                refine rr_goto dX10_round_107 ?_
                refine rr_iinc 5 1 [(0, .ref 49), (1, .int p), (2, .int (nI V)), (3, .int a2.1), (4, .int (nI (1 + k1))), (5, .int ((nI k2) + 1))] dX10_round_252 rfl rfl (by decide) rfl ?_
                refine rr_goto dX10_round_255 ?_
                try simp only [(nI_clamp (show k2 < 2 ^ 31 by omega))] at c4
                try simp only [(nI_clamp (show k2 < 2 ^ 31 by omega))] at c5
                simpa only [nI_1, (nI_clamp (show k2 < 2 ^ 31 by omega)), fX10_round_2, if_pos c4, if_pos c5] using ih2
          · try dsimp only
            refine rr_iload 5 rfl dX10_round_77 ?_
            refine rr_aload_n 0 rfl rfl dX10_round_79 ?_
            refine rr_getR dX10_round_80 fX10_23 lo_49 sh_49 rfl ?_
            refine rr_iconst 0 rfl dX10_round_83 ?_
            refine rr_iaload dX10_round_84 lo_53 sh_53 (jj_inL rfl) ?_
            rw [show (jj_rs (jj_gs h 521 256 (jj_fo (fX10_round_2 (jj_gd h 64 8) n p V k1) n (a1.1, a1.2)).2) [(49, (upd (h 49) (0) 0))]) 53 = h 53 from rfl]
            rw [show (h 53) (0 : Int32).toNatClampNeg = (nI n) from hT]
            refine rr_icmp_ge dX10_round_85 (fun _ => ?_) (fun c => absurd (jj_le_rf _) c)
            refine rr_iinc 4 1 [(0, .ref 49), (1, .int p), (2, .int (nI V)), (3, .int (jj_fo (fX10_round_2 (jj_gd h 64 8) n p V k1) n (a1.1, a1.2)).1), (4, .int ((nI (1 + k1)) + 1)), (5, .int (nI n))] dX10_round_258 rfl rfl (by decide) rfl ?_
            refine rr_goto dX10_round_261 ?_
            refine rr_drop (ls := [(0, .ref 49), (1, .int p), (2, .int (nI V)), (3, .int (jj_fo (fX10_round_2 (jj_gd h 64 8) n p V k1) n (a1.1, a1.2)).1), (4, .int ((nI (1 + k1)) + 1))]) [0, 1, 2, 3, 4] rfl ?_
            simpa only [nI_1, (nI_clamp (show 1 + k1 < 2 ^ 31 by omega)), fX10_round_1, ← Nat.add_assoc] using ih1
        · try dsimp only
          refine rr_iload 4 rfl dX10_round_68 ?_
          refine rr_iload_n 2 rfl rfl dX10_round_70 ?_
          refine rr_icmp_gt dX10_round_71 (fun _ => ?_) (fun c => absurd (nI_lt (by omega) (by omega)) c)
          refine rr_iload_n 3 rfl rfl dX10_round_264 ?_
          refine rr_ireturn dX10_round_265 rfl ?_
          refine jj_Qh (jj_rs_add (B := (jj_gs h 521 256 (jj_fo (fX10_round_1 (jj_gd h 64 8) n p V) V ((-1), (jj_gd h 521 256))).2)) (L := [(49, (upd (h 49) (0) 0))]) (L2 := [(49, (upd (h 49) (0) 0)), (51, (h 51))]) (o := 51) (r := (h 51)) rfl rfl) ?_
          first | simpa only [vX10_round, rX10_round_49, rX10_round_51, qX10_round_521, if_neg c1, if_neg c2, if_neg c3, nI_clamp (show V < 2 ^ 31 by omega)] using kq | simpa only [vX10_round, rX10_round_49, rX10_round_51, qX10_round_521, if_neg c1, if_neg c2, if_neg c3] using kq
      · skip
        refine rr_iconst 0 rfl dX10_round_59 ?_
        refine rr_goto dX10_round_60 ?_
        refine rr_istore_n [(0, .ref 49), (1, .int p), (2, .int v), (3, .int 0)] dX10_round_64 rfl (by decide) rfl ?_
        obtain ⟨V, hV, rfl⟩ := jj_ev hn (by assumption)
        refine rr_iconst 1 rfl dX10_round_65 ?_
        refine rr_istore [(0, .ref 49), (1, .int p), (2, .int (nI V)), (3, .int 0), (4, .int 1)] dX10_round_66 (by decide) rfl ?_
        refine jj_Rh (jj_gs_id (B := h) (L := [(49, (upd (h 49) (0) 0))]) (b := 521) (len := 256)) ?_
        refine jj_for (fun k5 (a5 : Int32 × (Nat → Nat → Int32)) => jj_R _ _ kc ks (jj_S, 782, (jj_rs (jj_gs h 521 256 a5.2) [(49, (upd (h 49) (0) 0))]), g) 68 [(0, .ref 49), (1, .int p), (2, .int (nI V)), (3, .int a5.1), (4, .int (nI (1 + k5)))] [] Q) (fX10_round_5 (jj_gd h 64 8) n p V) V (0, (jj_gd h 521 256)) ?_ ?_
        · intro k5 hk5 ih5
          generalize jj_fo _ k5 _ = a5 at ih5 ⊢
          try dsimp only at ih5 ⊢
          refine rr_iload 4 rfl dX10_round_68 ?_
          refine rr_iload_n 2 rfl rfl dX10_round_70 ?_
          refine rr_icmp_gt dX10_round_71 (fun c => absurd c (jj_ngt (a := (1 + k5)) (b := V) (by omega) (by omega))) (fun _ => ?_)
          refine rr_iconst 0 rfl dX10_round_74 ?_
          refine rr_istore [(0, .ref 49), (1, .int p), (2, .int (nI V)), (3, .int a5.1), (4, .int (nI (1 + k5))), (5, .int 0)] dX10_round_75 (by decide) rfl ?_
          refine jj_for (fun k6 (a6 : Int32 × (Nat → Nat → Int32)) => jj_R _ _ kc ks (jj_S, 782, (jj_rs (jj_gs h 521 256 a6.2) [(49, (upd (h 49) (0) 0))]), g) 77 [(0, .ref 49), (1, .int p), (2, .int (nI V)), (3, .int a6.1), (4, .int (nI (1 + k5))), (5, .int (nI k6))] [] Q) (fX10_round_6 (jj_gd h 64 8) n p V k5) n (a5.1, a5.2) ?_ ?_
          · intro k6 hk6 ih6
            generalize jj_fo _ k6 _ = a6 at ih6 ⊢
            try dsimp only at ih6 ⊢
            refine rr_iload 5 rfl dX10_round_77 ?_
            refine rr_aload_n 0 rfl rfl dX10_round_79 ?_
            refine rr_getR dX10_round_80 fX10_23 lo_49 sh_49 rfl ?_
            refine rr_iconst 0 rfl dX10_round_83 ?_
            refine rr_iaload dX10_round_84 lo_53 sh_53 (jj_inL rfl) ?_
            rw [show (jj_rs (jj_gs h 521 256 a6.2) [(49, (upd (h 49) (0) 0))]) 53 = h 53 from rfl]
            rw [show (h 53) (0 : Int32).toNatClampNeg = (nI n) from hT]
            refine rr_icmp_ge dX10_round_85 (fun c => absurd c (nI_ge (a := k6) (b := n) (by omega) (by omega))) (fun _ => ?_)
            refine rr_iload 4 rfl dX10_round_88 ?_
            refine rr_iload_n 2 rfl rfl dX10_round_90 ?_
            refine rr_iconst (-1) rfl dX10_round_91 ?_
            refine rr_ixor dX10_round_92 ?_
            refine rr_iand dX10_round_93 ?_
            refine rr_if_ne dX10_round_94 (fun c15 => ?_) (fun c15 => ?_)
            · skip
              refine rr_iinc 5 1 [(0, .ref 49), (1, .int p), (2, .int (nI V)), (3, .int a6.1), (4, .int (nI (1 + k5))), (5, .int ((nI k6) + 1))] dX10_round_252 rfl rfl (by decide) rfl ?_
              refine rr_goto dX10_round_255 ?_
              try simp only [(nI_clamp (show k6 < 2 ^ 31 by omega))] at c15
              simpa only [nI_1, (nI_clamp (show k6 < 2 ^ 31 by omega)), fX10_round_6, if_neg c15] using ih6
            · skip
              refine rr_iload 4 rfl dX10_round_97 ?_
              refine rr_iload 5 rfl dX10_round_99 ?_
              refine rr_callS (As := [.int (nI (1 + k5)), .int (nI k6)]) (rest := []) (kc2 := 0) (ks2 := 0) dX10_round_101 okX10_has lX10_254 rfl (Nat.le_of_ble_eq_true rfl) (Nat.le_of_ble_eq_true rfl) rfl (by omega) (by simp [jj_rk]) (by simp [jj_rk]) ?_
              refine sp_X10_has  ?_
              show jj_R _ _ kc ks (jj_S, 782, (jj_rs (jj_gs h 521 256 a6.2) [(49, (upd (h 49) (0) 0))]), g) 104 [(0, .ref 49), (1, .int p), (2, .int (nI V)), (3, .int a6.1), (4, .int (nI (1 + k5))), (5, .int (nI k6))] [.int (vX10_has (nI (1 + k5)) (nI k6))] Q
              refine rr_if_ne dX10_round_104 (fun c16 => ?_) (fun c16 => ?_)
              · skip
                refine rr_iload 4 rfl dX10_round_110 ?_
                refine rr_iconst 1 rfl dX10_round_112 ?_
                refine rr_iload 5 rfl dX10_round_113 ?_
                refine rr_ishl dX10_round_115 ?_
                refine rr_iconst (-1) rfl dX10_round_116 ?_
                refine rr_ixor dX10_round_117 ?_
                refine rr_iand dX10_round_118 ?_
                refine rr_istore [(0, .ref 49), (1, .int p), (2, .int (nI V)), (3, .int a6.1), (4, .int (nI (1 + k5))), (5, .int (nI k6)), (6, .int ((nI (1 + k5)) &&& ((1 <<< ((nI k6) &&& 31)) ^^^ ((-1) : Int32))))] dX10_round_119 (by decide) rfl ?_
                refine rr_iload 6 rfl dX10_round_121 ?_
                refine rr_if_ne dX10_round_123 (fun c17 => ?_) (fun c17 => ?_)
                · skip
                  refine rr_iconst (-1) rfl dX10_round_136 ?_
                  refine rr_istore [(0, .ref 49), (1, .int p), (2, .int (nI V)), (3, .int a6.1), (4, .int (nI (1 + k5))), (5, .int (nI k6)), (6, .int ((nI (1 + k5)) &&& ((1 <<< ((nI k6) &&& 31)) ^^^ ((-1) : Int32)))), (7, .int (-1))] dX10_round_137 (by decide) rfl ?_
                  refine rr_iconst 0 rfl dX10_round_139 ?_
                  refine rr_istore [(0, .ref 49), (1, .int p), (2, .int (nI V)), (3, .int a6.1), (4, .int (nI (1 + k5))), (5, .int (nI k6)), (6, .int ((nI (1 + k5)) &&& ((1 <<< ((nI k6) &&& 31)) ^^^ ((-1) : Int32)))), (7, .int (-1)), (8, .int 0)] dX10_round_140 (by decide) rfl ?_
                  refine jj_for (fun k7 (a7 : Int32) => jj_R _ _ kc ks (jj_S, 782, (jj_rs (jj_gs h 521 256 a6.2) [(49, (upd (h 49) (0) 0))]), g) 142 [(0, .ref 49), (1, .int p), (2, .int (nI V)), (3, .int a6.1), (4, .int (nI (1 + k5))), (5, .int (nI k6)), (6, .int ((nI (1 + k5)) &&& ((1 <<< ((nI k6) &&& 31)) ^^^ ((-1) : Int32)))), (7, .int a7), (8, .int (nI k7))] [] Q) (fX10_round_7 (jj_gd h 64 8) k5 k6 a6) n (-1) ?_ ?_
                  · intro k7 hk7 ih7
                    generalize jj_fo _ k7 _ = a7 at ih7 ⊢
                    try dsimp only at ih7 ⊢
                    refine rr_iload 8 rfl dX10_round_142 ?_
                    refine rr_aload_n 0 rfl rfl dX10_round_144 ?_
                    refine rr_getR dX10_round_145 fX10_23 lo_49 sh_49 rfl ?_
                    refine rr_iconst 0 rfl dX10_round_148 ?_
                    refine rr_iaload dX10_round_149 lo_53 sh_53 (jj_inL rfl) ?_
                    rw [show (jj_rs (jj_gs h 521 256 a6.2) [(49, (upd (h 49) (0) 0))]) 53 = h 53 from rfl]
                    rw [show (h 53) (0 : Int32).toNatClampNeg = (nI n) from hT]
                    refine rr_icmp_ge dX10_round_150 (fun c => absurd c (nI_ge (a := k7) (b := n) (by omega) (by omega))) (fun _ => ?_)
                    refine rr_iload 6 rfl dX10_round_153 ?_
                    refine rr_iload 8 rfl dX10_round_155 ?_
                    refine rr_callS (As := [.int ((nI (1 + k5)) &&& ((1 <<< ((nI k6) &&& 31)) ^^^ ((-1) : Int32))), .int (nI k7)]) (rest := []) (kc2 := 0) (ks2 := 0) dX10_round_157 okX10_has lX10_254 rfl (Nat.le_of_ble_eq_true rfl) (Nat.le_of_ble_eq_true rfl) rfl (by omega) (by simp [jj_rk]) (by simp [jj_rk]) ?_
                    refine sp_X10_has  ?_
                    show jj_R _ _ kc ks (jj_S, 782, (jj_rs (jj_gs h 521 256 a6.2) [(49, (upd (h 49) (0) 0))]), g) 160 [(0, .ref 49), (1, .int p), (2, .int (nI V)), (3, .int a6.1), (4, .int (nI (1 + k5))), (5, .int (nI k6)), (6, .int ((nI (1 + k5)) &&& ((1 <<< ((nI k6) &&& 31)) ^^^ ((-1) : Int32)))), (7, .int a7), (8, .int (nI k7))] [.int (vX10_has ((nI (1 + k5)) &&& ((1 <<< ((nI k6) &&& 31)) ^^^ ((-1) : Int32))) (nI k7))] Q
                    refine rr_if_ne dX10_round_160 (fun c18 => ?_) (fun c18 => ?_)
                    · skip
                      refine rr_aload_n 0 rfl rfl dX10_round_166 ?_
                      refine rr_getR dX10_round_167 fX10_73 lo_49 sh_49 rfl ?_
                      refine rr_iload 6 rfl dX10_round_170 ?_
                      refine rr_aaload dX10_round_172 lo_520 sh_520 (jj_and256 (by omega)) ?_
                      refine rr_iload 8 rfl dX10_round_173 ?_
                      refine rr_iaload dX10_round_175 (lr_520 (jj_ink (i := ((nI (1 + k5)) &&& ((1 <<< ((nI k6) &&& 31)) ^^^ ((-1) : Int32)))) (jj_and256 (by omega)))) (sr_520 (jj_ink (i := ((nI (1 + k5)) &&& ((1 <<< ((nI k6) &&& 31)) ^^^ ((-1) : Int32)))) (jj_and256 (by omega)))) (vp_in_nI (by omega) (by decide)) ?_
                      rw [show (jj_rs (jj_gs h 521 256 a6.2) [(49, (upd (h 49) (0) 0))]) (521 + (((nI (1 + k5)) &&& ((1 <<< ((nI k6) &&& 31)) ^^^ ((-1) : Int32))) : Int32).toNatClampNeg) = a6.2 (((nI (1 + k5)) &&& ((1 <<< ((nI k6) &&& 31)) ^^^ ((-1) : Int32))) : Int32).toNatClampNeg from jj_gs_at (L := [(49, (upd (h 49) (0) 0))]) rfl (jj_ink (i := ((nI (1 + k5)) &&& ((1 <<< ((nI k6) &&& 31)) ^^^ ((-1) : Int32)))) (jj_and256 (by omega)))]
                      refine rr_aload_n 0 rfl rfl dX10_round_176 ?_
                      refine rr_iload 8 rfl dX10_round_177 ?_
                      refine rr_iload 5 rfl dX10_round_179 ?_
                      refine rr_callV (As := [.int (nI k7), .int (nI k6)]) (rest := [.int (a6.2 (((nI (1 + k5)) &&& ((1 <<< ((nI k6) &&& 31)) ^^^ ((-1) : Int32))) : Int32).toNatClampNeg ((nI k7) : Int32).toNatClampNeg)]) (kc2 := 0) (ks2 := 0) dX10_round_181 okX10_way lX10_330 lo_49 sh_49 rfl rfl (Nat.le_of_ble_eq_true rfl) (Nat.le_of_ble_eq_true rfl) rfl (by omega) (by simp [jj_rk]) (by simp [jj_rk]) ?_
                      refine sp_X10_way (vp_in_nI (by omega) (by decide)) (vp_in_nI (by omega) (by decide)) ?_
                      show jj_R _ _ kc ks (jj_S, 782, (jj_rs (jj_gs h 521 256 a6.2) [(49, (upd (h 49) (0) 0))]), g) 184 [(0, .ref 49), (1, .int p), (2, .int (nI V)), (3, .int a6.1), (4, .int (nI (1 + k5))), (5, .int (nI k6)), (6, .int ((nI (1 + k5)) &&& ((1 <<< ((nI k6) &&& 31)) ^^^ ((-1) : Int32)))), (7, .int a7), (8, .int (nI k7))] [.int (vX10_way (jj_gd (jj_rs (jj_gs h 521 256 a6.2) [(49, (upd (h 49) (0) 0))]) 64 8) (nI k7) (nI k6)), .int (a6.2 (((nI (1 + k5)) &&& ((1 <<< ((nI k6) &&& 31)) ^^^ ((-1) : Int32))) : Int32).toNatClampNeg ((nI k7) : Int32).toNatClampNeg)] Q
                      try rw [show jj_gd (jj_rs (jj_gs h 521 256 a6.2) [(49, (upd (h 49) (0) 0))]) 64 8 = jj_gd h 64 8 from ((jj_gd_rs (B := (jj_gs h 521 256 a6.2)) (L := [(49, (upd (h 49) (0) 0))]) (b := 64) (len := 8) rfl).trans (jj_gd_gs (B := h) (b := 521) (len := 256) (b2 := 64) (len2 := 8) rfl))]
                      refine rr_iadd dX10_round_184 ?_
                      refine rr_istore [(0, .ref 49), (1, .int p), (2, .int (nI V)), (3, .int a6.1), (4, .int (nI (1 + k5))), (5, .int (nI k6)), (6, .int ((nI (1 + k5)) &&& ((1 <<< ((nI k6) &&& 31)) ^^^ ((-1) : Int32)))), (7, .int a7), (8, .int (nI k7)), (9, .int ((a6.2 (((nI (1 + k5)) &&& ((1 <<< ((nI k6) &&& 31)) ^^^ ((-1) : Int32))) : Int32).toNatClampNeg ((nI k7) : Int32).toNatClampNeg) + (vX10_way (jj_gd h 64 8) (nI k7) (nI k6))))] dX10_round_185 (by decide) rfl ?_
                      refine rr_iload 7 rfl dX10_round_187 ?_
                      refine rr_iconst (-1) rfl dX10_round_189 ?_
                      refine rr_icmp_ne dX10_round_190 (fun c19 => ?_) (fun c19 => ?_)
                      · skip
                        refine rr_iload 7 rfl dX10_round_198 ?_
                        refine rr_iload 9 rfl dX10_round_200 ?_
                        refine rr_callS (As := [.int a7, .int ((a6.2 (((nI (1 + k5)) &&& ((1 <<< ((nI k6) &&& 31)) ^^^ ((-1) : Int32))) : Int32).toNatClampNeg ((nI k7) : Int32).toNatClampNeg) + (vX10_way (jj_gd h 64 8) (nI k7) (nI k6)))]) (rest := []) (kc2 := 0) (ks2 := 0) dX10_round_202 okX10_less lX10_235 rfl (Nat.le_of_ble_eq_true rfl) (Nat.le_of_ble_eq_true rfl) rfl (by omega) (by simp [jj_rk]) (by simp [jj_rk]) ?_
                        refine sp_X10_less  ?_
                        show jj_R _ _ kc ks (jj_S, 782, (jj_rs (jj_gs h 521 256 a6.2) [(49, (upd (h 49) (0) 0))]), g) 205 [(0, .ref 49), (1, .int p), (2, .int (nI V)), (3, .int a6.1), (4, .int (nI (1 + k5))), (5, .int (nI k6)), (6, .int ((nI (1 + k5)) &&& ((1 <<< ((nI k6) &&& 31)) ^^^ ((-1) : Int32)))), (7, .int a7), (8, .int (nI k7)), (9, .int ((a6.2 (((nI (1 + k5)) &&& ((1 <<< ((nI k6) &&& 31)) ^^^ ((-1) : Int32))) : Int32).toNatClampNeg ((nI k7) : Int32).toNatClampNeg) + (vX10_way (jj_gd h 64 8) (nI k7) (nI k6))))] [.int (vX10_less a7 ((a6.2 (((nI (1 + k5)) &&& ((1 <<< ((nI k6) &&& 31)) ^^^ ((-1) : Int32))) : Int32).toNatClampNeg ((nI k7) : Int32).toNatClampNeg) + (vX10_way (jj_gd h 64 8) (nI k7) (nI k6))))] Q
                        refine rr_istore [(0, .ref 49), (1, .int p), (2, .int (nI V)), (3, .int a6.1), (4, .int (nI (1 + k5))), (5, .int (nI k6)), (6, .int ((nI (1 + k5)) &&& ((1 <<< ((nI k6) &&& 31)) ^^^ ((-1) : Int32)))), (7, .int (vX10_less a7 ((a6.2 (((nI (1 + k5)) &&& ((1 <<< ((nI k6) &&& 31)) ^^^ ((-1) : Int32))) : Int32).toNatClampNeg ((nI k7) : Int32).toNatClampNeg) + (vX10_way (jj_gd h 64 8) (nI k7) (nI k6))))), (8, .int (nI k7)), (9, .int ((a6.2 (((nI (1 + k5)) &&& ((1 <<< ((nI k6) &&& 31)) ^^^ ((-1) : Int32))) : Int32).toNatClampNeg ((nI k7) : Int32).toNatClampNeg) + (vX10_way (jj_gd h 64 8) (nI k7) (nI k6))))] dX10_round_205 (by decide) rfl ?_
                        refine rr_iinc 8 1 [(0, .ref 49), (1, .int p), (2, .int (nI V)), (3, .int a6.1), (4, .int (nI (1 + k5))), (5, .int (nI k6)), (6, .int ((nI (1 + k5)) &&& ((1 <<< ((nI k6) &&& 31)) ^^^ ((-1) : Int32)))), (7, .int (vX10_less a7 ((a6.2 (((nI (1 + k5)) &&& ((1 <<< ((nI k6) &&& 31)) ^^^ ((-1) : Int32))) : Int32).toNatClampNeg ((nI k7) : Int32).toNatClampNeg) + (vX10_way (jj_gd h 64 8) (nI k7) (nI k6))))), (8, .int ((nI k7) + 1)), (9, .int ((a6.2 (((nI (1 + k5)) &&& ((1 <<< ((nI k6) &&& 31)) ^^^ ((-1) : Int32))) : Int32).toNatClampNeg ((nI k7) : Int32).toNatClampNeg) + (vX10_way (jj_gd h 64 8) (nI k7) (nI k6))))] dX10_round_207 rfl rfl (by decide) rfl ?_
                        refine rr_goto dX10_round_210 ?_
                        try simp only [(nI_clamp (show k7 < 2 ^ 31 by omega))] at c18
                        try simp only [(nI_clamp (show k7 < 2 ^ 31 by omega))] at c19
                        refine rr_drop (ls := [(0, .ref 49), (1, .int p), (2, .int (nI V)), (3, .int a6.1), (4, .int (nI (1 + k5))), (5, .int (nI k6)), (6, .int ((nI (1 + k5)) &&& ((1 <<< ((nI k6) &&& 31)) ^^^ ((-1) : Int32)))), (7, .int (vX10_less a7 ((a6.2 (((nI (1 + k5)) &&& ((1 <<< ((nI k6) &&& 31)) ^^^ ((-1) : Int32))) : Int32).toNatClampNeg ((nI k7) : Int32).toNatClampNeg) + (vX10_way (jj_gd h 64 8) (nI k7) (nI k6))))), (8, .int ((nI k7) + 1))]) [0, 1, 2, 3, 4, 5, 6, 7, 8] rfl ?_
                        simpa only [nI_1, (nI_clamp (show k7 < 2 ^ 31 by omega)), fX10_round_7, if_neg c18, if_neg c19] using ih7
                      · skip
                        refine rr_iload 9 rfl dX10_round_193 ?_
                        refine rr_goto dX10_round_195 ?_
                        refine rr_istore [(0, .ref 49), (1, .int p), (2, .int (nI V)), (3, .int a6.1), (4, .int (nI (1 + k5))), (5, .int (nI k6)), (6, .int ((nI (1 + k5)) &&& ((1 <<< ((nI k6) &&& 31)) ^^^ ((-1) : Int32)))), (7, .int ((a6.2 (((nI (1 + k5)) &&& ((1 <<< ((nI k6) &&& 31)) ^^^ ((-1) : Int32))) : Int32).toNatClampNeg ((nI k7) : Int32).toNatClampNeg) + (vX10_way (jj_gd h 64 8) (nI k7) (nI k6)))), (8, .int (nI k7)), (9, .int ((a6.2 (((nI (1 + k5)) &&& ((1 <<< ((nI k6) &&& 31)) ^^^ ((-1) : Int32))) : Int32).toNatClampNeg ((nI k7) : Int32).toNatClampNeg) + (vX10_way (jj_gd h 64 8) (nI k7) (nI k6))))] dX10_round_205 (by decide) rfl ?_
                        refine rr_iinc 8 1 [(0, .ref 49), (1, .int p), (2, .int (nI V)), (3, .int a6.1), (4, .int (nI (1 + k5))), (5, .int (nI k6)), (6, .int ((nI (1 + k5)) &&& ((1 <<< ((nI k6) &&& 31)) ^^^ ((-1) : Int32)))), (7, .int ((a6.2 (((nI (1 + k5)) &&& ((1 <<< ((nI k6) &&& 31)) ^^^ ((-1) : Int32))) : Int32).toNatClampNeg ((nI k7) : Int32).toNatClampNeg) + (vX10_way (jj_gd h 64 8) (nI k7) (nI k6)))), (8, .int ((nI k7) + 1)), (9, .int ((a6.2 (((nI (1 + k5)) &&& ((1 <<< ((nI k6) &&& 31)) ^^^ ((-1) : Int32))) : Int32).toNatClampNeg ((nI k7) : Int32).toNatClampNeg) + (vX10_way (jj_gd h 64 8) (nI k7) (nI k6))))] dX10_round_207 rfl rfl (by decide) rfl ?_
                        refine rr_goto dX10_round_210 ?_
                        try simp only [(nI_clamp (show k7 < 2 ^ 31 by omega))] at c18
                        try simp only [(nI_clamp (show k7 < 2 ^ 31 by omega))] at c19
                        refine rr_drop (ls := [(0, .ref 49), (1, .int p), (2, .int (nI V)), (3, .int a6.1), (4, .int (nI (1 + k5))), (5, .int (nI k6)), (6, .int ((nI (1 + k5)) &&& ((1 <<< ((nI k6) &&& 31)) ^^^ ((-1) : Int32)))), (7, .int ((a6.2 (((nI (1 + k5)) &&& ((1 <<< ((nI k6) &&& 31)) ^^^ ((-1) : Int32))) : Int32).toNatClampNeg ((nI k7) : Int32).toNatClampNeg) + (vX10_way (jj_gd h 64 8) (nI k7) (nI k6)))), (8, .int ((nI k7) + 1))]) [0, 1, 2, 3, 4, 5, 6, 7, 8] rfl ?_
                        simpa only [nI_1, (nI_clamp (show k7 < 2 ^ 31 by omega)), fX10_round_7, if_neg c18, if_pos c19] using ih7
                    · skip
                      refine rr_goto dX10_round_163 ?_
                      refine rr_iinc 8 1 [(0, .ref 49), (1, .int p), (2, .int (nI V)), (3, .int a6.1), (4, .int (nI (1 + k5))), (5, .int (nI k6)), (6, .int ((nI (1 + k5)) &&& ((1 <<< ((nI k6) &&& 31)) ^^^ ((-1) : Int32)))), (7, .int a7), (8, .int ((nI k7) + 1))] dX10_round_207 rfl rfl (by decide) rfl ?_
                      refine rr_goto dX10_round_210 ?_
                      try simp only [(nI_clamp (show k7 < 2 ^ 31 by omega))] at c18
                      simpa only [nI_1, (nI_clamp (show k7 < 2 ^ 31 by omega)), fX10_round_7, if_pos c18] using ih7
                  · try dsimp only
                    refine rr_iload 8 rfl dX10_round_142 ?_
                    refine rr_aload_n 0 rfl rfl dX10_round_144 ?_
                    refine rr_getR dX10_round_145 fX10_23 lo_49 sh_49 rfl ?_
                    refine rr_iconst 0 rfl dX10_round_148 ?_
                    refine rr_iaload dX10_round_149 lo_53 sh_53 (jj_inL rfl) ?_
                    rw [show (jj_rs (jj_gs h 521 256 a6.2) [(49, (upd (h 49) (0) 0))]) 53 = h 53 from rfl]
                    rw [show (h 53) (0 : Int32).toNatClampNeg = (nI n) from hT]
                    refine rr_icmp_ge dX10_round_150 (fun _ => ?_) (fun c => absurd (jj_le_rf _) c)
                    refine rr_aload_n 0 rfl rfl dX10_round_213 ?_
                    refine rr_getR dX10_round_214 fX10_73 lo_49 sh_49 rfl ?_
                    refine rr_iload 4 rfl dX10_round_217 ?_
                    refine rr_aaload dX10_round_219 lo_520 sh_520 (vp_in_nI (by omega) (by decide)) ?_
                    refine rr_iload 5 rfl dX10_round_220 ?_
                    refine rr_iload 7 rfl dX10_round_222 ?_
                    refine rr_iastore dX10_round_224 (lr_520 (jj_ink (i := (nI (1 + k5))) (vp_in_nI (by omega) (by decide)))) (sr_520 (jj_ink (i := (nI (1 + k5))) (vp_in_nI (by omega) (by decide)))) (vp_in_nI (by omega) (by decide)) ?_
                    refine jj_Rh (jj_gs_set (B := h) (L := [(49, (upd (h 49) (0) 0))]) (b := 521) (len := 256) (G := a6.2) (x := ((nI (1 + k5)) : Int32).toNatClampNeg) rfl (jj_ink (i := (nI (1 + k5))) (vp_in_nI (by omega) (by decide)))) ?_
                    refine rr_iload 4 rfl dX10_round_225 ?_
                    refine rr_iload_n 2 rfl rfl dX10_round_227 ?_
                    refine rr_icmp_eq dX10_round_228 (fun c20 => ?_) (fun c20 => ?_)
                    · skip
                      refine rr_iload_n 3 rfl rfl dX10_round_235 ?_
                      refine rr_iconst (-1) rfl dX10_round_236 ?_
                      refine rr_icmp_ne dX10_round_237 (fun c21 => ?_) (fun c21 => ?_)
                      · skip
                        refine rr_iload_n 3 rfl rfl dX10_round_245 ?_
                        refine rr_iload 7 rfl dX10_round_246 ?_
                        refine rr_callS (As := [.int a6.1, .int (jj_fo (fX10_round_7 (jj_gd h 64 8) k5 k6 a6) n (-1))]) (rest := []) (kc2 := 0) (ks2 := 0) dX10_round_248 okX10_less lX10_235 rfl (Nat.le_of_ble_eq_true rfl) (Nat.le_of_ble_eq_true rfl) rfl (by omega) (by simp [jj_rk]) (by simp [jj_rk]) ?_
                        refine sp_X10_less  ?_
                        show jj_R _ _ kc ks (jj_S, 782, (jj_rs (jj_gs h 521 256 (jj_ug a6.2 (((nI (1 + k5)) : Int32).toNatClampNeg) (((nI k6) : Int32).toNatClampNeg) (jj_fo (fX10_round_7 (jj_gd h 64 8) k5 k6 a6) n (-1)))) [(49, (upd (h 49) (0) 0))]), g) 251 [(0, .ref 49), (1, .int p), (2, .int (nI V)), (3, .int a6.1), (4, .int (nI (1 + k5))), (5, .int (nI k6)), (6, .int ((nI (1 + k5)) &&& ((1 <<< ((nI k6) &&& 31)) ^^^ ((-1) : Int32)))), (7, .int (jj_fo (fX10_round_7 (jj_gd h 64 8) k5 k6 a6) n (-1))), (8, .int (nI n))] [.int (vX10_less a6.1 (jj_fo (fX10_round_7 (jj_gd h 64 8) k5 k6 a6) n (-1)))] Q
                        refine rr_istore_n [(0, .ref 49), (1, .int p), (2, .int (nI V)), (3, .int (vX10_less a6.1 (jj_fo (fX10_round_7 (jj_gd h 64 8) k5 k6 a6) n (-1)))), (4, .int (nI (1 + k5))), (5, .int (nI k6)), (6, .int ((nI (1 + k5)) &&& ((1 <<< ((nI k6) &&& 31)) ^^^ ((-1) : Int32)))), (7, .int (jj_fo (fX10_round_7 (jj_gd h 64 8) k5 k6 a6) n (-1))), (8, .int (nI n))] dX10_round_251 rfl (by decide) rfl ?_
                        refine rr_iinc 5 1 [(0, .ref 49), (1, .int p), (2, .int (nI V)), (3, .int (vX10_less a6.1 (jj_fo (fX10_round_7 (jj_gd h 64 8) k5 k6 a6) n (-1)))), (4, .int (nI (1 + k5))), (5, .int ((nI k6) + 1)), (6, .int ((nI (1 + k5)) &&& ((1 <<< ((nI k6) &&& 31)) ^^^ ((-1) : Int32)))), (7, .int (jj_fo (fX10_round_7 (jj_gd h 64 8) k5 k6 a6) n (-1))), (8, .int (nI n))] dX10_round_252 rfl rfl (by decide) rfl ?_
                        refine rr_goto dX10_round_255 ?_
                        try simp only [(nI_clamp (show k6 < 2 ^ 31 by omega))] at c15
                        try simp only [(nI_clamp (show k6 < 2 ^ 31 by omega))] at c16
                        try simp only [(nI_clamp (show k6 < 2 ^ 31 by omega))] at c17
                        try simp only [(nI_clamp (show k6 < 2 ^ 31 by omega))] at c20
                        try simp only [(nI_clamp (show k6 < 2 ^ 31 by omega))] at c21
                        refine rr_drop (ls := [(0, .ref 49), (1, .int p), (2, .int (nI V)), (3, .int (vX10_less a6.1 (jj_fo (fX10_round_7 (jj_gd h 64 8) k5 k6 a6) n (-1)))), (4, .int (nI (1 + k5))), (5, .int ((nI k6) + 1))]) [0, 1, 2, 3, 4, 5] rfl ?_
                        simpa only [nI_1, (nI_clamp (show k6 < 2 ^ 31 by omega)), fX10_round_6, if_pos c15, if_neg c16, if_neg c17, if_pos c20, if_neg c21] using ih6
                      · skip
                        refine rr_iload 7 rfl dX10_round_240 ?_
                        refine rr_goto dX10_round_242 ?_
                        refine rr_istore_n [(0, .ref 49), (1, .int p), (2, .int (nI V)), (3, .int (jj_fo (fX10_round_7 (jj_gd h 64 8) k5 k6 a6) n (-1))), (4, .int (nI (1 + k5))), (5, .int (nI k6)), (6, .int ((nI (1 + k5)) &&& ((1 <<< ((nI k6) &&& 31)) ^^^ ((-1) : Int32)))), (7, .int (jj_fo (fX10_round_7 (jj_gd h 64 8) k5 k6 a6) n (-1))), (8, .int (nI n))] dX10_round_251 rfl (by decide) rfl ?_
                        refine rr_iinc 5 1 [(0, .ref 49), (1, .int p), (2, .int (nI V)), (3, .int (jj_fo (fX10_round_7 (jj_gd h 64 8) k5 k6 a6) n (-1))), (4, .int (nI (1 + k5))), (5, .int ((nI k6) + 1)), (6, .int ((nI (1 + k5)) &&& ((1 <<< ((nI k6) &&& 31)) ^^^ ((-1) : Int32)))), (7, .int (jj_fo (fX10_round_7 (jj_gd h 64 8) k5 k6 a6) n (-1))), (8, .int (nI n))] dX10_round_252 rfl rfl (by decide) rfl ?_
                        refine rr_goto dX10_round_255 ?_
                        try simp only [(nI_clamp (show k6 < 2 ^ 31 by omega))] at c15
                        try simp only [(nI_clamp (show k6 < 2 ^ 31 by omega))] at c16
                        try simp only [(nI_clamp (show k6 < 2 ^ 31 by omega))] at c17
                        try simp only [(nI_clamp (show k6 < 2 ^ 31 by omega))] at c20
                        try simp only [(nI_clamp (show k6 < 2 ^ 31 by omega))] at c21
                        refine rr_drop (ls := [(0, .ref 49), (1, .int p), (2, .int (nI V)), (3, .int (jj_fo (fX10_round_7 (jj_gd h 64 8) k5 k6 a6) n (-1))), (4, .int (nI (1 + k5))), (5, .int ((nI k6) + 1))]) [0, 1, 2, 3, 4, 5] rfl ?_
                        simpa only [nI_1, (nI_clamp (show k6 < 2 ^ 31 by omega)), fX10_round_6, if_pos c15, if_neg c16, if_neg c17, if_pos c20, if_pos c21] using ih6
                    · skip
                      refine rr_iload_n 3 rfl rfl dX10_round_231 ?_
                      refine rr_goto dX10_round_232 ?_
                      refine rr_istore_n [(0, .ref 49), (1, .int p), (2, .int (nI V)), (3, .int a6.1), (4, .int (nI (1 + k5))), (5, .int (nI k6)), (6, .int ((nI (1 + k5)) &&& ((1 <<< ((nI k6) &&& 31)) ^^^ ((-1) : Int32)))), (7, .int (jj_fo (fX10_round_7 (jj_gd h 64 8) k5 k6 a6) n (-1))), (8, .int (nI n))] dX10_round_251 rfl (by decide) rfl ?_
                      refine rr_iinc 5 1 [(0, .ref 49), (1, .int p), (2, .int (nI V)), (3, .int a6.1), (4, .int (nI (1 + k5))), (5, .int ((nI k6) + 1)), (6, .int ((nI (1 + k5)) &&& ((1 <<< ((nI k6) &&& 31)) ^^^ ((-1) : Int32)))), (7, .int (jj_fo (fX10_round_7 (jj_gd h 64 8) k5 k6 a6) n (-1))), (8, .int (nI n))] dX10_round_252 rfl rfl (by decide) rfl ?_
                      refine rr_goto dX10_round_255 ?_
                      try simp only [(nI_clamp (show k6 < 2 ^ 31 by omega))] at c15
                      try simp only [(nI_clamp (show k6 < 2 ^ 31 by omega))] at c16
                      try simp only [(nI_clamp (show k6 < 2 ^ 31 by omega))] at c17
                      try simp only [(nI_clamp (show k6 < 2 ^ 31 by omega))] at c20
                      refine rr_drop (ls := [(0, .ref 49), (1, .int p), (2, .int (nI V)), (3, .int a6.1), (4, .int (nI (1 + k5))), (5, .int ((nI k6) + 1))]) [0, 1, 2, 3, 4, 5] rfl ?_
                      simpa only [nI_1, (nI_clamp (show k6 < 2 ^ 31 by omega)), fX10_round_6, if_pos c15, if_neg c16, if_neg c17, if_neg c20] using ih6
                · skip
                  refine rr_aload_n 0 rfl rfl dX10_round_126 ?_
                  refine rr_iload_n 1 rfl rfl dX10_round_127 ?_
                  refine rr_iload 5 rfl dX10_round_128 ?_
                  refine rr_callV (As := [.int p, .int (nI k6)]) (rest := []) (kc2 := 0) (ks2 := 0) dX10_round_130 okX10_way lX10_330 lo_49 sh_49 rfl rfl (Nat.le_of_ble_eq_true rfl) (Nat.le_of_ble_eq_true rfl) rfl (by omega) (by simp [jj_rk]) (by simp [jj_rk]) ?_
                  refine sp_X10_way (jj_pM hn (by assumption)) (vp_in_nI (by omega) (by decide)) ?_
                  show jj_R _ _ kc ks (jj_S, 782, (jj_rs (jj_gs h 521 256 a6.2) [(49, (upd (h 49) (0) 0))]), g) 133 [(0, .ref 49), (1, .int p), (2, .int (nI V)), (3, .int a6.1), (4, .int (nI (1 + k5))), (5, .int (nI k6)), (6, .int ((nI (1 + k5)) &&& ((1 <<< ((nI k6) &&& 31)) ^^^ ((-1) : Int32))))] [.int (vX10_way (jj_gd (jj_rs (jj_gs h 521 256 a6.2) [(49, (upd (h 49) (0) 0))]) 64 8) p (nI k6))] Q
                  try rw [show jj_gd (jj_rs (jj_gs h 521 256 a6.2) [(49, (upd (h 49) (0) 0))]) 64 8 = jj_gd h 64 8 from ((jj_gd_rs (B := (jj_gs h 521 256 a6.2)) (L := [(49, (upd (h 49) (0) 0))]) (b := 64) (len := 8) rfl).trans (jj_gd_gs (B := h) (b := 521) (len := 256) (b2 := 64) (len2 := 8) rfl))]
                  refine rr_goto dX10_round_133 ?_
                  refine rr_istore [(0, .ref 49), (1, .int p), (2, .int (nI V)), (3, .int a6.1), (4, .int (nI (1 + k5))), (5, .int (nI k6)), (6, .int ((nI (1 + k5)) &&& ((1 <<< ((nI k6) &&& 31)) ^^^ ((-1) : Int32)))), (7, .int (vX10_way (jj_gd h 64 8) p (nI k6)))] dX10_round_137 (by decide) rfl ?_
                  refine rr_iconst 0 rfl dX10_round_139 ?_
                  refine rr_istore [(0, .ref 49), (1, .int p), (2, .int (nI V)), (3, .int a6.1), (4, .int (nI (1 + k5))), (5, .int (nI k6)), (6, .int ((nI (1 + k5)) &&& ((1 <<< ((nI k6) &&& 31)) ^^^ ((-1) : Int32)))), (7, .int (vX10_way (jj_gd h 64 8) p (nI k6))), (8, .int 0)] dX10_round_140 (by decide) rfl ?_
                  refine jj_for (fun k8 (a8 : Int32) => jj_R _ _ kc ks (jj_S, 782, (jj_rs (jj_gs h 521 256 a6.2) [(49, (upd (h 49) (0) 0))]), g) 142 [(0, .ref 49), (1, .int p), (2, .int (nI V)), (3, .int a6.1), (4, .int (nI (1 + k5))), (5, .int (nI k6)), (6, .int ((nI (1 + k5)) &&& ((1 <<< ((nI k6) &&& 31)) ^^^ ((-1) : Int32)))), (7, .int a8), (8, .int (nI k8))] [] Q) (fX10_round_8 (jj_gd h 64 8) k5 k6 a6) n (vX10_way (jj_gd h 64 8) p (nI k6)) ?_ ?_
                  · intro k8 hk8 ih8
                    generalize jj_fo _ k8 _ = a8 at ih8 ⊢
                    try dsimp only at ih8 ⊢
                    refine rr_iload 8 rfl dX10_round_142 ?_
                    refine rr_aload_n 0 rfl rfl dX10_round_144 ?_
                    refine rr_getR dX10_round_145 fX10_23 lo_49 sh_49 rfl ?_
                    refine rr_iconst 0 rfl dX10_round_148 ?_
                    refine rr_iaload dX10_round_149 lo_53 sh_53 (jj_inL rfl) ?_
                    rw [show (jj_rs (jj_gs h 521 256 a6.2) [(49, (upd (h 49) (0) 0))]) 53 = h 53 from rfl]
                    rw [show (h 53) (0 : Int32).toNatClampNeg = (nI n) from hT]
                    refine rr_icmp_ge dX10_round_150 (fun c => absurd c (nI_ge (a := k8) (b := n) (by omega) (by omega))) (fun _ => ?_)
                    refine rr_iload 6 rfl dX10_round_153 ?_
                    refine rr_iload 8 rfl dX10_round_155 ?_
                    refine rr_callS (As := [.int ((nI (1 + k5)) &&& ((1 <<< ((nI k6) &&& 31)) ^^^ ((-1) : Int32))), .int (nI k8)]) (rest := []) (kc2 := 0) (ks2 := 0) dX10_round_157 okX10_has lX10_254 rfl (Nat.le_of_ble_eq_true rfl) (Nat.le_of_ble_eq_true rfl) rfl (by omega) (by simp [jj_rk]) (by simp [jj_rk]) ?_
                    refine sp_X10_has  ?_
                    show jj_R _ _ kc ks (jj_S, 782, (jj_rs (jj_gs h 521 256 a6.2) [(49, (upd (h 49) (0) 0))]), g) 160 [(0, .ref 49), (1, .int p), (2, .int (nI V)), (3, .int a6.1), (4, .int (nI (1 + k5))), (5, .int (nI k6)), (6, .int ((nI (1 + k5)) &&& ((1 <<< ((nI k6) &&& 31)) ^^^ ((-1) : Int32)))), (7, .int a8), (8, .int (nI k8))] [.int (vX10_has ((nI (1 + k5)) &&& ((1 <<< ((nI k6) &&& 31)) ^^^ ((-1) : Int32))) (nI k8))] Q
                    refine rr_if_ne dX10_round_160 (fun c22 => ?_) (fun c22 => ?_)
                    · skip
                      refine rr_aload_n 0 rfl rfl dX10_round_166 ?_
                      refine rr_getR dX10_round_167 fX10_73 lo_49 sh_49 rfl ?_
                      refine rr_iload 6 rfl dX10_round_170 ?_
                      refine rr_aaload dX10_round_172 lo_520 sh_520 (jj_and256 (by omega)) ?_
                      refine rr_iload 8 rfl dX10_round_173 ?_
                      refine rr_iaload dX10_round_175 (lr_520 (jj_ink (i := ((nI (1 + k5)) &&& ((1 <<< ((nI k6) &&& 31)) ^^^ ((-1) : Int32)))) (jj_and256 (by omega)))) (sr_520 (jj_ink (i := ((nI (1 + k5)) &&& ((1 <<< ((nI k6) &&& 31)) ^^^ ((-1) : Int32)))) (jj_and256 (by omega)))) (vp_in_nI (by omega) (by decide)) ?_
                      rw [show (jj_rs (jj_gs h 521 256 a6.2) [(49, (upd (h 49) (0) 0))]) (521 + (((nI (1 + k5)) &&& ((1 <<< ((nI k6) &&& 31)) ^^^ ((-1) : Int32))) : Int32).toNatClampNeg) = a6.2 (((nI (1 + k5)) &&& ((1 <<< ((nI k6) &&& 31)) ^^^ ((-1) : Int32))) : Int32).toNatClampNeg from jj_gs_at (L := [(49, (upd (h 49) (0) 0))]) rfl (jj_ink (i := ((nI (1 + k5)) &&& ((1 <<< ((nI k6) &&& 31)) ^^^ ((-1) : Int32)))) (jj_and256 (by omega)))]
                      refine rr_aload_n 0 rfl rfl dX10_round_176 ?_
                      refine rr_iload 8 rfl dX10_round_177 ?_
                      refine rr_iload 5 rfl dX10_round_179 ?_
                      refine rr_callV (As := [.int (nI k8), .int (nI k6)]) (rest := [.int (a6.2 (((nI (1 + k5)) &&& ((1 <<< ((nI k6) &&& 31)) ^^^ ((-1) : Int32))) : Int32).toNatClampNeg ((nI k8) : Int32).toNatClampNeg)]) (kc2 := 0) (ks2 := 0) dX10_round_181 okX10_way lX10_330 lo_49 sh_49 rfl rfl (Nat.le_of_ble_eq_true rfl) (Nat.le_of_ble_eq_true rfl) rfl (by omega) (by simp [jj_rk]) (by simp [jj_rk]) ?_
                      refine sp_X10_way (vp_in_nI (by omega) (by decide)) (vp_in_nI (by omega) (by decide)) ?_
                      show jj_R _ _ kc ks (jj_S, 782, (jj_rs (jj_gs h 521 256 a6.2) [(49, (upd (h 49) (0) 0))]), g) 184 [(0, .ref 49), (1, .int p), (2, .int (nI V)), (3, .int a6.1), (4, .int (nI (1 + k5))), (5, .int (nI k6)), (6, .int ((nI (1 + k5)) &&& ((1 <<< ((nI k6) &&& 31)) ^^^ ((-1) : Int32)))), (7, .int a8), (8, .int (nI k8))] [.int (vX10_way (jj_gd (jj_rs (jj_gs h 521 256 a6.2) [(49, (upd (h 49) (0) 0))]) 64 8) (nI k8) (nI k6)), .int (a6.2 (((nI (1 + k5)) &&& ((1 <<< ((nI k6) &&& 31)) ^^^ ((-1) : Int32))) : Int32).toNatClampNeg ((nI k8) : Int32).toNatClampNeg)] Q
                      try rw [show jj_gd (jj_rs (jj_gs h 521 256 a6.2) [(49, (upd (h 49) (0) 0))]) 64 8 = jj_gd h 64 8 from ((jj_gd_rs (B := (jj_gs h 521 256 a6.2)) (L := [(49, (upd (h 49) (0) 0))]) (b := 64) (len := 8) rfl).trans (jj_gd_gs (B := h) (b := 521) (len := 256) (b2 := 64) (len2 := 8) rfl))]
                      refine rr_iadd dX10_round_184 ?_
                      refine rr_istore [(0, .ref 49), (1, .int p), (2, .int (nI V)), (3, .int a6.1), (4, .int (nI (1 + k5))), (5, .int (nI k6)), (6, .int ((nI (1 + k5)) &&& ((1 <<< ((nI k6) &&& 31)) ^^^ ((-1) : Int32)))), (7, .int a8), (8, .int (nI k8)), (9, .int ((a6.2 (((nI (1 + k5)) &&& ((1 <<< ((nI k6) &&& 31)) ^^^ ((-1) : Int32))) : Int32).toNatClampNeg ((nI k8) : Int32).toNatClampNeg) + (vX10_way (jj_gd h 64 8) (nI k8) (nI k6))))] dX10_round_185 (by decide) rfl ?_
                      refine rr_iload 7 rfl dX10_round_187 ?_
                      refine rr_iconst (-1) rfl dX10_round_189 ?_
                      refine rr_icmp_ne dX10_round_190 (fun c23 => ?_) (fun c23 => ?_)
                      · skip
                        refine rr_iload 7 rfl dX10_round_198 ?_
                        refine rr_iload 9 rfl dX10_round_200 ?_
                        refine rr_callS (As := [.int a8, .int ((a6.2 (((nI (1 + k5)) &&& ((1 <<< ((nI k6) &&& 31)) ^^^ ((-1) : Int32))) : Int32).toNatClampNeg ((nI k8) : Int32).toNatClampNeg) + (vX10_way (jj_gd h 64 8) (nI k8) (nI k6)))]) (rest := []) (kc2 := 0) (ks2 := 0) dX10_round_202 okX10_less lX10_235 rfl (Nat.le_of_ble_eq_true rfl) (Nat.le_of_ble_eq_true rfl) rfl (by omega) (by simp [jj_rk]) (by simp [jj_rk]) ?_
                        refine sp_X10_less  ?_
                        show jj_R _ _ kc ks (jj_S, 782, (jj_rs (jj_gs h 521 256 a6.2) [(49, (upd (h 49) (0) 0))]), g) 205 [(0, .ref 49), (1, .int p), (2, .int (nI V)), (3, .int a6.1), (4, .int (nI (1 + k5))), (5, .int (nI k6)), (6, .int ((nI (1 + k5)) &&& ((1 <<< ((nI k6) &&& 31)) ^^^ ((-1) : Int32)))), (7, .int a8), (8, .int (nI k8)), (9, .int ((a6.2 (((nI (1 + k5)) &&& ((1 <<< ((nI k6) &&& 31)) ^^^ ((-1) : Int32))) : Int32).toNatClampNeg ((nI k8) : Int32).toNatClampNeg) + (vX10_way (jj_gd h 64 8) (nI k8) (nI k6))))] [.int (vX10_less a8 ((a6.2 (((nI (1 + k5)) &&& ((1 <<< ((nI k6) &&& 31)) ^^^ ((-1) : Int32))) : Int32).toNatClampNeg ((nI k8) : Int32).toNatClampNeg) + (vX10_way (jj_gd h 64 8) (nI k8) (nI k6))))] Q
                        refine rr_istore [(0, .ref 49), (1, .int p), (2, .int (nI V)), (3, .int a6.1), (4, .int (nI (1 + k5))), (5, .int (nI k6)), (6, .int ((nI (1 + k5)) &&& ((1 <<< ((nI k6) &&& 31)) ^^^ ((-1) : Int32)))), (7, .int (vX10_less a8 ((a6.2 (((nI (1 + k5)) &&& ((1 <<< ((nI k6) &&& 31)) ^^^ ((-1) : Int32))) : Int32).toNatClampNeg ((nI k8) : Int32).toNatClampNeg) + (vX10_way (jj_gd h 64 8) (nI k8) (nI k6))))), (8, .int (nI k8)), (9, .int ((a6.2 (((nI (1 + k5)) &&& ((1 <<< ((nI k6) &&& 31)) ^^^ ((-1) : Int32))) : Int32).toNatClampNeg ((nI k8) : Int32).toNatClampNeg) + (vX10_way (jj_gd h 64 8) (nI k8) (nI k6))))] dX10_round_205 (by decide) rfl ?_
                        refine rr_iinc 8 1 [(0, .ref 49), (1, .int p), (2, .int (nI V)), (3, .int a6.1), (4, .int (nI (1 + k5))), (5, .int (nI k6)), (6, .int ((nI (1 + k5)) &&& ((1 <<< ((nI k6) &&& 31)) ^^^ ((-1) : Int32)))), (7, .int (vX10_less a8 ((a6.2 (((nI (1 + k5)) &&& ((1 <<< ((nI k6) &&& 31)) ^^^ ((-1) : Int32))) : Int32).toNatClampNeg ((nI k8) : Int32).toNatClampNeg) + (vX10_way (jj_gd h 64 8) (nI k8) (nI k6))))), (8, .int ((nI k8) + 1)), (9, .int ((a6.2 (((nI (1 + k5)) &&& ((1 <<< ((nI k6) &&& 31)) ^^^ ((-1) : Int32))) : Int32).toNatClampNeg ((nI k8) : Int32).toNatClampNeg) + (vX10_way (jj_gd h 64 8) (nI k8) (nI k6))))] dX10_round_207 rfl rfl (by decide) rfl ?_
                        refine rr_goto dX10_round_210 ?_
                        try simp only [(nI_clamp (show k8 < 2 ^ 31 by omega))] at c22
                        try simp only [(nI_clamp (show k8 < 2 ^ 31 by omega))] at c23
                        refine rr_drop (ls := [(0, .ref 49), (1, .int p), (2, .int (nI V)), (3, .int a6.1), (4, .int (nI (1 + k5))), (5, .int (nI k6)), (6, .int ((nI (1 + k5)) &&& ((1 <<< ((nI k6) &&& 31)) ^^^ ((-1) : Int32)))), (7, .int (vX10_less a8 ((a6.2 (((nI (1 + k5)) &&& ((1 <<< ((nI k6) &&& 31)) ^^^ ((-1) : Int32))) : Int32).toNatClampNeg ((nI k8) : Int32).toNatClampNeg) + (vX10_way (jj_gd h 64 8) (nI k8) (nI k6))))), (8, .int ((nI k8) + 1))]) [0, 1, 2, 3, 4, 5, 6, 7, 8] rfl ?_
                        simpa only [nI_1, (nI_clamp (show k8 < 2 ^ 31 by omega)), fX10_round_8, if_neg c22, if_neg c23] using ih8
                      · skip
                        refine rr_iload 9 rfl dX10_round_193 ?_
                        refine rr_goto dX10_round_195 ?_
                        refine rr_istore [(0, .ref 49), (1, .int p), (2, .int (nI V)), (3, .int a6.1), (4, .int (nI (1 + k5))), (5, .int (nI k6)), (6, .int ((nI (1 + k5)) &&& ((1 <<< ((nI k6) &&& 31)) ^^^ ((-1) : Int32)))), (7, .int ((a6.2 (((nI (1 + k5)) &&& ((1 <<< ((nI k6) &&& 31)) ^^^ ((-1) : Int32))) : Int32).toNatClampNeg ((nI k8) : Int32).toNatClampNeg) + (vX10_way (jj_gd h 64 8) (nI k8) (nI k6)))), (8, .int (nI k8)), (9, .int ((a6.2 (((nI (1 + k5)) &&& ((1 <<< ((nI k6) &&& 31)) ^^^ ((-1) : Int32))) : Int32).toNatClampNeg ((nI k8) : Int32).toNatClampNeg) + (vX10_way (jj_gd h 64 8) (nI k8) (nI k6))))] dX10_round_205 (by decide) rfl ?_
                        refine rr_iinc 8 1 [(0, .ref 49), (1, .int p), (2, .int (nI V)), (3, .int a6.1), (4, .int (nI (1 + k5))), (5, .int (nI k6)), (6, .int ((nI (1 + k5)) &&& ((1 <<< ((nI k6) &&& 31)) ^^^ ((-1) : Int32)))), (7, .int ((a6.2 (((nI (1 + k5)) &&& ((1 <<< ((nI k6) &&& 31)) ^^^ ((-1) : Int32))) : Int32).toNatClampNeg ((nI k8) : Int32).toNatClampNeg) + (vX10_way (jj_gd h 64 8) (nI k8) (nI k6)))), (8, .int ((nI k8) + 1)), (9, .int ((a6.2 (((nI (1 + k5)) &&& ((1 <<< ((nI k6) &&& 31)) ^^^ ((-1) : Int32))) : Int32).toNatClampNeg ((nI k8) : Int32).toNatClampNeg) + (vX10_way (jj_gd h 64 8) (nI k8) (nI k6))))] dX10_round_207 rfl rfl (by decide) rfl ?_
                        refine rr_goto dX10_round_210 ?_
                        try simp only [(nI_clamp (show k8 < 2 ^ 31 by omega))] at c22
                        try simp only [(nI_clamp (show k8 < 2 ^ 31 by omega))] at c23
                        refine rr_drop (ls := [(0, .ref 49), (1, .int p), (2, .int (nI V)), (3, .int a6.1), (4, .int (nI (1 + k5))), (5, .int (nI k6)), (6, .int ((nI (1 + k5)) &&& ((1 <<< ((nI k6) &&& 31)) ^^^ ((-1) : Int32)))), (7, .int ((a6.2 (((nI (1 + k5)) &&& ((1 <<< ((nI k6) &&& 31)) ^^^ ((-1) : Int32))) : Int32).toNatClampNeg ((nI k8) : Int32).toNatClampNeg) + (vX10_way (jj_gd h 64 8) (nI k8) (nI k6)))), (8, .int ((nI k8) + 1))]) [0, 1, 2, 3, 4, 5, 6, 7, 8] rfl ?_
                        simpa only [nI_1, (nI_clamp (show k8 < 2 ^ 31 by omega)), fX10_round_8, if_neg c22, if_pos c23] using ih8
                    · skip
                      refine rr_goto dX10_round_163 ?_
                      refine rr_iinc 8 1 [(0, .ref 49), (1, .int p), (2, .int (nI V)), (3, .int a6.1), (4, .int (nI (1 + k5))), (5, .int (nI k6)), (6, .int ((nI (1 + k5)) &&& ((1 <<< ((nI k6) &&& 31)) ^^^ ((-1) : Int32)))), (7, .int a8), (8, .int ((nI k8) + 1))] dX10_round_207 rfl rfl (by decide) rfl ?_
                      refine rr_goto dX10_round_210 ?_
                      try simp only [(nI_clamp (show k8 < 2 ^ 31 by omega))] at c22
                      simpa only [nI_1, (nI_clamp (show k8 < 2 ^ 31 by omega)), fX10_round_8, if_pos c22] using ih8
                  · try dsimp only
                    refine rr_iload 8 rfl dX10_round_142 ?_
                    refine rr_aload_n 0 rfl rfl dX10_round_144 ?_
                    refine rr_getR dX10_round_145 fX10_23 lo_49 sh_49 rfl ?_
                    refine rr_iconst 0 rfl dX10_round_148 ?_
                    refine rr_iaload dX10_round_149 lo_53 sh_53 (jj_inL rfl) ?_
                    rw [show (jj_rs (jj_gs h 521 256 a6.2) [(49, (upd (h 49) (0) 0))]) 53 = h 53 from rfl]
                    rw [show (h 53) (0 : Int32).toNatClampNeg = (nI n) from hT]
                    refine rr_icmp_ge dX10_round_150 (fun _ => ?_) (fun c => absurd (jj_le_rf _) c)
                    refine rr_aload_n 0 rfl rfl dX10_round_213 ?_
                    refine rr_getR dX10_round_214 fX10_73 lo_49 sh_49 rfl ?_
                    refine rr_iload 4 rfl dX10_round_217 ?_
                    refine rr_aaload dX10_round_219 lo_520 sh_520 (vp_in_nI (by omega) (by decide)) ?_
                    refine rr_iload 5 rfl dX10_round_220 ?_
                    refine rr_iload 7 rfl dX10_round_222 ?_
                    refine rr_iastore dX10_round_224 (lr_520 (jj_ink (i := (nI (1 + k5))) (vp_in_nI (by omega) (by decide)))) (sr_520 (jj_ink (i := (nI (1 + k5))) (vp_in_nI (by omega) (by decide)))) (vp_in_nI (by omega) (by decide)) ?_
                    refine jj_Rh (jj_gs_set (B := h) (L := [(49, (upd (h 49) (0) 0))]) (b := 521) (len := 256) (G := a6.2) (x := ((nI (1 + k5)) : Int32).toNatClampNeg) rfl (jj_ink (i := (nI (1 + k5))) (vp_in_nI (by omega) (by decide)))) ?_
                    refine rr_iload 4 rfl dX10_round_225 ?_
                    refine rr_iload_n 2 rfl rfl dX10_round_227 ?_
                    refine rr_icmp_eq dX10_round_228 (fun c24 => ?_) (fun c24 => ?_)
                    · skip
                      refine rr_iload_n 3 rfl rfl dX10_round_235 ?_
                      refine rr_iconst (-1) rfl dX10_round_236 ?_
                      refine rr_icmp_ne dX10_round_237 (fun c25 => ?_) (fun c25 => ?_)
                      · skip
                        refine rr_iload_n 3 rfl rfl dX10_round_245 ?_
                        refine rr_iload 7 rfl dX10_round_246 ?_
                        refine rr_callS (As := [.int a6.1, .int (jj_fo (fX10_round_8 (jj_gd h 64 8) k5 k6 a6) n (vX10_way (jj_gd h 64 8) p (nI k6)))]) (rest := []) (kc2 := 0) (ks2 := 0) dX10_round_248 okX10_less lX10_235 rfl (Nat.le_of_ble_eq_true rfl) (Nat.le_of_ble_eq_true rfl) rfl (by omega) (by simp [jj_rk]) (by simp [jj_rk]) ?_
                        refine sp_X10_less  ?_
                        show jj_R _ _ kc ks (jj_S, 782, (jj_rs (jj_gs h 521 256 (jj_ug a6.2 (((nI (1 + k5)) : Int32).toNatClampNeg) (((nI k6) : Int32).toNatClampNeg) (jj_fo (fX10_round_8 (jj_gd h 64 8) k5 k6 a6) n (vX10_way (jj_gd h 64 8) p (nI k6))))) [(49, (upd (h 49) (0) 0))]), g) 251 [(0, .ref 49), (1, .int p), (2, .int (nI V)), (3, .int a6.1), (4, .int (nI (1 + k5))), (5, .int (nI k6)), (6, .int ((nI (1 + k5)) &&& ((1 <<< ((nI k6) &&& 31)) ^^^ ((-1) : Int32)))), (7, .int (jj_fo (fX10_round_8 (jj_gd h 64 8) k5 k6 a6) n (vX10_way (jj_gd h 64 8) p (nI k6)))), (8, .int (nI n))] [.int (vX10_less a6.1 (jj_fo (fX10_round_8 (jj_gd h 64 8) k5 k6 a6) n (vX10_way (jj_gd h 64 8) p (nI k6))))] Q
                        refine rr_istore_n [(0, .ref 49), (1, .int p), (2, .int (nI V)), (3, .int (vX10_less a6.1 (jj_fo (fX10_round_8 (jj_gd h 64 8) k5 k6 a6) n (vX10_way (jj_gd h 64 8) p (nI k6))))), (4, .int (nI (1 + k5))), (5, .int (nI k6)), (6, .int ((nI (1 + k5)) &&& ((1 <<< ((nI k6) &&& 31)) ^^^ ((-1) : Int32)))), (7, .int (jj_fo (fX10_round_8 (jj_gd h 64 8) k5 k6 a6) n (vX10_way (jj_gd h 64 8) p (nI k6)))), (8, .int (nI n))] dX10_round_251 rfl (by decide) rfl ?_
                        refine rr_iinc 5 1 [(0, .ref 49), (1, .int p), (2, .int (nI V)), (3, .int (vX10_less a6.1 (jj_fo (fX10_round_8 (jj_gd h 64 8) k5 k6 a6) n (vX10_way (jj_gd h 64 8) p (nI k6))))), (4, .int (nI (1 + k5))), (5, .int ((nI k6) + 1)), (6, .int ((nI (1 + k5)) &&& ((1 <<< ((nI k6) &&& 31)) ^^^ ((-1) : Int32)))), (7, .int (jj_fo (fX10_round_8 (jj_gd h 64 8) k5 k6 a6) n (vX10_way (jj_gd h 64 8) p (nI k6)))), (8, .int (nI n))] dX10_round_252 rfl rfl (by decide) rfl ?_
                        refine rr_goto dX10_round_255 ?_
                        try simp only [(nI_clamp (show k6 < 2 ^ 31 by omega))] at c15
                        try simp only [(nI_clamp (show k6 < 2 ^ 31 by omega))] at c16
                        try simp only [(nI_clamp (show k6 < 2 ^ 31 by omega))] at c17
                        try simp only [(nI_clamp (show k6 < 2 ^ 31 by omega))] at c24
                        try simp only [(nI_clamp (show k6 < 2 ^ 31 by omega))] at c25
                        refine rr_drop (ls := [(0, .ref 49), (1, .int p), (2, .int (nI V)), (3, .int (vX10_less a6.1 (jj_fo (fX10_round_8 (jj_gd h 64 8) k5 k6 a6) n (vX10_way (jj_gd h 64 8) p (nI k6))))), (4, .int (nI (1 + k5))), (5, .int ((nI k6) + 1))]) [0, 1, 2, 3, 4, 5] rfl ?_
                        simpa only [nI_1, (nI_clamp (show k6 < 2 ^ 31 by omega)), fX10_round_6, if_pos c15, if_neg c16, if_pos c17, if_pos c24, if_neg c25] using ih6
                      · skip
                        refine rr_iload 7 rfl dX10_round_240 ?_
                        refine rr_goto dX10_round_242 ?_
                        refine rr_istore_n [(0, .ref 49), (1, .int p), (2, .int (nI V)), (3, .int (jj_fo (fX10_round_8 (jj_gd h 64 8) k5 k6 a6) n (vX10_way (jj_gd h 64 8) p (nI k6)))), (4, .int (nI (1 + k5))), (5, .int (nI k6)), (6, .int ((nI (1 + k5)) &&& ((1 <<< ((nI k6) &&& 31)) ^^^ ((-1) : Int32)))), (7, .int (jj_fo (fX10_round_8 (jj_gd h 64 8) k5 k6 a6) n (vX10_way (jj_gd h 64 8) p (nI k6)))), (8, .int (nI n))] dX10_round_251 rfl (by decide) rfl ?_
                        refine rr_iinc 5 1 [(0, .ref 49), (1, .int p), (2, .int (nI V)), (3, .int (jj_fo (fX10_round_8 (jj_gd h 64 8) k5 k6 a6) n (vX10_way (jj_gd h 64 8) p (nI k6)))), (4, .int (nI (1 + k5))), (5, .int ((nI k6) + 1)), (6, .int ((nI (1 + k5)) &&& ((1 <<< ((nI k6) &&& 31)) ^^^ ((-1) : Int32)))), (7, .int (jj_fo (fX10_round_8 (jj_gd h 64 8) k5 k6 a6) n (vX10_way (jj_gd h 64 8) p (nI k6)))), (8, .int (nI n))] dX10_round_252 rfl rfl (by decide) rfl ?_
                        refine rr_goto dX10_round_255 ?_
                        try simp only [(nI_clamp (show k6 < 2 ^ 31 by omega))] at c15
                        try simp only [(nI_clamp (show k6 < 2 ^ 31 by omega))] at c16
                        try simp only [(nI_clamp (show k6 < 2 ^ 31 by omega))] at c17
                        try simp only [(nI_clamp (show k6 < 2 ^ 31 by omega))] at c24
                        try simp only [(nI_clamp (show k6 < 2 ^ 31 by omega))] at c25
                        refine rr_drop (ls := [(0, .ref 49), (1, .int p), (2, .int (nI V)), (3, .int (jj_fo (fX10_round_8 (jj_gd h 64 8) k5 k6 a6) n (vX10_way (jj_gd h 64 8) p (nI k6)))), (4, .int (nI (1 + k5))), (5, .int ((nI k6) + 1))]) [0, 1, 2, 3, 4, 5] rfl ?_
                        simpa only [nI_1, (nI_clamp (show k6 < 2 ^ 31 by omega)), fX10_round_6, if_pos c15, if_neg c16, if_pos c17, if_pos c24, if_pos c25] using ih6
                    · skip
                      refine rr_iload_n 3 rfl rfl dX10_round_231 ?_
                      refine rr_goto dX10_round_232 ?_
                      refine rr_istore_n [(0, .ref 49), (1, .int p), (2, .int (nI V)), (3, .int a6.1), (4, .int (nI (1 + k5))), (5, .int (nI k6)), (6, .int ((nI (1 + k5)) &&& ((1 <<< ((nI k6) &&& 31)) ^^^ ((-1) : Int32)))), (7, .int (jj_fo (fX10_round_8 (jj_gd h 64 8) k5 k6 a6) n (vX10_way (jj_gd h 64 8) p (nI k6)))), (8, .int (nI n))] dX10_round_251 rfl (by decide) rfl ?_
                      refine rr_iinc 5 1 [(0, .ref 49), (1, .int p), (2, .int (nI V)), (3, .int a6.1), (4, .int (nI (1 + k5))), (5, .int ((nI k6) + 1)), (6, .int ((nI (1 + k5)) &&& ((1 <<< ((nI k6) &&& 31)) ^^^ ((-1) : Int32)))), (7, .int (jj_fo (fX10_round_8 (jj_gd h 64 8) k5 k6 a6) n (vX10_way (jj_gd h 64 8) p (nI k6)))), (8, .int (nI n))] dX10_round_252 rfl rfl (by decide) rfl ?_
                      refine rr_goto dX10_round_255 ?_
                      try simp only [(nI_clamp (show k6 < 2 ^ 31 by omega))] at c15
                      try simp only [(nI_clamp (show k6 < 2 ^ 31 by omega))] at c16
                      try simp only [(nI_clamp (show k6 < 2 ^ 31 by omega))] at c17
                      try simp only [(nI_clamp (show k6 < 2 ^ 31 by omega))] at c24
                      refine rr_drop (ls := [(0, .ref 49), (1, .int p), (2, .int (nI V)), (3, .int a6.1), (4, .int (nI (1 + k5))), (5, .int ((nI k6) + 1))]) [0, 1, 2, 3, 4, 5] rfl ?_
                      simpa only [nI_1, (nI_clamp (show k6 < 2 ^ 31 by omega)), fX10_round_6, if_pos c15, if_neg c16, if_pos c17, if_neg c24] using ih6
              · skip
                refine rr_goto dX10_round_107 ?_
                refine rr_iinc 5 1 [(0, .ref 49), (1, .int p), (2, .int (nI V)), (3, .int a6.1), (4, .int (nI (1 + k5))), (5, .int ((nI k6) + 1))] dX10_round_252 rfl rfl (by decide) rfl ?_
                refine rr_goto dX10_round_255 ?_
                try simp only [(nI_clamp (show k6 < 2 ^ 31 by omega))] at c15
                try simp only [(nI_clamp (show k6 < 2 ^ 31 by omega))] at c16
                simpa only [nI_1, (nI_clamp (show k6 < 2 ^ 31 by omega)), fX10_round_6, if_pos c15, if_pos c16] using ih6
          · try dsimp only
            refine rr_iload 5 rfl dX10_round_77 ?_
            refine rr_aload_n 0 rfl rfl dX10_round_79 ?_
            refine rr_getR dX10_round_80 fX10_23 lo_49 sh_49 rfl ?_
            refine rr_iconst 0 rfl dX10_round_83 ?_
            refine rr_iaload dX10_round_84 lo_53 sh_53 (jj_inL rfl) ?_
            rw [show (jj_rs (jj_gs h 521 256 (jj_fo (fX10_round_6 (jj_gd h 64 8) n p V k5) n (a5.1, a5.2)).2) [(49, (upd (h 49) (0) 0))]) 53 = h 53 from rfl]
            rw [show (h 53) (0 : Int32).toNatClampNeg = (nI n) from hT]
            refine rr_icmp_ge dX10_round_85 (fun _ => ?_) (fun c => absurd (jj_le_rf _) c)
            refine rr_iinc 4 1 [(0, .ref 49), (1, .int p), (2, .int (nI V)), (3, .int (jj_fo (fX10_round_6 (jj_gd h 64 8) n p V k5) n (a5.1, a5.2)).1), (4, .int ((nI (1 + k5)) + 1)), (5, .int (nI n))] dX10_round_258 rfl rfl (by decide) rfl ?_
            refine rr_goto dX10_round_261 ?_
            refine rr_drop (ls := [(0, .ref 49), (1, .int p), (2, .int (nI V)), (3, .int (jj_fo (fX10_round_6 (jj_gd h 64 8) n p V k5) n (a5.1, a5.2)).1), (4, .int ((nI (1 + k5)) + 1))]) [0, 1, 2, 3, 4] rfl ?_
            simpa only [nI_1, (nI_clamp (show 1 + k5 < 2 ^ 31 by omega)), fX10_round_5, ← Nat.add_assoc] using ih5
        · try dsimp only
          refine rr_iload 4 rfl dX10_round_68 ?_
          refine rr_iload_n 2 rfl rfl dX10_round_70 ?_
          refine rr_icmp_gt dX10_round_71 (fun _ => ?_) (fun c => absurd (nI_lt (by omega) (by omega)) c)
          refine rr_iload_n 3 rfl rfl dX10_round_264 ?_
          refine rr_ireturn dX10_round_265 rfl ?_
          refine jj_Qh (jj_rs_add (B := (jj_gs h 521 256 (jj_fo (fX10_round_5 (jj_gd h 64 8) n p V) V (0, (jj_gd h 521 256))).2)) (L := [(49, (upd (h 49) (0) 0))]) (L2 := [(49, (upd (h 49) (0) 0)), (51, (h 51))]) (o := 51) (r := (h 51)) rfl rfl) ?_
          first | simpa only [vX10_round, rX10_round_49, rX10_round_51, qX10_round_521, if_neg c1, if_neg c2, if_pos c3, nI_clamp (show V < 2 ^ 31 by omega)] using kq | simpa only [vX10_round, rX10_round_49, rX10_round_51, qX10_round_521, if_neg c1, if_neg c2, if_pos c3] using kq
    · skip
      refine rr_iconst 1 rfl dX10_round_40 ?_
      refine rr_goto dX10_round_41 ?_
      refine rr_iconst 2 rfl dX10_round_45 ?_
      refine rr_iconst 1 rfl dX10_round_46 ?_
      refine rr_callV (As := [.int 1, .int 2, .int 1]) (rest := []) (kc2 := 0) (ks2 := 0) dX10_round_47 okX10_bad lX10_171 lo_49 sh_49 rfl rfl (Nat.le_of_ble_eq_true rfl) (Nat.le_of_ble_eq_true rfl) rfl (by omega) (by simp [jj_rk]) (by simp [jj_rk]) ?_
      refine sp_X10_bad1_21 rfl ?_
      show jj_R _ _ kc ks (jj_S, 782, (jj_rs (jj_rs h [(49, (upd (h 49) (0) 0))]) [(49, (upd (upd (h 49) (0) 0) (0) 2)), (51, (upd (h 51) (1) (((h 51) 1) + 1)))]), g) 50 [(0, .ref 49), (1, .int p), (2, .int v)] [.int 1] Q
      rw [jj_rs_rs (B := h) (L := [(49, (upd (h 49) (0) 0))]) (M := [(49, (upd (upd (h 49) (0) 0) (0) 2)), (51, (upd (h 51) (1) (((h 51) 1) + 1)))]) (L2 := [(49, (upd (upd (h 49) (0) 0) (0) 2)), (51, (upd (h 51) (1) (((h 51) 1) + 1)))]) rfl]
      refine rr_if_eq dX10_round_50 (fun c => absurd c (by decide)) (fun _ => ?_)
      refine rr_iconst 0 rfl dX10_round_53 ?_
      refine rr_ireturn dX10_round_54 rfl ?_
      refine jj_Qh (jj_gs_id (B := h) (L := [(49, (upd (upd (h 49) (0) 0) (0) 2)), (51, (upd (h 51) (1) (((h 51) 1) + 1)))]) (b := 521) (len := 256)) ?_
      first | simpa only [vX10_round, rX10_round_49, rX10_round_51, qX10_round_521, if_neg c1, if_pos c2, nI_clamp (show V < 2 ^ 31 by omega)] using kq | simpa only [vX10_round, rX10_round_49, rX10_round_51, qX10_round_521, if_neg c1, if_pos c2] using kq
  · skip
    refine rr_iconst 1 rfl dX10_round_14 ?_
    refine rr_goto dX10_round_15 ?_
    refine rr_iconst 1 rfl dX10_round_19 ?_
    refine rr_iconst 0 rfl dX10_round_20 ?_
    refine rr_callV (As := [.int 1, .int 1, .int 0]) (rest := []) (kc2 := 0) (ks2 := 0) dX10_round_21 okX10_bad lX10_171 lo_49 sh_49 rfl rfl (Nat.le_of_ble_eq_true rfl) (Nat.le_of_ble_eq_true rfl) rfl (by omega) (by simp [jj_rk]) (by simp [jj_rk]) ?_
    refine sp_X10_bad1_10 rfl ?_
    show jj_R _ _ kc ks (jj_S, 782, (jj_rs (jj_rs h [(49, (upd (h 49) (0) 0))]) [(49, (upd (upd (h 49) (0) 0) (0) 1)), (51, (upd (h 51) (0) (((h 51) 0) + 1)))]), g) 24 [(0, .ref 49), (1, .int p), (2, .int v)] [.int 1] Q
    rw [jj_rs_rs (B := h) (L := [(49, (upd (h 49) (0) 0))]) (M := [(49, (upd (upd (h 49) (0) 0) (0) 1)), (51, (upd (h 51) (0) (((h 51) 0) + 1)))]) (L2 := [(49, (upd (upd (h 49) (0) 0) (0) 1)), (51, (upd (h 51) (0) (((h 51) 0) + 1)))]) rfl]
    refine rr_if_ne dX10_round_24 (fun _ => ?_) (fun c => absurd c (by decide))
    refine rr_iconst 0 rfl dX10_round_53 ?_
    refine rr_ireturn dX10_round_54 rfl ?_
    refine jj_Qh (jj_gs_id (B := h) (L := [(49, (upd (upd (h 49) (0) 0) (0) 1)), (51, (upd (h 51) (0) (((h 51) 0) + 1)))]) (b := 521) (len := 256)) ?_
    first | simpa only [vX10_round, rX10_round_49, rX10_round_51, qX10_round_521, if_pos c1, nI_clamp (show V < 2 ^ 31 by omega)] using kq | simpa only [vX10_round, rX10_round_49, rX10_round_51, qX10_round_521, if_pos c1] using kq
def fX10_beginsAnew_1  (k1 : Nat) (a1 : (Nat → Int32)) : (Nat → Int32) := (upd a1 (k1) 0)
def fX10_beginsAnew_2 (r72 : Nat → Int32) (k2 : Nat) (a2 : (Nat → Int32) × (Nat → Int32)) : (Nat → Int32) × (Nat → Int32) := ((upd a2.1 (k2) (r72 k2)), (upd a2.2 ((((24 : Int32) + (nI k2)) : Int32).toNatClampNeg) (-1)))
def rX10_beginsAnew_49 (r49 : Nat → Int32) (r52 : Nat → Int32) (r53 : Nat → Int32) (r72 : Nat → Int32) (r73 : Nat → Int32) (r497 : Nat → Int32) (g55 : Nat → Nat → Int32) (g64 : Nat → Nat → Int32) (n : Nat) : Nat → Int32 := (upd (upd (upd (upd (upd r49 (17) 0) (31) 0) (32) 0) (33) 0) (34) 0)
def rX10_beginsAnew_53 (r49 : Nat → Int32) (r52 : Nat → Int32) (r53 : Nat → Int32) (r72 : Nat → Int32) (r73 : Nat → Int32) (r497 : Nat → Int32) (g55 : Nat → Nat → Int32) (g64 : Nat → Nat → Int32) (n : Nat) : Nat → Int32 := (upd (upd r53 (0) (nI n)) (1) (r52 1))
def rX10_beginsAnew_73 (r49 : Nat → Int32) (r52 : Nat → Int32) (r53 : Nat → Int32) (r72 : Nat → Int32) (r73 : Nat → Int32) (r497 : Nat → Int32) (g55 : Nat → Nat → Int32) (g64 : Nat → Nat → Int32) (n : Nat) : Nat → Int32 := (jj_fo (fX10_beginsAnew_2 r72) 8 (r73, (jj_fo fX10_beginsAnew_1 35 r497))).1
def rX10_beginsAnew_497 (r49 : Nat → Int32) (r52 : Nat → Int32) (r53 : Nat → Int32) (r72 : Nat → Int32) (r73 : Nat → Int32) (r497 : Nat → Int32) (g55 : Nat → Nat → Int32) (g64 : Nat → Nat → Int32) (n : Nat) : Nat → Int32 := (jj_fo (fX10_beginsAnew_2 r72) 8 (r73, (jj_fo fX10_beginsAnew_1 35 r497))).2
def qX10_beginsAnew_64 (r49 : Nat → Int32) (r52 : Nat → Int32) (r53 : Nat → Int32) (r72 : Nat → Int32) (r73 : Nat → Int32) (r497 : Nat → Int32) (g55 : Nat → Nat → Int32) (g64 : Nat → Nat → Int32) (n : Nat) : Nat → Nat → Int32 := (qX10_lays_person_64 g55 g64 n)
set_option maxHeartbeats 1000000 in
theorem sp_X10_beginsAnew {d kc ks : Nat} {h : Nat → Nat → Int32} {g : Nat → Nat → Int64} {Q : jj_Rs → jj_St → Prop} {n : Nat} (hr : h 52 0 = nI n) (hn : n ≤ 8) (kq : Q (.inl none) (jj_S, 782, (jj_rs (jj_gs h 64 8 (qX10_beginsAnew_64 (h 49) (h 52) (h 53) (h 72) (h 73) (h 497) (jj_gd h 55 8) (jj_gd h 64 8) n)) [(49, (rX10_beginsAnew_49 (h 49) (h 52) (h 53) (h 72) (h 73) (h 497) (jj_gd h 55 8) (jj_gd h 64 8) n)), (53, (rX10_beginsAnew_53 (h 49) (h 52) (h 53) (h 72) (h 73) (h 497) (jj_gd h 55 8) (jj_gd h 64 8) n)), (73, (rX10_beginsAnew_73 (h 49) (h 52) (h 53) (h 72) (h 73) (h 497) (jj_gd h 55 8) (jj_gd h 64 8) n)), (497, (rX10_beginsAnew_497 (h 49) (h 52) (h 53) (h 72) (h 73) (h 497) (jj_gd h 55 8) (jj_gd h 64 8) n))]), g)) : jj_R mX10_beginsAnew (d + 1) kc ks (jj_S, 782, h, g) 0 [(0, .ref 49)] [] Q := by
  refine rr_iconst 0 rfl dX10_beginsAnew_0 ?_
  refine rr_istore_n [(0, .ref 49), (1, .int 0)] dX10_beginsAnew_1 rfl (by decide) rfl ?_
  refine rr_iload_n 1 rfl rfl dX10_beginsAnew_2 ?_
  refine rr_iconst 2 rfl dX10_beginsAnew_3 ?_
  refine rr_icmp_ge dX10_beginsAnew_4 (fun c => absurd c (by decide)) (fun _ => ?_)
  refine rr_aload_n 0 rfl rfl dX10_beginsAnew_7 ?_
  refine rr_getR dX10_beginsAnew_8 fX10_23 lo_49 sh_49 rfl ?_
  refine rr_iload_n 1 rfl rfl dX10_beginsAnew_11 ?_
  refine rr_aload_n 0 rfl rfl dX10_beginsAnew_12 ?_
  refine rr_getR dX10_beginsAnew_13 fX10_20 lo_49 sh_49 rfl ?_
  refine rr_iload_n 1 rfl rfl dX10_beginsAnew_16 ?_
  refine rr_iaload dX10_beginsAnew_17 lo_52 sh_52 (jj_inL rfl) ?_
  rw [show (h 52) (0 : Int32).toNatClampNeg = (nI n) from hr]
  refine rr_iastore dX10_beginsAnew_18 lo_53 sh_53 (jj_inL rfl) ?_
  rw [show (0 : Int32).toNatClampNeg = 0 from rfl]
  rw [jj_rs_set0 (B := h) (o := 53) (r := (h 53)) rfl]
  refine rr_iinc 1 1 [(0, .ref 49), (1, .int 1)] dX10_beginsAnew_19 rfl rfl (by decide) rfl ?_
  refine rr_goto dX10_beginsAnew_22 ?_
  refine rr_iload_n 1 rfl rfl dX10_beginsAnew_2 ?_
  refine rr_iconst 2 rfl dX10_beginsAnew_3 ?_
  refine rr_icmp_ge dX10_beginsAnew_4 (fun c => absurd c (by decide)) (fun _ => ?_)
  refine rr_aload_n 0 rfl rfl dX10_beginsAnew_7 ?_
  refine rr_getR dX10_beginsAnew_8 fX10_23 lo_49 sh_49 rfl ?_
  refine rr_iload_n 1 rfl rfl dX10_beginsAnew_11 ?_
  refine rr_aload_n 0 rfl rfl dX10_beginsAnew_12 ?_
  refine rr_getR dX10_beginsAnew_13 fX10_20 lo_49 sh_49 rfl ?_
  refine rr_iload_n 1 rfl rfl dX10_beginsAnew_16 ?_
  refine rr_iaload dX10_beginsAnew_17 lo_52 sh_52 (jj_inL rfl) ?_
  rw [show (jj_rs h [(53, (upd (h 53) (0) (nI n)))]) 52 = h 52 from rfl]
  rw [show (h 52) (1 : Int32).toNatClampNeg = (h 52) 1 from rfl]
  refine rr_iastore dX10_beginsAnew_18 lo_53 sh_53 (jj_inL rfl) ?_
  rw [show (1 : Int32).toNatClampNeg = 1 from rfl]
  rw [jj_rs_set (B := h) (L := [(53, (upd (h 53) (0) (nI n)))]) (L2 := [(53, (upd (upd (h 53) (0) (nI n)) (1) ((h 52) 1)))]) (r := (upd (h 53) (0) (nI n))) rfl rfl]
  refine rr_iinc 1 1 [(0, .ref 49), (1, .int 2)] dX10_beginsAnew_19 rfl rfl (by decide) rfl ?_
  refine rr_goto dX10_beginsAnew_22 ?_
  refine rr_iload_n 1 rfl rfl dX10_beginsAnew_2 ?_
  refine rr_iconst 2 rfl dX10_beginsAnew_3 ?_
  refine rr_icmp_ge dX10_beginsAnew_4 (fun _ => ?_) (fun c => absurd (by decide) c)
  refine rr_aload_n 0 rfl rfl dX10_beginsAnew_25 ?_
  refine rr_getR dX10_beginsAnew_26 fX10_28 lo_49 sh_49 rfl ?_
  refine rr_aload_n 0 rfl rfl dX10_beginsAnew_29 ?_
  refine rr_getR dX10_beginsAnew_30 fX10_31 lo_49 sh_49 rfl ?_
  refine rr_aload_n 0 rfl rfl dX10_beginsAnew_33 ?_
  refine rr_getR dX10_beginsAnew_34 fX10_23 lo_49 sh_49 rfl ?_
  refine rr_iconst 0 rfl dX10_beginsAnew_37 ?_
  refine rr_iaload dX10_beginsAnew_38 lo_53 sh_53 (jj_inL rfl) ?_
  rw [show (jj_rs h [(53, (upd (upd (h 53) (0) (nI n)) (1) ((h 52) 1)))]) 53 = (upd (upd (h 53) (0) (nI n)) (1) ((h 52) 1)) from rfl]
  rw [show (upd (upd (h 53) (0) (nI n)) (1) ((h 52) 1)) (0 : Int32).toNatClampNeg = (nI n) from rfl]
  refine rr_callS (As := [.ref 54, .ref 63, .int (nI n)]) (rest := []) (kc2 := 0) (ks2 := 0) dX10_beginsAnew_39 okX10_lays lX10_184 rfl (Nat.le_of_ble_eq_true rfl) (Nat.le_of_ble_eq_true rfl) rfl (by omega) (by simp [jj_rk]) (by simp [jj_rk]) ?_
  refine sp_X10_lays_person (q := n) rfl hn ?_
  show jj_R _ _ kc ks (jj_S, 782, (jj_gs (jj_rs h [(53, (upd (upd (h 53) (0) (nI n)) (1) ((h 52) 1)))]) 64 8 (qX10_lays_person_64 (jj_gd (jj_rs h [(53, (upd (upd (h 53) (0) (nI n)) (1) ((h 52) 1)))]) 55 8) (jj_gd (jj_rs h [(53, (upd (upd (h 53) (0) (nI n)) (1) ((h 52) 1)))]) 64 8) n)), g) 42 [(0, .ref 49), (1, .int 2)] [] Q
  try rw [show jj_gd (jj_rs h [(53, (upd (upd (h 53) (0) (nI n)) (1) ((h 52) 1)))]) 55 8 = jj_gd h 55 8 from (jj_gd_rs (B := h) (L := [(53, (upd (upd (h 53) (0) (nI n)) (1) ((h 52) 1)))]) (b := 55) (len := 8) rfl)]
  try rw [show jj_gd (jj_rs h [(53, (upd (upd (h 53) (0) (nI n)) (1) ((h 52) 1)))]) 64 8 = jj_gd h 64 8 from (jj_gd_rs (B := h) (L := [(53, (upd (upd (h 53) (0) (nI n)) (1) ((h 52) 1)))]) (b := 64) (len := 8) rfl)]
  rw [jj_gs_rs (B := h) (L := [(53, (upd (upd (h 53) (0) (nI n)) (1) ((h 52) 1)))]) (b := 64) (len := 8) rfl]
  refine rr_iconst 0 rfl dX10_beginsAnew_42 ?_
  refine rr_istore_n [(0, .ref 49), (1, .int 0)] dX10_beginsAnew_43 rfl (by decide) rfl ?_
  refine jj_Rh (jj_rs_add (B := (jj_gs h 64 8 (qX10_lays_person_64 (jj_gd h 55 8) (jj_gd h 64 8) n))) (L := [(53, (upd (upd (h 53) (0) (nI n)) (1) ((h 52) 1)))]) (L2 := [(53, (upd (upd (h 53) (0) (nI n)) (1) ((h 52) 1))), (497, (h 497))]) (o := 497) (r := (h 497)) rfl rfl) ?_
  refine jj_for (fun k1 (a1 : (Nat → Int32)) => jj_R _ _ kc ks (jj_S, 782, (jj_rs (jj_gs h 64 8 (qX10_lays_person_64 (jj_gd h 55 8) (jj_gd h 64 8) n)) [(53, (upd (upd (h 53) (0) (nI n)) (1) ((h 52) 1))), (497, a1)]), g) 44 [(0, .ref 49), (1, .int (nI k1))] [] Q) fX10_beginsAnew_1 35 (h 497) ?_ ?_
  · intro k1 hk1 ih1
    generalize jj_fo _ k1 _ = a1 at ih1 ⊢
    try dsimp only at ih1 ⊢
    refine rr_iload_n 1 rfl rfl dX10_beginsAnew_44 ?_
    refine rr_bipush 35 rfl dX10_beginsAnew_45 ?_
    refine rr_icmp_ge dX10_beginsAnew_47 (fun c => absurd c (nI_ge (a := k1) (b := 35) (by omega) (by omega))) (fun _ => ?_)
    refine rr_aload_n 0 rfl rfl dX10_beginsAnew_50 ?_
    refine rr_getR dX10_beginsAnew_51 fX10_61 lo_49 sh_49 rfl ?_
    refine rr_iload_n 1 rfl rfl dX10_beginsAnew_54 ?_
    refine rr_iconst 0 rfl dX10_beginsAnew_55 ?_
    refine rr_iastore dX10_beginsAnew_56 lo_497 sh_497 (vp_in_nI (by omega) (by decide)) ?_
    rw [jj_rs_set (B := (jj_gs h 64 8 (qX10_lays_person_64 (jj_gd h 55 8) (jj_gd h 64 8) n))) (L := [(53, (upd (upd (h 53) (0) (nI n)) (1) ((h 52) 1))), (497, a1)]) (L2 := [(53, (upd (upd (h 53) (0) (nI n)) (1) ((h 52) 1))), (497, (upd a1 (((nI k1) : Int32).toNatClampNeg) 0))]) (r := a1) rfl rfl]
    refine rr_iinc 1 1 [(0, .ref 49), (1, .int ((nI k1) + 1))] dX10_beginsAnew_57 rfl rfl (by decide) rfl ?_
    refine rr_goto dX10_beginsAnew_60 ?_
    simpa only [nI_1, (nI_clamp (show k1 < 2 ^ 31 by omega)), fX10_beginsAnew_1] using ih1
  · try dsimp only
    refine rr_iload_n 1 rfl rfl dX10_beginsAnew_44 ?_
    refine rr_bipush 35 rfl dX10_beginsAnew_45 ?_
    refine rr_icmp_ge dX10_beginsAnew_47 (fun _ => ?_) (fun c => absurd (jj_le_rf _) c)
    refine rr_iconst 0 rfl dX10_beginsAnew_63 ?_
    refine rr_istore_n [(0, .ref 49), (1, .int 0)] dX10_beginsAnew_64 rfl (by decide) rfl ?_
    refine jj_Rh (jj_rs_add (B := (jj_gs h 64 8 (qX10_lays_person_64 (jj_gd h 55 8) (jj_gd h 64 8) n))) (L := [(53, (upd (upd (h 53) (0) (nI n)) (1) ((h 52) 1))), (497, (jj_fo fX10_beginsAnew_1 35 (h 497)))]) (L2 := [(53, (upd (upd (h 53) (0) (nI n)) (1) ((h 52) 1))), (73, (h 73)), (497, (jj_fo fX10_beginsAnew_1 35 (h 497)))]) (o := 73) (r := (h 73)) rfl rfl) ?_
    refine jj_for (fun k2 (a2 : (Nat → Int32) × (Nat → Int32)) => jj_R _ _ kc ks (jj_S, 782, (jj_rs (jj_gs h 64 8 (qX10_lays_person_64 (jj_gd h 55 8) (jj_gd h 64 8) n)) [(53, (upd (upd (h 53) (0) (nI n)) (1) ((h 52) 1))), (73, a2.1), (497, a2.2)]), g) 65 [(0, .ref 49), (1, .int (nI k2))] [] Q) (fX10_beginsAnew_2 (h 72)) 8 ((h 73), (jj_fo fX10_beginsAnew_1 35 (h 497))) ?_ ?_
    · intro k2 hk2 ih2
      generalize jj_fo _ k2 _ = a2 at ih2 ⊢
      try dsimp only at ih2 ⊢
      refine rr_iload_n 1 rfl rfl dX10_beginsAnew_65 ?_
      refine rr_bipush 8 rfl dX10_beginsAnew_66 ?_
      refine rr_icmp_ge dX10_beginsAnew_68 (fun c => absurd c (nI_ge (a := k2) (b := 8) (by omega) (by omega))) (fun _ => ?_)
      refine rr_aload_n 0 rfl rfl dX10_beginsAnew_71 ?_
      refine rr_getR dX10_beginsAnew_72 fX10_37 lo_49 sh_49 rfl ?_
      refine rr_iload_n 1 rfl rfl dX10_beginsAnew_75 ?_
      refine rr_aload_n 0 rfl rfl dX10_beginsAnew_76 ?_
      refine rr_getR dX10_beginsAnew_77 fX10_34 lo_49 sh_49 rfl ?_
      refine rr_iload_n 1 rfl rfl dX10_beginsAnew_80 ?_
      refine rr_iaload dX10_beginsAnew_81 lo_72 sh_72 (vp_in_nI (by omega) (by decide)) ?_
      rw [show (jj_rs (jj_gs h 64 8 (qX10_lays_person_64 (jj_gd h 55 8) (jj_gd h 64 8) n)) [(53, (upd (upd (h 53) (0) (nI n)) (1) ((h 52) 1))), (73, a2.1), (497, a2.2)]) 72 = h 72 from rfl]
      refine rr_iastore dX10_beginsAnew_82 lo_73 sh_73 (vp_in_nI (by omega) (by decide)) ?_
      rw [jj_rs_set (B := (jj_gs h 64 8 (qX10_lays_person_64 (jj_gd h 55 8) (jj_gd h 64 8) n))) (L := [(53, (upd (upd (h 53) (0) (nI n)) (1) ((h 52) 1))), (73, a2.1), (497, a2.2)]) (L2 := [(53, (upd (upd (h 53) (0) (nI n)) (1) ((h 52) 1))), (73, (upd a2.1 (((nI k2) : Int32).toNatClampNeg) ((h 72) ((nI k2) : Int32).toNatClampNeg))), (497, a2.2)]) (r := a2.1) rfl rfl]
      refine rr_aload_n 0 rfl rfl dX10_beginsAnew_83 ?_
      refine rr_getR dX10_beginsAnew_84 fX10_61 lo_49 sh_49 rfl ?_
      refine rr_bipush 24 rfl dX10_beginsAnew_87 ?_
      refine rr_iload_n 1 rfl rfl dX10_beginsAnew_89 ?_
      refine rr_iadd dX10_beginsAnew_90 ?_
      refine rr_iconst (-1) rfl dX10_beginsAnew_91 ?_
      refine rr_iastore dX10_beginsAnew_92 lo_497 sh_497 (jj_rowin (n := 8) (o := 24) (vp_in_nI (by omega) (by decide)) (by decide) (by decide)) ?_
      rw [jj_rs_set (B := (jj_gs h 64 8 (qX10_lays_person_64 (jj_gd h 55 8) (jj_gd h 64 8) n))) (L := [(53, (upd (upd (h 53) (0) (nI n)) (1) ((h 52) 1))), (73, (upd a2.1 (((nI k2) : Int32).toNatClampNeg) ((h 72) ((nI k2) : Int32).toNatClampNeg))), (497, a2.2)]) (L2 := [(53, (upd (upd (h 53) (0) (nI n)) (1) ((h 52) 1))), (73, (upd a2.1 (((nI k2) : Int32).toNatClampNeg) ((h 72) ((nI k2) : Int32).toNatClampNeg))), (497, (upd a2.2 ((((24 : Int32) + (nI k2)) : Int32).toNatClampNeg) (-1)))]) (r := a2.2) rfl rfl]
      refine rr_iinc 1 1 [(0, .ref 49), (1, .int ((nI k2) + 1))] dX10_beginsAnew_93 rfl rfl (by decide) rfl ?_
      refine rr_goto dX10_beginsAnew_96 ?_
      simpa only [nI_1, (nI_clamp (show k2 < 2 ^ 31 by omega)), fX10_beginsAnew_2] using ih2
    · try dsimp only
      refine rr_iload_n 1 rfl rfl dX10_beginsAnew_65 ?_
      refine rr_bipush 8 rfl dX10_beginsAnew_66 ?_
      refine rr_icmp_ge dX10_beginsAnew_68 (fun _ => ?_) (fun c => absurd (jj_le_rf _) c)
      refine rr_aload_n 0 rfl rfl dX10_beginsAnew_99 ?_
      refine rr_iconst 0 rfl dX10_beginsAnew_100 ?_
      refine rr_putI dX10_beginsAnew_101 fX10_188 ni10_17 lo_49 sh_49 rfl ?_
      rw [jj_rs_set (B := (jj_gs h 64 8 (qX10_lays_person_64 (jj_gd h 55 8) (jj_gd h 64 8) n))) (L := [(53, (upd (upd (h 53) (0) (nI n)) (1) ((h 52) 1))), (73, (jj_fo (fX10_beginsAnew_2 (h 72)) 8 ((h 73), (jj_fo fX10_beginsAnew_1 35 (h 497)))).1), (497, (jj_fo (fX10_beginsAnew_2 (h 72)) 8 ((h 73), (jj_fo fX10_beginsAnew_1 35 (h 497)))).2)]) (L2 := [(49, (upd (h 49) (17) 0)), (53, (upd (upd (h 53) (0) (nI n)) (1) ((h 52) 1))), (73, (jj_fo (fX10_beginsAnew_2 (h 72)) 8 ((h 73), (jj_fo fX10_beginsAnew_1 35 (h 497)))).1), (497, (jj_fo (fX10_beginsAnew_2 (h 72)) 8 ((h 73), (jj_fo fX10_beginsAnew_1 35 (h 497)))).2)]) (r := (h 49)) rfl rfl]
      refine rr_aload_n 0 rfl rfl dX10_beginsAnew_104 ?_
      refine rr_iconst 0 rfl dX10_beginsAnew_105 ?_
      refine rr_putI dX10_beginsAnew_106 fX10_191 ni10_31 lo_49 sh_49 rfl ?_
      rw [jj_rs_set (B := (jj_gs h 64 8 (qX10_lays_person_64 (jj_gd h 55 8) (jj_gd h 64 8) n))) (L := [(49, (upd (h 49) (17) 0)), (53, (upd (upd (h 53) (0) (nI n)) (1) ((h 52) 1))), (73, (jj_fo (fX10_beginsAnew_2 (h 72)) 8 ((h 73), (jj_fo fX10_beginsAnew_1 35 (h 497)))).1), (497, (jj_fo (fX10_beginsAnew_2 (h 72)) 8 ((h 73), (jj_fo fX10_beginsAnew_1 35 (h 497)))).2)]) (L2 := [(49, (upd (upd (h 49) (17) 0) (31) 0)), (53, (upd (upd (h 53) (0) (nI n)) (1) ((h 52) 1))), (73, (jj_fo (fX10_beginsAnew_2 (h 72)) 8 ((h 73), (jj_fo fX10_beginsAnew_1 35 (h 497)))).1), (497, (jj_fo (fX10_beginsAnew_2 (h 72)) 8 ((h 73), (jj_fo fX10_beginsAnew_1 35 (h 497)))).2)]) (r := (upd (h 49) (17) 0)) rfl rfl]
      refine rr_aload_n 0 rfl rfl dX10_beginsAnew_109 ?_
      refine rr_iconst 0 rfl dX10_beginsAnew_110 ?_
      refine rr_putI dX10_beginsAnew_111 fX10_194 ni10_32 lo_49 sh_49 rfl ?_
      rw [jj_rs_set (B := (jj_gs h 64 8 (qX10_lays_person_64 (jj_gd h 55 8) (jj_gd h 64 8) n))) (L := [(49, (upd (upd (h 49) (17) 0) (31) 0)), (53, (upd (upd (h 53) (0) (nI n)) (1) ((h 52) 1))), (73, (jj_fo (fX10_beginsAnew_2 (h 72)) 8 ((h 73), (jj_fo fX10_beginsAnew_1 35 (h 497)))).1), (497, (jj_fo (fX10_beginsAnew_2 (h 72)) 8 ((h 73), (jj_fo fX10_beginsAnew_1 35 (h 497)))).2)]) (L2 := [(49, (upd (upd (upd (h 49) (17) 0) (31) 0) (32) 0)), (53, (upd (upd (h 53) (0) (nI n)) (1) ((h 52) 1))), (73, (jj_fo (fX10_beginsAnew_2 (h 72)) 8 ((h 73), (jj_fo fX10_beginsAnew_1 35 (h 497)))).1), (497, (jj_fo (fX10_beginsAnew_2 (h 72)) 8 ((h 73), (jj_fo fX10_beginsAnew_1 35 (h 497)))).2)]) (r := (upd (upd (h 49) (17) 0) (31) 0)) rfl rfl]
      refine rr_aload_n 0 rfl rfl dX10_beginsAnew_114 ?_
      refine rr_iconst 0 rfl dX10_beginsAnew_115 ?_
      refine rr_putI dX10_beginsAnew_116 fX10_197 ni10_33 lo_49 sh_49 rfl ?_
      rw [jj_rs_set (B := (jj_gs h 64 8 (qX10_lays_person_64 (jj_gd h 55 8) (jj_gd h 64 8) n))) (L := [(49, (upd (upd (upd (h 49) (17) 0) (31) 0) (32) 0)), (53, (upd (upd (h 53) (0) (nI n)) (1) ((h 52) 1))), (73, (jj_fo (fX10_beginsAnew_2 (h 72)) 8 ((h 73), (jj_fo fX10_beginsAnew_1 35 (h 497)))).1), (497, (jj_fo (fX10_beginsAnew_2 (h 72)) 8 ((h 73), (jj_fo fX10_beginsAnew_1 35 (h 497)))).2)]) (L2 := [(49, (upd (upd (upd (upd (h 49) (17) 0) (31) 0) (32) 0) (33) 0)), (53, (upd (upd (h 53) (0) (nI n)) (1) ((h 52) 1))), (73, (jj_fo (fX10_beginsAnew_2 (h 72)) 8 ((h 73), (jj_fo fX10_beginsAnew_1 35 (h 497)))).1), (497, (jj_fo (fX10_beginsAnew_2 (h 72)) 8 ((h 73), (jj_fo fX10_beginsAnew_1 35 (h 497)))).2)]) (r := (upd (upd (upd (h 49) (17) 0) (31) 0) (32) 0)) rfl rfl]
      refine rr_aload_n 0 rfl rfl dX10_beginsAnew_119 ?_
      refine rr_iconst 0 rfl dX10_beginsAnew_120 ?_
      refine rr_putI dX10_beginsAnew_121 fX10_200 ni10_34 lo_49 sh_49 rfl ?_
      rw [jj_rs_set (B := (jj_gs h 64 8 (qX10_lays_person_64 (jj_gd h 55 8) (jj_gd h 64 8) n))) (L := [(49, (upd (upd (upd (upd (h 49) (17) 0) (31) 0) (32) 0) (33) 0)), (53, (upd (upd (h 53) (0) (nI n)) (1) ((h 52) 1))), (73, (jj_fo (fX10_beginsAnew_2 (h 72)) 8 ((h 73), (jj_fo fX10_beginsAnew_1 35 (h 497)))).1), (497, (jj_fo (fX10_beginsAnew_2 (h 72)) 8 ((h 73), (jj_fo fX10_beginsAnew_1 35 (h 497)))).2)]) (L2 := [(49, (upd (upd (upd (upd (upd (h 49) (17) 0) (31) 0) (32) 0) (33) 0) (34) 0)), (53, (upd (upd (h 53) (0) (nI n)) (1) ((h 52) 1))), (73, (jj_fo (fX10_beginsAnew_2 (h 72)) 8 ((h 73), (jj_fo fX10_beginsAnew_1 35 (h 497)))).1), (497, (jj_fo (fX10_beginsAnew_2 (h 72)) 8 ((h 73), (jj_fo fX10_beginsAnew_1 35 (h 497)))).2)]) (r := (upd (upd (upd (upd (h 49) (17) 0) (31) 0) (32) 0) (33) 0)) rfl rfl]
      refine rr_return dX10_beginsAnew_124 rfl ?_
      simpa only [rX10_beginsAnew_49, rX10_beginsAnew_53, rX10_beginsAnew_73, rX10_beginsAnew_497, qX10_beginsAnew_64] using kq
