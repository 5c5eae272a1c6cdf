theorem jj_andN {q : Nat} {y : Int32} (hq : q < 2 ^ 31) : ∃ X : Nat, X ≤ q ∧ nI q &&& y = nI X := by
  refine ⟨(nI q &&& y).toBitVec.toNat, ?_, jj_ofN _⟩
  rw [Int32.toBitVec_and, BitVec.toNat_and]
  refine Nat.le_trans Nat.and_le_left ?_
  have e : (nI q).toBitVec = BitVec.ofNat 32 q := by simp [nI]
  rw [e, BitVec.toNat_ofNat]
  exact Nat.mod_le _ _
theorem jj_and0 {q : Nat} {y : Int32} (hq : q < 2 ^ 31) : ¬ (nI q &&& y) < 0 := by
  obtain ⟨X, hX, e⟩ := jj_andN (y := y) hq
  rw [e]; exact nI_pos (by omega)
theorem jj_andlt {q : Nat} {y : Int32} (hq : q < 256) : (nI q &&& y).toNatClampNeg < 256 := by
  obtain ⟨X, hX, e⟩ := jj_andN (y := y) (show q < 2 ^ 31 by omega)
  rw [e, nI_clamp (by omega)]; omega
theorem jj_bt {n : Nat} {v : Int32} (hn : n ≤ 8) (c : ¬ jj_bits n v = 0) : ¬ v < 0 ∧ v.toNatClampNeg < 256 := by
  unfold jj_bits at c
  by_cases c1 : v < 0
  · rw [if_pos c1] at c; exact absurd rfl c
  · rw [if_neg c1] at c
    refine ⟨c1, ?_⟩
    by_cases c2 : (1 <<< ((nI n) &&& 31)) ≤ v
    · rw [if_pos c2] at c; exact absurd rfl c
    · have e : (1 <<< ((nI n) &&& 31) : Int32).toInt ≤ 256 := by
        rcases (show n = 0 ∨ n = 1 ∨ n = 2 ∨ n = 3 ∨ n = 4 ∨ n = 5 ∨ n = 6 ∨ n = 7 ∨ n = 8 by omega) with rfl | rfl | rfl | rfl | rfl | rfl | rfl | rfl | rfl <;> decide
      rw [Int32.le_iff_toInt_le] at c2
      rw [Int32.toNatClampNeg]
      omega
def vX9_undo (r0 : Nat → Int32) (r34 : Nat → Int32) (r35 : Nat → Int32) (r38 : Nat → Int32) (r39 : Nat → Int32) (r40 : Nat → Int32) (r41 : Nat → Int32) (r42 : Nat → Int32) (u : Nat) : Int32 := (if (nI u) = 0 then (-1) else ((rX1_takeWorkBack_34 r34 r35 r38 r39 r40 r41 r42 u) 0))
def rX9_undo_0 (r0 : Nat → Int32) (r34 : Nat → Int32) (r35 : Nat → Int32) (r38 : Nat → Int32) (r39 : Nat → Int32) (r40 : Nat → Int32) (r41 : Nat → Int32) (r42 : Nat → Int32) (u : Nat) : Nat → Int32 := (if (nI u) = 0 then r0 else (upd r0 (12) 0))
def rX9_undo_34 (r0 : Nat → Int32) (r34 : Nat → Int32) (r35 : Nat → Int32) (r38 : Nat → Int32) (r39 : Nat → Int32) (r40 : Nat → Int32) (r41 : Nat → Int32) (r42 : Nat → Int32) (u : Nat) : Nat → Int32 := (if (nI u) = 0 then r34 else (rX1_takeWorkBack_34 r34 r35 r38 r39 r40 r41 r42 u))
def rX9_undo_38 (r0 : Nat → Int32) (r34 : Nat → Int32) (r35 : Nat → Int32) (r38 : Nat → Int32) (r39 : Nat → Int32) (r40 : Nat → Int32) (r41 : Nat → Int32) (r42 : Nat → Int32) (u : Nat) : Nat → Int32 := (if (nI u) = 0 then r38 else (rX1_takeWorkBack_38 r34 r35 r38 r39 r40 r41 r42 u))
def rX9_undo_39 (r0 : Nat → Int32) (r34 : Nat → Int32) (r35 : Nat → Int32) (r38 : Nat → Int32) (r39 : Nat → Int32) (r40 : Nat → Int32) (r41 : Nat → Int32) (r42 : Nat → Int32) (u : Nat) : Nat → Int32 := (if (nI u) = 0 then r39 else (rX1_takeWorkBack_39 r34 r35 r38 r39 r40 r41 r42 u))
def rX9_undo_40 (r0 : Nat → Int32) (r34 : Nat → Int32) (r35 : Nat → Int32) (r38 : Nat → Int32) (r39 : Nat → Int32) (r40 : Nat → Int32) (r41 : Nat → Int32) (r42 : Nat → Int32) (u : Nat) : Nat → Int32 := (if (nI u) = 0 then r40 else (rX1_takeWorkBack_40 r34 r35 r38 r39 r40 r41 r42 u))
def rX9_undo_41 (r0 : Nat → Int32) (r34 : Nat → Int32) (r35 : Nat → Int32) (r38 : Nat → Int32) (r39 : Nat → Int32) (r40 : Nat → Int32) (r41 : Nat → Int32) (r42 : Nat → Int32) (u : Nat) : Nat → Int32 := (if (nI u) = 0 then r41 else (rX1_takeWorkBack_41 r34 r35 r38 r39 r40 r41 r42 u))
def rX9_undo_42 (r0 : Nat → Int32) (r34 : Nat → Int32) (r35 : Nat → Int32) (r38 : Nat → Int32) (r39 : Nat → Int32) (r40 : Nat → Int32) (r41 : Nat → Int32) (r42 : Nat → Int32) (u : Nat) : Nat → Int32 := (if (nI u) = 0 then r42 else (rX1_takeWorkBack_42 r34 r35 r38 r39 r40 r41 r42 u))
set_option maxHeartbeats 1000000 in
theorem sp_X9_undo {d kc ks : Nat} {h : Nat → Nat → Int32} {g : Nat → Nat → Int64} {Q : jj_Rs → jj_St → Prop} {u : Nat} (hu : h 34 0 = nI u) (hu2 : u ≤ 16) (kq : Q (.inl (some (.int (vX9_undo (h 0) (h 34) (h 35) (h 38) (h 39) (h 40) (h 41) (h 42) u)))) (jj_S, 782, (jj_rs h [(0, (rX9_undo_0 (h 0) (h 34) (h 35) (h 38) (h 39) (h 40) (h 41) (h 42) u)), (34, (rX9_undo_34 (h 0) (h 34) (h 35) (h 38) (h 39) (h 40) (h 41) (h 42) u)), (38, (rX9_undo_38 (h 0) (h 34) (h 35) (h 38) (h 39) (h 40) (h 41) (h 42) u)), (39, (rX9_undo_39 (h 0) (h 34) (h 35) (h 38) (h 39) (h 40) (h 41) (h 42) u)), (40, (rX9_undo_40 (h 0) (h 34) (h 35) (h 38) (h 39) (h 40) (h 41) (h 42) u)), (41, (rX9_undo_41 (h 0) (h 34) (h 35) (h 38) (h 39) (h 40) (h 41) (h 42) u)), (42, (rX9_undo_42 (h 0) (h 34) (h 35) (h 38) (h 39) (h 40) (h 41) (h 42) u))]), g)) : jj_R mX9_undo (d + 2) kc ks (jj_S, 782, h, g) 0 [(0, .ref 0)] [] Q := by
  refine rr_aload_n 0 rfl rfl dX9_undo_0 ?_
  refine rr_getR dX9_undo_1 fX9_70 lo_0 sh_0 rfl ?_
  refine rr_getI dX9_undo_4 fX9_166 lo_34 sh_34 rfl ?_
  rw [hu]
  refine rr_if_ne dX9_undo_7 (fun c1 => ?_) (fun c1 => ?_)
  · skip
    refine rr_aload_n 0 rfl rfl dX9_undo_12 ?_
    refine rr_getR dX9_undo_13 fX9_70 lo_0 sh_0 rfl ?_
    refine rr_aload_n 0 rfl rfl dX9_undo_16 ?_
    refine rr_getR dX9_undo_17 fX9_80 lo_0 sh_0 rfl ?_
    refine rr_callV (As := [.ref 38]) (rest := []) (kc2 := 0) (ks2 := 0) dX9_undo_20 okX1_takeWorkBack lX9_169 lo_34 sh_34 rfl rfl (Nat.le_of_ble_eq_true rfl) (Nat.le_of_ble_eq_true rfl) rfl (by omega) (by simp [jj_rk]) (by simp [jj_rk]) ?_
    refine sp_X1_takeWorkBack (by first | assumption | exact jj_pers hP hn (by assumption) | exact vp_in_nI (by omega) (by decide) | decide | omega) (by first | assumption | exact jj_pers hP hn (by assumption) | exact vp_in_nI (by omega) (by decide) | decide | omega) ?_
    show jj_R _ _ kc ks (jj_S, 782, (jj_rs h [(34, (rX1_takeWorkBack_34 (h 34) (h 35) (h 38) (h 39) (h 40) (h 41) (h 42) u)), (38, (rX1_takeWorkBack_38 (h 34) (h 35) (h 38) (h 39) (h 40) (h 41) (h 42) u)), (39, (rX1_takeWorkBack_39 (h 34) (h 35) (h 38) (h 39) (h 40) (h 41) (h 42) u)), (40, (rX1_takeWorkBack_40 (h 34) (h 35) (h 38) (h 39) (h 40) (h 41) (h 42) u)), (41, (rX1_takeWorkBack_41 (h 34) (h 35) (h 38) (h 39) (h 40) (h 41) (h 42) u)), (42, (rX1_takeWorkBack_42 (h 34) (h 35) (h 38) (h 39) (h 40) (h 41) (h 42) u))]), g) 23 [(0, .ref 0)] [] Q
    refine rr_aload_n 0 rfl rfl dX9_undo_23 ?_
    refine rr_iconst 0 rfl dX9_undo_24 ?_
    refine rr_putI dX9_undo_25 fX9_129 ni9_12 lo_0 sh_0 rfl ?_
    rw [jj_rs_set (B := h) (L := [(34, (rX1_takeWorkBack_34 (h 34) (h 35) (h 38) (h 39) (h 40) (h 41) (h 42) u)), (38, (rX1_takeWorkBack_38 (h 34) (h 35) (h 38) (h 39) (h 40) (h 41) (h 42) u)), (39, (rX1_takeWorkBack_39 (h 34) (h 35) (h 38) (h 39) (h 40) (h 41) (h 42) u)), (40, (rX1_takeWorkBack_40 (h 34) (h 35) (h 38) (h 39) (h 40) (h 41) (h 42) u)), (41, (rX1_takeWorkBack_41 (h 34) (h 35) (h 38) (h 39) (h 40) (h 41) (h 42) u)), (42, (rX1_takeWorkBack_42 (h 34) (h 35) (h 38) (h 39) (h 40) (h 41) (h 42) u))]) (L2 := [(0, (upd (h 0) (12) 0)), (34, (rX1_takeWorkBack_34 (h 34) (h 35) (h 38) (h 39) (h 40) (h 41) (h 42) u)), (38, (rX1_takeWorkBack_38 (h 34) (h 35) (h 38) (h 39) (h 40) (h 41) (h 42) u)), (39, (rX1_takeWorkBack_39 (h 34) (h 35) (h 38) (h 39) (h 40) (h 41) (h 42) u)), (40, (rX1_takeWorkBack_40 (h 34) (h 35) (h 38) (h 39) (h 40) (h 41) (h 42) u)), (41, (rX1_takeWorkBack_41 (h 34) (h 35) (h 38) (h 39) (h 40) (h 41) (h 42) u)), (42, (rX1_takeWorkBack_42 (h 34) (h 35) (h 38) (h 39) (h 40) (h 41) (h 42) u))]) (r := (h 0)) rfl rfl]
    refine rr_aload_n 0 rfl rfl dX9_undo_28 ?_
    refine rr_getR dX9_undo_29 fX9_70 lo_0 sh_0 rfl ?_
    refine rr_getI dX9_undo_32 fX9_166 lo_34 sh_34 rfl ?_
    rw [show (jj_rs h [(0, (upd (h 0) (12) 0)), (34, (rX1_takeWorkBack_34 (h 34) (h 35) (h 38) (h 39) (h 40) (h 41) (h 42) u)), (38, (rX1_takeWorkBack_38 (h 34) (h 35) (h 38) (h 39) (h 40) (h 41) (h 42) u)), (39, (rX1_takeWorkBack_39 (h 34) (h 35) (h 38) (h 39) (h 40) (h 41) (h 42) u)), (40, (rX1_takeWorkBack_40 (h 34) (h 35) (h 38) (h 39) (h 40) (h 41) (h 42) u)), (41, (rX1_takeWorkBack_41 (h 34) (h 35) (h 38) (h 39) (h 40) (h 41) (h 42) u)), (42, (rX1_takeWorkBack_42 (h 34) (h 35) (h 38) (h 39) (h 40) (h 41) (h 42) u))]) 34 = (rX1_takeWorkBack_34 (h 34) (h 35) (h 38) (h 39) (h 40) (h 41) (h 42) u) from rfl]
    refine rr_ireturn dX9_undo_35 rfl ?_
    simpa only [vX9_undo, rX9_undo_0, rX9_undo_34, rX9_undo_38, rX9_undo_39, rX9_undo_40, rX9_undo_41, rX9_undo_42, if_neg c1] using kq
  · skip
    refine rr_iconst (-1) rfl dX9_undo_10 ?_
    refine rr_ireturn dX9_undo_11 rfl ?_
    refine jj_Qh (jj_addr (B := h) (o := 0) (r := (h 0)) rfl) ?_
    refine jj_Qh (jj_rs_add (B := h) (L := [(0, (h 0))]) (L2 := [(0, (h 0)), (34, (h 34))]) (o := 34) (r := (h 34)) rfl rfl) ?_
    refine jj_Qh (jj_rs_add (B := h) (L := [(0, (h 0)), (34, (h 34))]) (L2 := [(0, (h 0)), (34, (h 34)), (38, (h 38))]) (o := 38) (r := (h 38)) rfl rfl) ?_
    refine jj_Qh (jj_rs_add (B := h) (L := [(0, (h 0)), (34, (h 34)), (38, (h 38))]) (L2 := [(0, (h 0)), (34, (h 34)), (38, (h 38)), (39, (h 39))]) (o := 39) (r := (h 39)) rfl rfl) ?_
    refine jj_Qh (jj_rs_add (B := h) (L := [(0, (h 0)), (34, (h 34)), (38, (h 38)), (39, (h 39))]) (L2 := [(0, (h 0)), (34, (h 34)), (38, (h 38)), (39, (h 39)), (40, (h 40))]) (o := 40) (r := (h 40)) rfl rfl) ?_
    refine jj_Qh (jj_rs_add (B := h) (L := [(0, (h 0)), (34, (h 34)), (38, (h 38)), (39, (h 39)), (40, (h 40))]) (L2 := [(0, (h 0)), (34, (h 34)), (38, (h 38)), (39, (h 39)), (40, (h 40)), (41, (h 41))]) (o := 41) (r := (h 41)) rfl rfl) ?_
    refine jj_Qh (jj_rs_add (B := h) (L := [(0, (h 0)), (34, (h 34)), (38, (h 38)), (39, (h 39)), (40, (h 40)), (41, (h 41))]) (L2 := [(0, (h 0)), (34, (h 34)), (38, (h 38)), (39, (h 39)), (40, (h 40)), (41, (h 41)), (42, (h 42))]) (o := 42) (r := (h 42)) rfl rfl) ?_
    simpa only [vX9_undo, rX9_undo_0, rX9_undo_34, rX9_undo_38, rX9_undo_39, rX9_undo_40, rX9_undo_41, rX9_undo_42, if_pos c1] using kq
def vX9_image (r34 : Nat → Int32) (r35 : Nat → Int32) (r36 : Nat → Int32) (r37 : Nat → Int32) (r38 : Nat → Int32) (r39 : Nat → Int32) (r40 : Nat → Int32) (r41 : Nat → Int32) (r42 : Nat → Int32) (u : Nat) (t : Nat) : Int32 := (if (nI t) = 3 then (-1) else ((rX1_keepImage_34 r34 r35 r36 r37 r38 r39 r40 r41 r42 u t) 1))
def rX9_image_34 (r34 : Nat → Int32) (r35 : Nat → Int32) (r36 : Nat → Int32) (r37 : Nat → Int32) (r38 : Nat → Int32) (r39 : Nat → Int32) (r40 : Nat → Int32) (r41 : Nat → Int32) (r42 : Nat → Int32) (u : Nat) (t : Nat) : Nat → Int32 := (if (nI t) = 3 then r34 else (rX1_keepImage_34 r34 r35 r36 r37 r38 r39 r40 r41 r42 u t))
def rX9_image_36 (r34 : Nat → Int32) (r35 : Nat → Int32) (r36 : Nat → Int32) (r37 : Nat → Int32) (r38 : Nat → Int32) (r39 : Nat → Int32) (r40 : Nat → Int32) (r41 : Nat → Int32) (r42 : Nat → Int32) (u : Nat) (t : Nat) : Nat → Int32 := (if (nI t) = 3 then r36 else (rX1_keepImage_36 r34 r35 r36 r37 r38 r39 r40 r41 r42 u t))
def rX9_image_37 (r34 : Nat → Int32) (r35 : Nat → Int32) (r36 : Nat → Int32) (r37 : Nat → Int32) (r38 : Nat → Int32) (r39 : Nat → Int32) (r40 : Nat → Int32) (r41 : Nat → Int32) (r42 : Nat → Int32) (u : Nat) (t : Nat) : Nat → Int32 := (if (nI t) = 3 then r37 else (rX1_keepImage_37 r34 r35 r36 r37 r38 r39 r40 r41 r42 u t))
set_option maxHeartbeats 1000000 in
theorem sp_X9_image {d kc ks : Nat} {h : Nat → Nat → Int32} {g : Nat → Nat → Int64} {Q : jj_Rs → jj_St → Prop} {u : Nat} {t : Nat} (hu : h 34 0 = nI u) (hu2 : u ≤ 16) (ht : h 34 1 = nI t) (ht2 : t ≤ 3) (kq : Q (.inl (some (.int (vX9_image (h 34) (h 35) (h 36) (h 37) (h 38) (h 39) (h 40) (h 41) (h 42) u t)))) (jj_S, 782, (jj_rs h [(34, (rX9_image_34 (h 34) (h 35) (h 36) (h 37) (h 38) (h 39) (h 40) (h 41) (h 42) u t)), (36, (rX9_image_36 (h 34) (h 35) (h 36) (h 37) (h 38) (h 39) (h 40) (h 41) (h 42) u t)), (37, (rX9_image_37 (h 34) (h 35) (h 36) (h 37) (h 38) (h 39) (h 40) (h 41) (h 42) u t))]), g)) : jj_R mX9_image (d + 2) kc ks (jj_S, 782, h, g) 0 [(0, .ref 0)] [] Q := by
  refine rr_aload_n 0 rfl rfl dX9_image_0 ?_
  refine rr_getR dX9_image_1 fX9_70 lo_0 sh_0 rfl ?_
  refine rr_getI dX9_image_4 fX9_357 lo_34 sh_34 rfl ?_
  rw [ht]
  refine rr_iconst 3 rfl dX9_image_7 ?_
  refine rr_icmp_ne dX9_image_8 (fun c1 => ?_) (fun c1 => ?_)
  · skip
    refine rr_aload_n 0 rfl rfl dX9_image_13 ?_
    refine rr_getR dX9_image_14 fX9_70 lo_0 sh_0 rfl ?_
    refine rr_aload_n 0 rfl rfl dX9_image_17 ?_
    refine rr_getR dX9_image_18 fX9_80 lo_0 sh_0 rfl ?_
    refine rr_callV (As := [.ref 38]) (rest := []) (kc2 := 0) (ks2 := 0) dX9_image_21 okX1_keepImage lX9_360 lo_34 sh_34 rfl rfl (Nat.le_of_ble_eq_true rfl) (Nat.le_of_ble_eq_true rfl) rfl (by omega) (by simp [jj_rk]) (by simp [jj_rk]) ?_
    refine sp_X1_keepImage (by first | assumption | exact jj_pers hP hn (by assumption) | exact vp_in_nI (by omega) (by decide) | decide | omega) (by first | assumption | exact jj_pers hP hn (by assumption) | exact vp_in_nI (by omega) (by decide) | decide | omega) (by first | assumption | exact jj_pers hP hn (by assumption) | exact vp_in_nI (by omega) (by decide) | decide | omega) (by first | assumption | exact jj_pers hP hn (by assumption) | exact vp_in_nI (by omega) (by decide) | decide | omega) ?_
    show jj_R _ _ kc ks (jj_S, 782, (jj_rs h [(34, (rX1_keepImage_34 (h 34) (h 35) (h 36) (h 37) (h 38) (h 39) (h 40) (h 41) (h 42) u t)), (36, (rX1_keepImage_36 (h 34) (h 35) (h 36) (h 37) (h 38) (h 39) (h 40) (h 41) (h 42) u t)), (37, (rX1_keepImage_37 (h 34) (h 35) (h 36) (h 37) (h 38) (h 39) (h 40) (h 41) (h 42) u t))]), g) 24 [(0, .ref 0)] [] Q
    refine rr_aload_n 0 rfl rfl dX9_image_24 ?_
    refine rr_getR dX9_image_25 fX9_70 lo_0 sh_0 rfl ?_
    refine rr_getI dX9_image_28 fX9_357 lo_34 sh_34 rfl ?_
    rw [show (jj_rs h [(34, (rX1_keepImage_34 (h 34) (h 35) (h 36) (h 37) (h 38) (h 39) (h 40) (h 41) (h 42) u t)), (36, (rX1_keepImage_36 (h 34) (h 35) (h 36) (h 37) (h 38) (h 39) (h 40) (h 41) (h 42) u t)), (37, (rX1_keepImage_37 (h 34) (h 35) (h 36) (h 37) (h 38) (h 39) (h 40) (h 41) (h 42) u t))]) 34 = (rX1_keepImage_34 (h 34) (h 35) (h 36) (h 37) (h 38) (h 39) (h 40) (h 41) (h 42) u t) from rfl]
    refine rr_ireturn dX9_image_31 rfl ?_
    simpa only [vX9_image, rX9_image_34, rX9_image_36, rX9_image_37, if_neg c1] using kq
  · skip
    refine rr_iconst (-1) rfl dX9_image_11 ?_
    refine rr_ireturn dX9_image_12 rfl ?_
    refine jj_Qh (jj_addr (B := h) (o := 34) (r := (h 34)) rfl) ?_
    refine jj_Qh (jj_rs_add (B := h) (L := [(34, (h 34))]) (L2 := [(34, (h 34)), (36, (h 36))]) (o := 36) (r := (h 36)) rfl rfl) ?_
    refine jj_Qh (jj_rs_add (B := h) (L := [(34, (h 34)), (36, (h 36))]) (L2 := [(34, (h 34)), (36, (h 36)), (37, (h 37))]) (o := 37) (r := (h 37)) rfl rfl) ?_
    simpa only [vX9_image, rX9_image_34, rX9_image_36, rX9_image_37, if_pos c1] using kq
def vX9_restore (r0 : Nat → Int32) (r34 : Nat → Int32) (r35 : Nat → Int32) (r36 : Nat → Int32) (r37 : Nat → Int32) (r38 : Nat → Int32) (r39 : Nat → Int32) (r40 : Nat → Int32) (r41 : Nat → Int32) (r42 : Nat → Int32) (t : Nat) : Int32 := (if (nI t) = 0 then (-1) else ((rX1_takeImageBack_34 r34 r35 r36 r37 r38 r39 r40 r41 r42 t) 1))
def rX9_restore_0 (r0 : Nat → Int32) (r34 : Nat → Int32) (r35 : Nat → Int32) (r36 : Nat → Int32) (r37 : Nat → Int32) (r38 : Nat → Int32) (r39 : Nat → Int32) (r40 : Nat → Int32) (r41 : Nat → Int32) (r42 : Nat → Int32) (t : Nat) : Nat → Int32 := (if (nI t) = 0 then r0 else (upd r0 (12) 0))
def rX9_restore_34 (r0 : Nat → Int32) (r34 : Nat → Int32) (r35 : Nat → Int32) (r36 : Nat → Int32) (r37 : Nat → Int32) (r38 : Nat → Int32) (r39 : Nat → Int32) (r40 : Nat → Int32) (r41 : Nat → Int32) (r42 : Nat → Int32) (t : Nat) : Nat → Int32 := (if (nI t) = 0 then r34 else (rX1_takeImageBack_34 r34 r35 r36 r37 r38 r39 r40 r41 r42 t))
def rX9_restore_35 (r0 : Nat → Int32) (r34 : Nat → Int32) (r35 : Nat → Int32) (r36 : Nat → Int32) (r37 : Nat → Int32) (r38 : Nat → Int32) (r39 : Nat → Int32) (r40 : Nat → Int32) (r41 : Nat → Int32) (r42 : Nat → Int32) (t : Nat) : Nat → Int32 := (if (nI t) = 0 then r35 else (rX1_takeImageBack_35 r34 r35 r36 r37 r38 r39 r40 r41 r42 t))
def rX9_restore_38 (r0 : Nat → Int32) (r34 : Nat → Int32) (r35 : Nat → Int32) (r36 : Nat → Int32) (r37 : Nat → Int32) (r38 : Nat → Int32) (r39 : Nat → Int32) (r40 : Nat → Int32) (r41 : Nat → Int32) (r42 : Nat → Int32) (t : Nat) : Nat → Int32 := (if (nI t) = 0 then r38 else (rX1_takeImageBack_38 r34 r35 r36 r37 r38 r39 r40 r41 r42 t))
def rX9_restore_39 (r0 : Nat → Int32) (r34 : Nat → Int32) (r35 : Nat → Int32) (r36 : Nat → Int32) (r37 : Nat → Int32) (r38 : Nat → Int32) (r39 : Nat → Int32) (r40 : Nat → Int32) (r41 : Nat → Int32) (r42 : Nat → Int32) (t : Nat) : Nat → Int32 := (if (nI t) = 0 then r39 else (rX1_takeImageBack_39 r34 r35 r36 r37 r38 r39 r40 r41 r42 t))
def rX9_restore_40 (r0 : Nat → Int32) (r34 : Nat → Int32) (r35 : Nat → Int32) (r36 : Nat → Int32) (r37 : Nat → Int32) (r38 : Nat → Int32) (r39 : Nat → Int32) (r40 : Nat → Int32) (r41 : Nat → Int32) (r42 : Nat → Int32) (t : Nat) : Nat → Int32 := (if (nI t) = 0 then r40 else (rX1_takeImageBack_40 r34 r35 r36 r37 r38 r39 r40 r41 r42 t))
def rX9_restore_41 (r0 : Nat → Int32) (r34 : Nat → Int32) (r35 : Nat → Int32) (r36 : Nat → Int32) (r37 : Nat → Int32) (r38 : Nat → Int32) (r39 : Nat → Int32) (r40 : Nat → Int32) (r41 : Nat → Int32) (r42 : Nat → Int32) (t : Nat) : Nat → Int32 := (if (nI t) = 0 then r41 else (rX1_takeImageBack_41 r34 r35 r36 r37 r38 r39 r40 r41 r42 t))
def rX9_restore_42 (r0 : Nat → Int32) (r34 : Nat → Int32) (r35 : Nat → Int32) (r36 : Nat → Int32) (r37 : Nat → Int32) (r38 : Nat → Int32) (r39 : Nat → Int32) (r40 : Nat → Int32) (r41 : Nat → Int32) (r42 : Nat → Int32) (t : Nat) : Nat → Int32 := (if (nI t) = 0 then r42 else (rX1_takeImageBack_42 r34 r35 r36 r37 r38 r39 r40 r41 r42 t))
set_option maxHeartbeats 1000000 in
theorem sp_X9_restore {d kc ks : Nat} {h : Nat → Nat → Int32} {g : Nat → Nat → Int64} {Q : jj_Rs → jj_St → Prop} {u : Nat} {t : Nat} (hu : h 34 0 = nI u) (hu2 : u ≤ 16) (ht : h 34 1 = nI t) (ht2 : t ≤ 3) (kq : Q (.inl (some (.int (vX9_restore (h 0) (h 34) (h 35) (h 36) (h 37) (h 38) (h 39) (h 40) (h 41) (h 42) t)))) (jj_S, 782, (jj_rs h [(0, (rX9_restore_0 (h 0) (h 34) (h 35) (h 36) (h 37) (h 38) (h 39) (h 40) (h 41) (h 42) t)), (34, (rX9_restore_34 (h 0) (h 34) (h 35) (h 36) (h 37) (h 38) (h 39) (h 40) (h 41) (h 42) t)), (35, (rX9_restore_35 (h 0) (h 34) (h 35) (h 36) (h 37) (h 38) (h 39) (h 40) (h 41) (h 42) t)), (38, (rX9_restore_38 (h 0) (h 34) (h 35) (h 36) (h 37) (h 38) (h 39) (h 40) (h 41) (h 42) t)), (39, (rX9_restore_39 (h 0) (h 34) (h 35) (h 36) (h 37) (h 38) (h 39) (h 40) (h 41) (h 42) t)), (40, (rX9_restore_40 (h 0) (h 34) (h 35) (h 36) (h 37) (h 38) (h 39) (h 40) (h 41) (h 42) t)), (41, (rX9_restore_41 (h 0) (h 34) (h 35) (h 36) (h 37) (h 38) (h 39) (h 40) (h 41) (h 42) t)), (42, (rX9_restore_42 (h 0) (h 34) (h 35) (h 36) (h 37) (h 38) (h 39) (h 40) (h 41) (h 42) t))]), g)) : jj_R mX9_restore (d + 2) kc ks (jj_S, 782, h, g) 0 [(0, .ref 0)] [] Q := by
  refine rr_aload_n 0 rfl rfl dX9_restore_0 ?_
  refine rr_getR dX9_restore_1 fX9_70 lo_0 sh_0 rfl ?_
  refine rr_getI dX9_restore_4 fX9_357 lo_34 sh_34 rfl ?_
  rw [ht]
  refine rr_if_ne dX9_restore_7 (fun c1 => ?_) (fun c1 => ?_)
  · skip
    refine rr_aload_n 0 rfl rfl dX9_restore_12 ?_
    refine rr_getR dX9_restore_13 fX9_70 lo_0 sh_0 rfl ?_
    refine rr_aload_n 0 rfl rfl dX9_restore_16 ?_
    refine rr_getR dX9_restore_17 fX9_80 lo_0 sh_0 rfl ?_
    refine rr_callV (As := [.ref 38]) (rest := []) (kc2 := 0) (ks2 := 0) dX9_restore_20 okX1_takeImageBack lX9_363 lo_34 sh_34 rfl rfl (Nat.le_of_ble_eq_true rfl) (Nat.le_of_ble_eq_true rfl) rfl (by omega) (by simp [jj_rk]) (by simp [jj_rk]) ?_
    refine sp_X1_takeImageBack (by first | assumption | exact jj_pers hP hn (by assumption) | exact vp_in_nI (by omega) (by decide) | decide | omega) (by first | assumption | exact jj_pers hP hn (by assumption) | exact vp_in_nI (by omega) (by decide) | decide | omega) (by first | assumption | exact jj_pers hP hn (by assumption) | exact vp_in_nI (by omega) (by decide) | decide | omega) (by first | assumption | exact jj_pers hP hn (by assumption) | exact vp_in_nI (by omega) (by decide) | decide | omega) ?_
    show jj_R _ _ kc ks (jj_S, 782, (jj_rs h [(34, (rX1_takeImageBack_34 (h 34) (h 35) (h 36) (h 37) (h 38) (h 39) (h 40) (h 41) (h 42) t)), (35, (rX1_takeImageBack_35 (h 34) (h 35) (h 36) (h 37) (h 38) (h 39) (h 40) (h 41) (h 42) t)), (38, (rX1_takeImageBack_38 (h 34) (h 35) (h 36) (h 37) (h 38) (h 39) (h 40) (h 41) (h 42) t)), (39, (rX1_takeImageBack_39 (h 34) (h 35) (h 36) (h 37) (h 38) (h 39) (h 40) (h 41) (h 42) t)), (40, (rX1_takeImageBack_40 (h 34) (h 35) (h 36) (h 37) (h 38) (h 39) (h 40) (h 41) (h 42) t)), (41, (rX1_takeImageBack_41 (h 34) (h 35) (h 36) (h 37) (h 38) (h 39) (h 40) (h 41) (h 42) t)), (42, (rX1_takeImageBack_42 (h 34) (h 35) (h 36) (h 37) (h 38) (h 39) (h 40) (h 41) (h 42) t))]), g) 23 [(0, .ref 0)] [] Q
    refine rr_aload_n 0 rfl rfl dX9_restore_23 ?_
    refine rr_iconst 0 rfl dX9_restore_24 ?_
    refine rr_putI dX9_restore_25 fX9_129 ni9_12 lo_0 sh_0 rfl ?_
    rw [jj_rs_set (B := h) (L := [(34, (rX1_takeImageBack_34 (h 34) (h 35) (h 36) (h 37) (h 38) (h 39) (h 40) (h 41) (h 42) t)), (35, (rX1_takeImageBack_35 (h 34) (h 35) (h 36) (h 37) (h 38) (h 39) (h 40) (h 41) (h 42) t)), (38, (rX1_takeImageBack_38 (h 34) (h 35) (h 36) (h 37) (h 38) (h 39) (h 40) (h 41) (h 42) t)), (39, (rX1_takeImageBack_39 (h 34) (h 35) (h 36) (h 37) (h 38) (h 39) (h 40) (h 41) (h 42) t)), (40, (rX1_takeImageBack_40 (h 34) (h 35) (h 36) (h 37) (h 38) (h 39) (h 40) (h 41) (h 42) t)), (41, (rX1_takeImageBack_41 (h 34) (h 35) (h 36) (h 37) (h 38) (h 39) (h 40) (h 41) (h 42) t)), (42, (rX1_takeImageBack_42 (h 34) (h 35) (h 36) (h 37) (h 38) (h 39) (h 40) (h 41) (h 42) t))]) (L2 := [(0, (upd (h 0) (12) 0)), (34, (rX1_takeImageBack_34 (h 34) (h 35) (h 36) (h 37) (h 38) (h 39) (h 40) (h 41) (h 42) t)), (35, (rX1_takeImageBack_35 (h 34) (h 35) (h 36) (h 37) (h 38) (h 39) (h 40) (h 41) (h 42) t)), (38, (rX1_takeImageBack_38 (h 34) (h 35) (h 36) (h 37) (h 38) (h 39) (h 40) (h 41) (h 42) t)), (39, (rX1_takeImageBack_39 (h 34) (h 35) (h 36) (h 37) (h 38) (h 39) (h 40) (h 41) (h 42) t)), (40, (rX1_takeImageBack_40 (h 34) (h 35) (h 36) (h 37) (h 38) (h 39) (h 40) (h 41) (h 42) t)), (41, (rX1_takeImageBack_41 (h 34) (h 35) (h 36) (h 37) (h 38) (h 39) (h 40) (h 41) (h 42) t)), (42, (rX1_takeImageBack_42 (h 34) (h 35) (h 36) (h 37) (h 38) (h 39) (h 40) (h 41) (h 42) t))]) (r := (h 0)) rfl rfl]
    refine rr_aload_n 0 rfl rfl dX9_restore_28 ?_
    refine rr_getR dX9_restore_29 fX9_70 lo_0 sh_0 rfl ?_
    refine rr_getI dX9_restore_32 fX9_357 lo_34 sh_34 rfl ?_
    rw [show (jj_rs h [(0, (upd (h 0) (12) 0)), (34, (rX1_takeImageBack_34 (h 34) (h 35) (h 36) (h 37) (h 38) (h 39) (h 40) (h 41) (h 42) t)), (35, (rX1_takeImageBack_35 (h 34) (h 35) (h 36) (h 37) (h 38) (h 39) (h 40) (h 41) (h 42) t)), (38, (rX1_takeImageBack_38 (h 34) (h 35) (h 36) (h 37) (h 38) (h 39) (h 40) (h 41) (h 42) t)), (39, (rX1_takeImageBack_39 (h 34) (h 35) (h 36) (h 37) (h 38) (h 39) (h 40) (h 41) (h 42) t)), (40, (rX1_takeImageBack_40 (h 34) (h 35) (h 36) (h 37) (h 38) (h 39) (h 40) (h 41) (h 42) t)), (41, (rX1_takeImageBack_41 (h 34) (h 35) (h 36) (h 37) (h 38) (h 39) (h 40) (h 41) (h 42) t)), (42, (rX1_takeImageBack_42 (h 34) (h 35) (h 36) (h 37) (h 38) (h 39) (h 40) (h 41) (h 42) t))]) 34 = (rX1_takeImageBack_34 (h 34) (h 35) (h 36) (h 37) (h 38) (h 39) (h 40) (h 41) (h 42) t) from rfl]
    refine rr_ireturn dX9_restore_35 rfl ?_
    simpa only [vX9_restore, rX9_restore_0, rX9_restore_34, rX9_restore_35, rX9_restore_38, rX9_restore_39, rX9_restore_40, rX9_restore_41, rX9_restore_42, if_neg c1] using kq
  · skip
    refine rr_iconst (-1) rfl dX9_restore_10 ?_
    refine rr_ireturn dX9_restore_11 rfl ?_
    refine jj_Qh (jj_addr (B := h) (o := 0) (r := (h 0)) rfl) ?_
    refine jj_Qh (jj_rs_add (B := h) (L := [(0, (h 0))]) (L2 := [(0, (h 0)), (34, (h 34))]) (o := 34) (r := (h 34)) rfl rfl) ?_
    refine jj_Qh (jj_rs_add (B := h) (L := [(0, (h 0)), (34, (h 34))]) (L2 := [(0, (h 0)), (34, (h 34)), (35, (h 35))]) (o := 35) (r := (h 35)) rfl rfl) ?_
    refine jj_Qh (jj_rs_add (B := h) (L := [(0, (h 0)), (34, (h 34)), (35, (h 35))]) (L2 := [(0, (h 0)), (34, (h 34)), (35, (h 35)), (38, (h 38))]) (o := 38) (r := (h 38)) rfl rfl) ?_
    refine jj_Qh (jj_rs_add (B := h) (L := [(0, (h 0)), (34, (h 34)), (35, (h 35)), (38, (h 38))]) (L2 := [(0, (h 0)), (34, (h 34)), (35, (h 35)), (38, (h 38)), (39, (h 39))]) (o := 39) (r := (h 39)) rfl rfl) ?_
    refine jj_Qh (jj_rs_add (B := h) (L := [(0, (h 0)), (34, (h 34)), (35, (h 35)), (38, (h 38)), (39, (h 39))]) (L2 := [(0, (h 0)), (34, (h 34)), (35, (h 35)), (38, (h 38)), (39, (h 39)), (40, (h 40))]) (o := 40) (r := (h 40)) rfl rfl) ?_
    refine jj_Qh (jj_rs_add (B := h) (L := [(0, (h 0)), (34, (h 34)), (35, (h 35)), (38, (h 38)), (39, (h 39)), (40, (h 40))]) (L2 := [(0, (h 0)), (34, (h 34)), (35, (h 35)), (38, (h 38)), (39, (h 39)), (40, (h 40)), (41, (h 41))]) (o := 41) (r := (h 41)) rfl rfl) ?_
    refine jj_Qh (jj_rs_add (B := h) (L := [(0, (h 0)), (34, (h 34)), (35, (h 35)), (38, (h 38)), (39, (h 39)), (40, (h 40)), (41, (h 41))]) (L2 := [(0, (h 0)), (34, (h 34)), (35, (h 35)), (38, (h 38)), (39, (h 39)), (40, (h 40)), (41, (h 41)), (42, (h 42))]) (o := 42) (r := (h 42)) rfl rfl) ?_
    simpa only [vX9_restore, rX9_restore_0, rX9_restore_34, rX9_restore_35, rX9_restore_38, rX9_restore_39, rX9_restore_40, rX9_restore_41, rX9_restore_42, if_pos c1] using kq
def vX7_leastWayTo (r4 : Nat → Int32) (r5 : Nat → Int32) (r48 : Nat → Int32) (n : Nat) (f : Int32) (q : Nat) (b : Int32) : Int32 := (if ((nI q) &&& ((1 <<< (b &&& 31)) ^^^ (-1))) = 0 then (vX7_wayBetween r4 r5 f b) else (vX7_leastOf r4 r5 r48 n ((((nI q) &&& ((1 <<< (b &&& 31)) ^^^ (-1))) : Int32).toNatClampNeg) b))
set_option maxHeartbeats 1000000 in
theorem sp_X7_leastWayTo {d kc ks : Nat} {h : Nat → Nat → Int32} {g : Nat → Nat → Int64} {Q : jj_Rs → jj_St → Prop} {n : Nat} {f : Int32} {q : Nat} {b : Int32} {q_ : Int32} (hq_ : q_ = nI q) (hP : h 1 0 = nI n) (hn : n ≤ 8) (hf : vp_in f 8) (hb : vp_in b 8) (hq : q < 256) (kq : Q (.inl (some (.int (vX7_leastWayTo (h 4) (h 5) (h 48) n f q b)))) (jj_S, 782, h, g)) : jj_R mX7_leastWayTo (d + 3) kc ks (jj_S, 782, h, g) 0 [(0, .ref 1), (1, .int f), (2, .int q_), (3, .int b), (4, .ref 48)] [] Q := by
  subst hq_
  refine rr_iload_n 2 rfl rfl dX7_leastWayTo_0 ?_
  refine rr_iconst 1 rfl dX7_leastWayTo_1 ?_
  refine rr_iload_n 3 rfl rfl dX7_leastWayTo_2 ?_
  refine rr_ishl dX7_leastWayTo_3 ?_
  refine rr_iconst (-1) rfl dX7_leastWayTo_4 ?_
  refine rr_ixor dX7_leastWayTo_5 ?_
  refine rr_iand dX7_leastWayTo_6 ?_
  refine rr_istore [(0, .ref 1), (1, .int f), (2, .int (nI q)), (3, .int b), (4, .ref 48), (5, .int ((nI q) &&& ((1 <<< (b &&& 31)) ^^^ (-1))))] dX7_leastWayTo_7 (by decide) rfl ?_
  refine rr_iload 5 rfl dX7_leastWayTo_9 ?_
  refine rr_if_ne dX7_leastWayTo_11 (fun c1 => ?_) (fun c1 => ?_)
  · skip
    refine rr_aload_n 0 rfl rfl dX7_leastWayTo_23 ?_
    refine rr_iload 5 rfl dX7_leastWayTo_24 ?_
    refine rr_iload_n 3 rfl rfl dX7_leastWayTo_26 ?_
    refine rr_aload 4 rfl dX7_leastWayTo_27 ?_
    refine rr_callV (As := [.int ((nI q) &&& ((1 <<< (b &&& 31)) ^^^ (-1))), .int b, .ref 48]) (rest := []) (kc2 := 0) (ks2 := 0) dX7_leastWayTo_29 okX7_leastOf lX7_103 lo_1 sh_1 rfl rfl (Nat.le_of_ble_eq_true rfl) (Nat.le_of_ble_eq_true rfl) rfl (by omega) (by simp [jj_rk]) (by simp [jj_rk]) ?_
    refine sp_X7_leastOf (q := (((nI q) &&& ((1 <<< (b &&& 31)) ^^^ (-1))) : Int32).toNatClampNeg) (jj_nIc (by first | assumption | exact (jj_wk (by assumption)).1 | exact jj_and0 (by omega) | exact (jj_bt hn (by assumption)).1)) hP hn (by first | omega | exact jj_andlt (by omega)) (by first | exact fun c => absurd rfl c | exact fun _ => by assumption) ?_
    show jj_R _ _ kc ks (jj_S, 782, h, g) 32 [(0, .ref 1), (1, .int f), (2, .int (nI q)), (3, .int b), (4, .ref 48), (5, .int ((nI q) &&& ((1 <<< (b &&& 31)) ^^^ (-1))))] [.int (vX7_leastOf (h 4) (h 5) (h 48) n ((((nI q) &&& ((1 <<< (b &&& 31)) ^^^ (-1))) : Int32).toNatClampNeg) b)] Q
    refine rr_ireturn dX7_leastWayTo_32 rfl ?_
    simpa only [vX7_leastWayTo, if_neg c1] using kq
  · skip
    refine rr_aload_n 0 rfl rfl dX7_leastWayTo_14 ?_
    refine rr_iload_n 1 rfl rfl dX7_leastWayTo_15 ?_
    refine rr_iload_n 3 rfl rfl dX7_leastWayTo_16 ?_
    refine rr_callV (As := [.int f, .int b]) (rest := []) (kc2 := 0) (ks2 := 0) dX7_leastWayTo_17 okX7_wayBetween lX7_95 lo_1 sh_1 rfl rfl (Nat.le_of_ble_eq_true rfl) (Nat.le_of_ble_eq_true rfl) rfl (by omega) (by simp [jj_rk]) (by simp [jj_rk]) ?_
    refine sp_X7_wayBetween (by first | assumption | exact jj_pers hP hn (by assumption) | exact vp_in_nI (by omega) (by decide) | exact jj_andlt (by omega) | exact (jj_bt hn (by assumption)).2 | decide | omega) (by first | assumption | exact jj_pers hP hn (by assumption) | exact vp_in_nI (by omega) (by decide) | exact jj_andlt (by omega) | exact (jj_bt hn (by assumption)).2 | decide | omega) ?_
    show jj_R _ _ kc ks (jj_S, 782, h, g) 20 [(0, .ref 1), (1, .int f), (2, .int (nI q)), (3, .int b), (4, .ref 48), (5, .int ((nI q) &&& ((1 <<< (b &&& 31)) ^^^ (-1))))] [.int (vX7_wayBetween (h 4) (h 5) f b)] Q
    refine rr_goto dX7_leastWayTo_20 ?_
    refine rr_ireturn dX7_leastWayTo_32 rfl ?_
    simpa only [vX7_leastWayTo, if_pos c1] using kq
def fX7_leastRound_2 (r4 : Nat → Int32) (r5 : Nat → Int32) (n : Nat) (f : Int32) (q : Nat) (k1 : Nat) (k2 : Nat) (a2 : (Nat → Int32)) : Sum ((Nat → Int32)) ((Nat → Int32)) := (if ((nI (1 + k1)) &&& (((nI q) &&& ((1 <<< (f &&& 31)) ^^^ (-1))) ^^^ (-1))) = 0 then (if ((nI (1 + k1)) &&& (1 <<< ((nI k2) &&& 31))) = 0 then (.inl a2) else (.inl (upd a2 (((nI (((1 + k1) * 8) + k2)) : Int32).toNatClampNeg) (vX7_leastWayTo r4 r5 a2 n f (1 + k1) (nI k2))))) else (.inr a2))
def fX7_leastRound_1 (r4 : Nat → Int32) (r5 : Nat → Int32) (n : Nat) (f : Int32) (q : Nat) (k1 : Nat) (a1 : (Nat → Int32)) : Sum ((Nat → Int32)) ((Nat → Int32)) := (if ((nI q) &&& ((1 <<< (f &&& 31)) ^^^ (-1))) < (nI (1 + k1)) then (.inr a1) else (Sum.elim (fun a2 => (.inl a2)) (fun r2_ => (.inl r2_)) (jj_fx (fX7_leastRound_2 r4 r5 n f q k1) n a1)))
def vX7_leastRound (r4 : Nat → Int32) (r5 : Nat → Int32) (r48 : Nat → Int32) (n : Nat) (f : Int32) (q : Nat) : Int32 := (Sum.elim (fun a1 => (if ((nI q) &&& ((1 <<< (f &&& 31)) ^^^ (-1))) = 0 then 0 else (vX7_leastOf r4 r5 a1 n ((((nI q) &&& ((1 <<< (f &&& 31)) ^^^ (-1))) : Int32).toNatClampNeg) (-1)))) (fun r1_ => (if ((nI q) &&& ((1 <<< (f &&& 31)) ^^^ (-1))) = 0 then 0 else (vX7_leastOf r4 r5 r1_ n ((((nI q) &&& ((1 <<< (f &&& 31)) ^^^ (-1))) : Int32).toNatClampNeg) (-1)))) (jj_fx (fX7_leastRound_1 r4 r5 n f q) 255 r48))
def rX7_leastRound_48 (r4 : Nat → Int32) (r5 : Nat → Int32) (r48 : Nat → Int32) (n : Nat) (f : Int32) (q : Nat) : Nat → Int32 := (Sum.elim (fun a1 => a1) (fun r1_ => r1_) (jj_fx (fX7_leastRound_1 r4 r5 n f q) 255 r48))
set_option maxHeartbeats 1000000 in
theorem sp_X7_leastRound {d kc ks : Nat} {h : Nat → Nat → Int32} {g : Nat → Nat → Int64} {Q : jj_Rs → jj_St → Prop} {n : Nat} {f : Int32} {q : Nat} {q_ : Int32} (hq_ : q_ = nI q) (hP : h 1 0 = nI n) (hn : n ≤ 8) (hf : vp_in f 8) (hq : q < 256) (kq : Q (.inl (some (.int (vX7_leastRound (h 4) (h 5) (h 48) n f q)))) (jj_S, 782, (jj_rs h [(48, (rX7_leastRound_48 (h 4) (h 5) (h 48) n f q))]), g)) : jj_R mX7_leastRound (d + 4) kc ks (jj_S, 782, h, g) 0 [(0, .ref 1), (1, .int f), (2, .int q_), (3, .ref 48)] [] Q := by
  subst hq_
  refine rr_iload_n 2 rfl rfl dX7_leastRound_0 ?_
  refine rr_iconst 1 rfl dX7_leastRound_1 ?_
  refine rr_iload_n 1 rfl rfl dX7_leastRound_2 ?_
  refine rr_ishl dX7_leastRound_3 ?_
  refine rr_iconst (-1) rfl dX7_leastRound_4 ?_
  refine rr_ixor dX7_leastRound_5 ?_
  refine rr_iand dX7_leastRound_6 ?_
  refine rr_istore [(0, .ref 1), (1, .int f), (2, .int (nI q)), (3, .ref 48), (4, .int ((nI q) &&& ((1 <<< (f &&& 31)) ^^^ (-1))))] dX7_leastRound_7 (by decide) rfl ?_
  refine rr_iconst 1 rfl dX7_leastRound_9 ?_
  refine rr_istore [(0, .ref 1), (1, .int f), (2, .int (nI q)), (3, .ref 48), (4, .int ((nI q) &&& ((1 <<< (f &&& 31)) ^^^ (-1)))), (5, .int 1)] dX7_leastRound_10 (by decide) rfl ?_
  refine jj_Rh (jj_addr (B := h) (o := 48) (r := (h 48)) rfl) ?_
  refine jj_forx (fun k1 (a1 : (Nat → Int32)) => jj_R _ _ kc ks (jj_S, 782, (jj_rs h [(48, a1)]), g) 12 [(0, .ref 1), (1, .int f), (2, .int (nI q)), (3, .ref 48), (4, .int ((nI q) &&& ((1 <<< (f &&& 31)) ^^^ (-1)))), (5, .int (nI (1 + k1)))] [] Q) (fX7_leastRound_1 (h 4) (h 5) n f q) 255 (h 48) (fun (r1_ : (Nat → Int32)) => jj_R mX7_leastRound (d + 4) kc ks (jj_S, 782, (jj_rs h [(48, r1_)]), g) 95 [(0, .ref 1), (1, .int f), (2, .int (nI q)), (3, .ref 48), (4, .int ((nI q) &&& ((1 <<< (f &&& 31)) ^^^ (-1))))] [] Q) ?_ ?_ ?_
  · intro k1 hk1 a1 ih1 ix1
    try dsimp only at ih1 ix1 ⊢
    refine rr_iload 5 rfl dX7_leastRound_12 ?_
    refine rr_iload 4 rfl dX7_leastRound_14 ?_
    refine rr_icmp_gt dX7_leastRound_16 (fun c1 => ?_) (fun c1 => ?_)
    · skip
      try simp only [(nI_clamp (show 1 + k1 < 2 ^ 31 by omega))] at c1
      refine rr_drop (ls := [(0, .ref 1), (1, .int f), (2, .int (nI q)), (3, .ref 48), (4, .int ((nI q) &&& ((1 <<< (f &&& 31)) ^^^ (-1))))]) [0, 1, 2, 3, 4] rfl ?_
      simpa only [nI_1, (nI_clamp (show 1 + k1 < 2 ^ 31 by omega)), fX7_leastRound_1, if_pos c1, ← Nat.add_assoc] using ix1 a1 (by simp only [(nI_clamp (show 1 + k1 < 2 ^ 31 by omega)), fX7_leastRound_1, if_pos c1])
    · skip
      refine rr_iload 5 rfl dX7_leastRound_19 ?_
      refine rr_iconst 1 rfl dX7_leastRound_21 ?_
      refine rr_iadd dX7_leastRound_22 ?_
      rw [show ((nI (1 + k1)) + 1 : Int32) = (nI ((1 + k1) + 1)) from nI_add ((1 + k1)) (1)]
      refine rr_bipush 8 rfl dX7_leastRound_23 ?_
      refine rr_imul dX7_leastRound_25 ?_
      rw [show ((nI ((1 + k1) + 1)) * 8 : Int32) = (nI (((1 + k1) + 1) * 8)) from jj_nm (((1 + k1) + 1)) (8)]
      refine rr_aload_n 3 rfl rfl dX7_leastRound_26 ?_
      refine rr_alenI 2048 dX7_leastRound_27 lo_48 sh_48 (by decide) rfl ?_
      refine rr_icmp_gt dX7_leastRound_28 (fun c => absurd c (jj_ngt (a := (((1 + k1) + 1) * 8)) (b := 2048) (by omega) (by omega))) (fun _ => ?_)
      refine rr_iconst 0 rfl dX7_leastRound_31 ?_
      refine rr_istore [(0, .ref 1), (1, .int f), (2, .int (nI q)), (3, .ref 48), (4, .int ((nI q) &&& ((1 <<< (f &&& 31)) ^^^ (-1)))), (5, .int (nI (1 + k1))), (6, .int 0)] dX7_leastRound_32 (by decide) rfl ?_
      refine jj_forx (fun k2 (a2 : (Nat → Int32)) => jj_R _ _ kc ks (jj_S, 782, (jj_rs h [(48, a2)]), g) 34 [(0, .ref 1), (1, .int f), (2, .int (nI q)), (3, .ref 48), (4, .int ((nI q) &&& ((1 <<< (f &&& 31)) ^^^ (-1)))), (5, .int (nI (1 + k1))), (6, .int (nI k2))] [] Q) (fX7_leastRound_2 (h 4) (h 5) n f q k1) n a1 (fun (r2_ : (Nat → Int32)) => jj_R mX7_leastRound (d + 4) kc ks (jj_S, 782, (jj_rs h [(48, r2_)]), g) 89 [(0, .ref 1), (1, .int f), (2, .int (nI q)), (3, .ref 48), (4, .int ((nI q) &&& ((1 <<< (f &&& 31)) ^^^ (-1)))), (5, .int (nI (1 + k1)))] [] Q) ?_ ?_ ?_
      · intro k2 hk2 a2 ih2 ix2
        try dsimp only at ih2 ix2 ⊢
        refine rr_iload 6 rfl dX7_leastRound_34 ?_
        refine rr_aload_n 0 rfl rfl dX7_leastRound_36 ?_
        refine rr_getI dX7_leastRound_37 fX7_31 lo_1 sh_1 rfl ?_
        rw [show (jj_rs h [(48, a2)]) 1 = h 1 from rfl]
        rw [hP]
        refine rr_icmp_ge dX7_leastRound_40 (fun c => absurd c (nI_ge (a := k2) (b := n) (by omega) (by omega))) (fun _ => ?_)
        refine rr_iload 5 rfl dX7_leastRound_43 ?_
        refine rr_iload 4 rfl dX7_leastRound_45 ?_
        refine rr_iconst (-1) rfl dX7_leastRound_47 ?_
        refine rr_ixor dX7_leastRound_48 ?_
        refine rr_iand dX7_leastRound_49 ?_
        refine rr_if_ne dX7_leastRound_50 (fun c2 => ?_) (fun c2 => ?_)
        · skip
          try simp only [(nI_clamp (show k2 < 2 ^ 31 by omega))] at c2
          refine rr_drop (ls := [(0, .ref 1), (1, .int f), (2, .int (nI q)), (3, .ref 48), (4, .int ((nI q) &&& ((1 <<< (f &&& 31)) ^^^ (-1)))), (5, .int (nI (1 + k1)))]) [0, 1, 2, 3, 4, 5] rfl ?_
          simpa only [nI_1, (nI_clamp (show k2 < 2 ^ 31 by omega)), fX7_leastRound_2, if_neg c2] using ix2 a2 (by simp only [(nI_clamp (show k2 < 2 ^ 31 by omega)), fX7_leastRound_2, if_neg c2])
        · skip
          refine rr_iload 5 rfl dX7_leastRound_53 ?_
          refine rr_iconst 1 rfl dX7_leastRound_55 ?_
          refine rr_iload 6 rfl dX7_leastRound_56 ?_
          refine rr_ishl dX7_leastRound_58 ?_
          refine rr_iand dX7_leastRound_59 ?_
          refine rr_if_eq dX7_leastRound_60 (fun c3 => ?_) (fun c3 => ?_)
          · skip
            refine rr_iinc 6 1 [(0, .ref 1), (1, .int f), (2, .int (nI q)), (3, .ref 48), (4, .int ((nI q) &&& ((1 <<< (f &&& 31)) ^^^ (-1)))), (5, .int (nI (1 + k1))), (6, .int ((nI k2) + 1))] dX7_leastRound_83 rfl rfl (by decide) rfl ?_
            refine rr_goto dX7_leastRound_86 ?_
            try simp only [(nI_clamp (show k2 < 2 ^ 31 by omega))] at c2
            try simp only [(nI_clamp (show k2 < 2 ^ 31 by omega))] at c3
            simpa only [nI_1, (nI_clamp (show k2 < 2 ^ 31 by omega)), fX7_leastRound_2, if_pos c2, if_pos c3] using ih2 a2 (by simp only [(nI_clamp (show k2 < 2 ^ 31 by omega)), fX7_leastRound_2, if_pos c2, if_pos c3])
          · skip
            refine rr_aload_n 3 rfl rfl dX7_leastRound_63 ?_
            refine rr_iload 5 rfl dX7_leastRound_64 ?_
            refine rr_bipush 8 rfl dX7_leastRound_66 ?_
            refine rr_imul dX7_leastRound_68 ?_
            rw [show ((nI (1 + k1)) * 8 : Int32) = (nI ((1 + k1) * 8)) from jj_nm ((1 + k1)) (8)]
            refine rr_iload 6 rfl dX7_leastRound_69 ?_
            refine rr_iadd dX7_leastRound_71 ?_
            rw [show ((nI ((1 + k1) * 8)) + (nI k2) : Int32) = (nI (((1 + k1) * 8) + k2)) from nI_add (((1 + k1) * 8)) (k2)]
            refine rr_aload_n 0 rfl rfl dX7_leastRound_72 ?_
            refine rr_iload_n 1 rfl rfl dX7_leastRound_73 ?_
            refine rr_iload 5 rfl dX7_leastRound_74 ?_
            refine rr_iload 6 rfl dX7_leastRound_76 ?_
            refine rr_aload_n 3 rfl rfl dX7_leastRound_78 ?_
            refine rr_callV (As := [.int f, .int (nI (1 + k1)), .int (nI k2), .ref 48]) (rest := [.int (nI (((1 + k1) * 8) + k2)), .ref 48]) (kc2 := 0) (ks2 := 0) dX7_leastRound_79 okX7_leastWayTo lX7_99 lo_1 sh_1 rfl rfl (Nat.le_of_ble_eq_true rfl) (Nat.le_of_ble_eq_true rfl) rfl (by omega) (by simp [jj_rk]) (by simp [jj_rk]) ?_
            refine sp_X7_leastWayTo (q := (1 + k1)) rfl (by first | assumption | (rw [show (jj_rs h [(48, a2)]) 7 = h 7 from rfl]; assumption) | (rw [show (jj_rs h [(48, a2)]) 1 = h 1 from rfl]; assumption) | exact jj_pers hP hn (by assumption) | exact vp_in_nI (by omega) (by decide) | exact jj_andlt (by omega) | exact (jj_bt hn (by assumption)).2 | decide | omega) (by first | assumption | (rw [show (jj_rs h [(48, a2)]) 7 = h 7 from rfl]; assumption) | (rw [show (jj_rs h [(48, a2)]) 1 = h 1 from rfl]; assumption) | exact jj_pers hP hn (by assumption) | exact vp_in_nI (by omega) (by decide) | exact jj_andlt (by omega) | exact (jj_bt hn (by assumption)).2 | decide | omega) (by first | assumption | (rw [show (jj_rs h [(48, a2)]) 7 = h 7 from rfl]; assumption) | (rw [show (jj_rs h [(48, a2)]) 1 = h 1 from rfl]; assumption) | exact jj_pers hP hn (by assumption) | exact vp_in_nI (by omega) (by decide) | exact jj_andlt (by omega) | exact (jj_bt hn (by assumption)).2 | decide | omega) (by first | assumption | (rw [show (jj_rs h [(48, a2)]) 7 = h 7 from rfl]; assumption) | (rw [show (jj_rs h [(48, a2)]) 1 = h 1 from rfl]; assumption) | exact jj_pers hP hn (by assumption) | exact vp_in_nI (by omega) (by decide) | exact jj_andlt (by omega) | exact (jj_bt hn (by assumption)).2 | decide | omega) (by first | assumption | (rw [show (jj_rs h [(48, a2)]) 7 = h 7 from rfl]; assumption) | (rw [show (jj_rs h [(48, a2)]) 1 = h 1 from rfl]; assumption) | exact jj_pers hP hn (by assumption) | exact vp_in_nI (by omega) (by decide) | exact jj_andlt (by omega) | exact (jj_bt hn (by assumption)).2 | decide | omega) ?_
            show jj_R _ _ kc ks (jj_S, 782, (jj_rs h [(48, a2)]), g) 82 [(0, .ref 1), (1, .int f), (2, .int (nI q)), (3, .ref 48), (4, .int ((nI q) &&& ((1 <<< (f &&& 31)) ^^^ (-1)))), (5, .int (nI (1 + k1))), (6, .int (nI k2))] [.int (vX7_leastWayTo (h 4) (h 5) a2 n f (1 + k1) (nI k2)), .int (nI (((1 + k1) * 8) + k2)), .ref 48] Q
            refine rr_iastore dX7_leastRound_82 lo_48 sh_48 (by first | assumption | exact jj_pers hP hn (by assumption) | exact vp_in_nI (by omega) (by decide) | exact jj_andlt (by omega) | exact (jj_bt hn (by assumption)).2 | decide | omega) ?_
            rw [jj_rs_set (B := h) (L := [(48, a2)]) (L2 := [(48, (upd a2 (((nI (((1 + k1) * 8) + k2)) : Int32).toNatClampNeg) (vX7_leastWayTo (h 4) (h 5) a2 n f (1 + k1) (nI k2))))]) (r := a2) rfl rfl]
            refine rr_iinc 6 1 [(0, .ref 1), (1, .int f), (2, .int (nI q)), (3, .ref 48), (4, .int ((nI q) &&& ((1 <<< (f &&& 31)) ^^^ (-1)))), (5, .int (nI (1 + k1))), (6, .int ((nI k2) + 1))] dX7_leastRound_83 rfl rfl (by decide) rfl ?_
            refine rr_goto dX7_leastRound_86 ?_
            try simp only [(nI_clamp (show k2 < 2 ^ 31 by omega))] at c2
            try simp only [(nI_clamp (show k2 < 2 ^ 31 by omega))] at c3
            simpa only [nI_1, (nI_clamp (show k2 < 2 ^ 31 by omega)), fX7_leastRound_2, if_pos c2, if_neg c3] using ih2 (upd a2 (((nI (((1 + k1) * 8) + k2)) : Int32).toNatClampNeg) (vX7_leastWayTo (h 4) (h 5) a2 n f (1 + k1) (nI k2))) (by simp only [(nI_clamp (show k2 < 2 ^ 31 by omega)), fX7_leastRound_2, if_pos c2, if_neg c3])
      · intro a2 hx2
        try dsimp only
        refine rr_iload 6 rfl dX7_leastRound_34 ?_
        refine rr_aload_n 0 rfl rfl dX7_leastRound_36 ?_
        refine rr_getI dX7_leastRound_37 fX7_31 lo_1 sh_1 rfl ?_
        rw [show (jj_rs h [(48, a2)]) 1 = h 1 from rfl]
        rw [hP]
        refine rr_icmp_ge dX7_leastRound_40 (fun _ => ?_) (fun c => absurd (jj_le_rf _) c)
        refine rr_iinc 5 1 [(0, .ref 1), (1, .int f), (2, .int (nI q)), (3, .ref 48), (4, .int ((nI q) &&& ((1 <<< (f &&& 31)) ^^^ (-1)))), (5, .int ((nI (1 + k1)) + 1)), (6, .int (nI n))] dX7_leastRound_89 rfl rfl (by decide) rfl ?_
        refine rr_goto dX7_leastRound_92 ?_
        try simp only [(nI_clamp (show 1 + k1 < 2 ^ 31 by omega))] at c1
        try simp only [(nI_clamp (show 1 + k1 < 2 ^ 31 by omega))] at hx2
        refine rr_drop (ls := [(0, .ref 1), (1, .int f), (2, .int (nI q)), (3, .ref 48), (4, .int ((nI q) &&& ((1 <<< (f &&& 31)) ^^^ (-1)))), (5, .int ((nI (1 + k1)) + 1))]) [0, 1, 2, 3, 4, 5] rfl ?_
        simpa only [nI_1, (nI_clamp (show 1 + k1 < 2 ^ 31 by omega)), fX7_leastRound_1, if_neg c1, hx2, Sum.elim_inl, Sum.elim_inr, ← Nat.add_assoc] using ih1 a2 (by simp only [(nI_clamp (show 1 + k1 < 2 ^ 31 by omega)), fX7_leastRound_1, if_neg c1, hx2, Sum.elim_inl, Sum.elim_inr])
      · intro r2_ hx2
        try dsimp only
        refine rr_iinc 5 1 [(0, .ref 1), (1, .int f), (2, .int (nI q)), (3, .ref 48), (4, .int ((nI q) &&& ((1 <<< (f &&& 31)) ^^^ (-1)))), (5, .int ((nI (1 + k1)) + 1))] dX7_leastRound_89 rfl rfl (by decide) rfl ?_
        refine rr_goto dX7_leastRound_92 ?_
        try simp only [(nI_clamp (show 1 + k1 < 2 ^ 31 by omega))] at c1
        try simp only [(nI_clamp (show 1 + k1 < 2 ^ 31 by omega))] at hx2
        simpa only [nI_1, (nI_clamp (show 1 + k1 < 2 ^ 31 by omega)), fX7_leastRound_1, if_neg c1, hx2, Sum.elim_inl, Sum.elim_inr, ← Nat.add_assoc] using ih1 r2_ (by simp only [(nI_clamp (show 1 + k1 < 2 ^ 31 by omega)), fX7_leastRound_1, if_neg c1, hx2, Sum.elim_inl, Sum.elim_inr])
  · intro a1 hx1
    try dsimp only
    refine rr_iload 5 rfl dX7_leastRound_12 ?_
    refine rr_iload 4 rfl dX7_leastRound_14 ?_
    refine rr_icmp_gt dX7_leastRound_16 (fun c4 => ?_) (fun c4 => ?_)
    · skip
      refine rr_iload 4 rfl dX7_leastRound_95 ?_
      refine rr_if_ne dX7_leastRound_97 (fun c5 => ?_) (fun c5 => ?_)
      · skip
        refine rr_aload_n 0 rfl rfl dX7_leastRound_104 ?_
        refine rr_iload 4 rfl dX7_leastRound_105 ?_
        refine rr_iconst (-1) rfl dX7_leastRound_107 ?_
        refine rr_aload_n 3 rfl rfl dX7_leastRound_108 ?_
        refine rr_callV (As := [.int ((nI q) &&& ((1 <<< (f &&& 31)) ^^^ (-1))), .int (-1), .ref 48]) (rest := []) (kc2 := 0) (ks2 := 0) dX7_leastRound_109 okX7_leastOf lX7_103 lo_1 sh_1 rfl rfl (Nat.le_of_ble_eq_true rfl) (Nat.le_of_ble_eq_true rfl) rfl (by omega) (by simp [jj_rk]) (by simp [jj_rk]) ?_
        refine sp_X7_leastOf (q := (((nI q) &&& ((1 <<< (f &&& 31)) ^^^ (-1))) : Int32).toNatClampNeg) (jj_nIc (by first | assumption | exact (jj_wk (by assumption)).1 | exact jj_and0 (by omega) | exact (jj_bt hn (by assumption)).1)) hP hn (by first | omega | exact jj_andlt (by omega)) (by first | exact fun c => absurd rfl c | exact fun _ => by assumption) ?_
        show jj_R _ _ kc ks (jj_S, 782, (jj_rs h [(48, a1)]), g) 112 [(0, .ref 1), (1, .int f), (2, .int (nI q)), (3, .ref 48), (4, .int ((nI q) &&& ((1 <<< (f &&& 31)) ^^^ (-1)))), (5, .int (nI 256))] [.int (vX7_leastOf (h 4) (h 5) a1 n ((((nI q) &&& ((1 <<< (f &&& 31)) ^^^ (-1))) : Int32).toNatClampNeg) (-1))] Q
        refine rr_ireturn dX7_leastRound_112 rfl ?_
        simpa only [vX7_leastRound, rX7_leastRound_48, hx1, if_pos c4, if_neg c5, Sum.elim_inl, Sum.elim_inr] using kq
      · skip
        refine rr_iconst 0 rfl dX7_leastRound_100 ?_
        refine rr_goto dX7_leastRound_101 ?_
        refine rr_ireturn dX7_leastRound_112 rfl ?_
        simpa only [vX7_leastRound, rX7_leastRound_48, hx1, if_pos c4, if_pos c5, Sum.elim_inl, Sum.elim_inr] using kq
    · skip
      refine rr_iload 5 rfl dX7_leastRound_19 ?_
      refine rr_iconst 1 rfl dX7_leastRound_21 ?_
      refine rr_iadd dX7_leastRound_22 ?_
      rw [show ((nI 256) + 1 : Int32) = (nI (256 + 1)) from nI_add (256) (1)]
      refine rr_bipush 8 rfl dX7_leastRound_23 ?_
      refine rr_imul dX7_leastRound_25 ?_
      rw [show ((nI (256 + 1)) * 8 : Int32) = (nI ((256 + 1) * 8)) from jj_nm ((256 + 1)) (8)]
      refine rr_aload_n 3 rfl rfl dX7_leastRound_26 ?_
      refine rr_alenI 2048 dX7_leastRound_27 lo_48 sh_48 (by decide) rfl ?_
      refine rr_icmp_gt dX7_leastRound_28 (fun _ => ?_) (fun c => absurd (by decide) c)
      refine rr_iload 4 rfl dX7_leastRound_95 ?_
      refine rr_if_ne dX7_leastRound_97 (fun c6 => ?_) (fun c6 => ?_)
      · skip
        refine rr_aload_n 0 rfl rfl dX7_leastRound_104 ?_
        refine rr_iload 4 rfl dX7_leastRound_105 ?_
        refine rr_iconst (-1) rfl dX7_leastRound_107 ?_
        refine rr_aload_n 3 rfl rfl dX7_leastRound_108 ?_
        refine rr_callV (As := [.int ((nI q) &&& ((1 <<< (f &&& 31)) ^^^ (-1))), .int (-1), .ref 48]) (rest := []) (kc2 := 0) (ks2 := 0) dX7_leastRound_109 okX7_leastOf lX7_103 lo_1 sh_1 rfl rfl (Nat.le_of_ble_eq_true rfl) (Nat.le_of_ble_eq_true rfl) rfl (by omega) (by simp [jj_rk]) (by simp [jj_rk]) ?_
        refine sp_X7_leastOf (q := (((nI q) &&& ((1 <<< (f &&& 31)) ^^^ (-1))) : Int32).toNatClampNeg) (jj_nIc (by first | assumption | exact (jj_wk (by assumption)).1 | exact jj_and0 (by omega) | exact (jj_bt hn (by assumption)).1)) hP hn (by first | omega | exact jj_andlt (by omega)) (by first | exact fun c => absurd rfl c | exact fun _ => by assumption) ?_
        show jj_R _ _ kc ks (jj_S, 782, (jj_rs h [(48, a1)]), g) 112 [(0, .ref 1), (1, .int f), (2, .int (nI q)), (3, .ref 48), (4, .int ((nI q) &&& ((1 <<< (f &&& 31)) ^^^ (-1)))), (5, .int (nI 256))] [.int (vX7_leastOf (h 4) (h 5) a1 n ((((nI q) &&& ((1 <<< (f &&& 31)) ^^^ (-1))) : Int32).toNatClampNeg) (-1))] Q
        refine rr_ireturn dX7_leastRound_112 rfl ?_
        simpa only [vX7_leastRound, rX7_leastRound_48, hx1, if_neg c4, if_neg c6, Sum.elim_inl, Sum.elim_inr] using kq
      · skip
        refine rr_iconst 0 rfl dX7_leastRound_100 ?_
        refine rr_goto dX7_leastRound_101 ?_
        refine rr_ireturn dX7_leastRound_112 rfl ?_
        simpa only [vX7_leastRound, rX7_leastRound_48, hx1, if_neg c4, if_pos c6, Sum.elim_inl, Sum.elim_inr] using kq
  · intro r1_ hx1
    try dsimp only
    refine rr_iload 4 rfl dX7_leastRound_95 ?_
    refine rr_if_ne dX7_leastRound_97 (fun c7 => ?_) (fun c7 => ?_)
    · skip
      refine rr_aload_n 0 rfl rfl dX7_leastRound_104 ?_
      refine rr_iload 4 rfl dX7_leastRound_105 ?_
      refine rr_iconst (-1) rfl dX7_leastRound_107 ?_
      refine rr_aload_n 3 rfl rfl dX7_leastRound_108 ?_
      refine rr_callV (As := [.int ((nI q) &&& ((1 <<< (f &&& 31)) ^^^ (-1))), .int (-1), .ref 48]) (rest := []) (kc2 := 0) (ks2 := 0) dX7_leastRound_109 okX7_leastOf lX7_103 lo_1 sh_1 rfl rfl (Nat.le_of_ble_eq_true rfl) (Nat.le_of_ble_eq_true rfl) rfl (by omega) (by simp [jj_rk]) (by simp [jj_rk]) ?_
      refine sp_X7_leastOf (q := (((nI q) &&& ((1 <<< (f &&& 31)) ^^^ (-1))) : Int32).toNatClampNeg) (jj_nIc (by first | assumption | exact (jj_wk (by assumption)).1 | exact jj_and0 (by omega) | exact (jj_bt hn (by assumption)).1)) hP hn (by first | omega | exact jj_andlt (by omega)) (by first | exact fun c => absurd rfl c | exact fun _ => by assumption) ?_
      show jj_R _ _ kc ks (jj_S, 782, (jj_rs h [(48, r1_)]), g) 112 [(0, .ref 1), (1, .int f), (2, .int (nI q)), (3, .ref 48), (4, .int ((nI q) &&& ((1 <<< (f &&& 31)) ^^^ (-1))))] [.int (vX7_leastOf (h 4) (h 5) r1_ n ((((nI q) &&& ((1 <<< (f &&& 31)) ^^^ (-1))) : Int32).toNatClampNeg) (-1))] Q
      refine rr_ireturn dX7_leastRound_112 rfl ?_
      simpa only [vX7_leastRound, rX7_leastRound_48, hx1, if_neg c7, Sum.elim_inl, Sum.elim_inr] using kq
    · skip
      refine rr_iconst 0 rfl dX7_leastRound_100 ?_
      refine rr_goto dX7_leastRound_101 ?_
      refine rr_ireturn dX7_leastRound_112 rfl ?_
      simpa only [vX7_leastRound, rX7_leastRound_48, hx1, if_pos c7, Sum.elim_inl, Sum.elim_inr] using kq
def vX9_round (r0 : Nat → Int32) (r1 : Nat → Int32) (r4 : Nat → Int32) (r5 : Nat → Int32) (r48 : Nat → Int32) (n : Nat) (p : Int32) (v : Int32) : jj_Rs := (if (vX9_isPerson r1 p) = 0 then (.inr "java/util/NoSuchElementException") else (if (jj_bits n v) = 0 then (.inr "java/lang/IllegalArgumentException") else (.inl (some (.int (vX7_leastRound r4 r5 r48 n p ((v : Int32).toNatClampNeg)))))))
def rX9_round_0 (r0 : Nat → Int32) (r1 : Nat → Int32) (r4 : Nat → Int32) (r5 : Nat → Int32) (r48 : Nat → Int32) (n : Nat) (p : Int32) (v : Int32) : Nat → Int32 := (if (vX9_isPerson r1 p) = 0 then (upd r0 13 (r0 13 + 1)) else (if (jj_bits n v) = 0 then (upd r0 14 (r0 14 + 1)) else r0))
def rX9_round_48 (r0 : Nat → Int32) (r1 : Nat → Int32) (r4 : Nat → Int32) (r5 : Nat → Int32) (r48 : Nat → Int32) (n : Nat) (p : Int32) (v : Int32) : Nat → Int32 := (if (vX9_isPerson r1 p) = 0 then r48 else (if (jj_bits n v) = 0 then r48 else (rX7_leastRound_48 r4 r5 r48 n p ((v : Int32).toNatClampNeg))))
set_option maxHeartbeats 1000000 in
theorem sp_X9_round {d kc ks : Nat} {h : Nat → Nat → Int32} {g : Nat → Nat → Int64} {Q : jj_Rs → jj_St → Prop} {n : Nat} {p : Int32} {v : Int32} (hP : h 1 0 = nI n) (hn : n ≤ 8) (kq : Q (vX9_round (h 0) (h 1) (h 4) (h 5) (h 48) n p v) (jj_S, 782, (jj_rs h [(0, (rX9_round_0 (h 0) (h 1) (h 4) (h 5) (h 48) n p v)), (48, (rX9_round_48 (h 0) (h 1) (h 4) (h 5) (h 48) n p v))]), g)) : jj_R mX9_round (d + 8) (kc + 2) (ks + 12) (jj_S, 782, h, g) 0 [(0, .ref 0), (1, .int p), (2, .int v)] [] Q := by
  refine rr_aload_n 0 rfl rfl dX9_round_0 ?_
  refine rr_iload_n 1 rfl rfl dX9_round_1 ?_
  refine rr_callV (As := [.int p]) (rest := []) (kc2 := 1) (ks2 := 6) dX9_round_2 okX9_requirePerson lX9_198 lo_0 sh_0 rfl rfl (Nat.le_of_ble_eq_true rfl) (Nat.le_of_ble_eq_true rfl) rfl (by omega) (by simp [jj_rk]) (by simp [jj_rk]) ?_
  refine sp_X9_requirePerson  (fun c1 => ?_) (fun c1 => ?_)
  · skip
    show jj_R _ _ (kc + 1) (ks + 6) (jj_S, 782, h, g) 5 [(0, .ref 0), (1, .int p), (2, .int v)] [] Q
    refine rr_aload_n 0 rfl rfl dX9_round_5 ?_
    refine rr_iload_n 2 rfl rfl dX9_round_6 ?_
    refine rr_callV (As := [.int v]) (rest := []) (kc2 := 1) (ks2 := 6) dX9_round_7 okX9_requireBits lX9_269 lo_0 sh_0 rfl rfl (Nat.le_of_ble_eq_true rfl) (Nat.le_of_ble_eq_true rfl) rfl (by omega) (by simp [jj_rk]) (by simp [jj_rk]) ?_
    refine sp_X9_requireBitsT (by first | assumption | exact jj_pers hP hn (by assumption) | exact vp_in_nI (by omega) (by decide) | exact jj_andlt (by omega) | exact (jj_bt hn (by assumption)).2 | decide | omega) (by first | assumption | exact jj_pers hP hn (by assumption) | exact vp_in_nI (by omega) (by decide) | exact jj_andlt (by omega) | exact (jj_bt hn (by assumption)).2 | decide | omega) (fun c2 => ?_) (fun c2 => ?_)
    · skip
      show jj_R _ _ kc ks (jj_S, 782, h, g) 10 [(0, .ref 0), (1, .int p), (2, .int v)] [] Q
      refine rr_aload_n 0 rfl rfl dX9_round_10 ?_
      refine rr_getR dX9_round_11 fX9_27 lo_0 sh_0 rfl ?_
      refine rr_iload_n 1 rfl rfl dX9_round_14 ?_
      refine rr_iload_n 2 rfl rfl dX9_round_15 ?_
      refine rr_aload_n 0 rfl rfl dX9_round_16 ?_
      refine rr_getR dX9_round_17 fX9_87 lo_0 sh_0 rfl ?_
      refine rr_callV (As := [.int p, .int v, .ref 48]) (rest := []) (kc2 := 0) (ks2 := 0) dX9_round_20 okX7_leastRound lX9_272 lo_1 sh_1 rfl rfl (Nat.le_of_ble_eq_true rfl) (Nat.le_of_ble_eq_true rfl) rfl (by omega) (by simp [jj_rk]) (by simp [jj_rk]) ?_
      refine sp_X7_leastRound (q := (v : Int32).toNatClampNeg) (jj_nIc (by first | assumption | exact (jj_wk (by assumption)).1 | exact jj_and0 (by omega) | exact (jj_bt hn (by assumption)).1)) (by first | assumption | exact jj_pers hP hn (by assumption) | exact vp_in_nI (by omega) (by decide) | exact jj_andlt (by omega) | exact (jj_bt hn (by assumption)).2 | decide | omega) (by first | assumption | exact jj_pers hP hn (by assumption) | exact vp_in_nI (by omega) (by decide) | exact jj_andlt (by omega) | exact (jj_bt hn (by assumption)).2 | decide | omega) (by first | assumption | exact jj_pers hP hn (by assumption) | exact vp_in_nI (by omega) (by decide) | exact jj_andlt (by omega) | exact (jj_bt hn (by assumption)).2 | decide | omega) (jj_bt hn (by assumption)).2 ?_
      show jj_R _ _ kc ks (jj_S, 782, (jj_rs h [(48, (rX7_leastRound_48 (h 4) (h 5) (h 48) n p ((v : Int32).toNatClampNeg)))]), g) 23 [(0, .ref 0), (1, .int p), (2, .int v)] [.int (vX7_leastRound (h 4) (h 5) (h 48) n p ((v : Int32).toNatClampNeg))] Q
      refine rr_ireturn dX9_round_23 rfl ?_
      refine jj_Qh (jj_rs_add (B := h) (L := [(48, (rX7_leastRound_48 (h 4) (h 5) (h 48) n p ((v : Int32).toNatClampNeg)))]) (L2 := [(0, (h 0)), (48, (rX7_leastRound_48 (h 4) (h 5) (h 48) n p ((v : Int32).toNatClampNeg)))]) (o := 0) (r := (h 0)) rfl rfl) ?_
      simpa only [vX9_round, rX9_round_0, rX9_round_48, if_neg c1, if_neg c2] using kq
    · skip
      show Q (.inr "java/lang/IllegalArgumentException") (jj_S, 782, (jj_rs h [(0, (upd (h 0) 14 ((h 0) 14 + 1)))]), g)
      refine jj_Qh (jj_rs_add (B := h) (L := [(0, (upd (h 0) 14 ((h 0) 14 + 1)))]) (L2 := [(0, (upd (h 0) 14 ((h 0) 14 + 1))), (48, (h 48))]) (o := 48) (r := (h 48)) rfl rfl) ?_
      simpa only [vX9_round, rX9_round_0, rX9_round_48, if_neg c1, if_pos c2] using kq
  · skip
    show Q (.inr "java/util/NoSuchElementException") (jj_S, 782, (jj_rs h [(0, (upd (h 0) 13 ((h 0) 13 + 1)))]), g)
    refine jj_Qh (jj_rs_add (B := h) (L := [(0, (upd (h 0) 13 ((h 0) 13 + 1)))]) (L2 := [(0, (upd (h 0) 13 ((h 0) 13 + 1))), (48, (h 48))]) (o := 48) (r := (h 48)) rfl rfl) ?_
    simpa only [vX9_round, rX9_round_0, rX9_round_48, if_pos c1] using kq
