def fX10_worstAt_1  (k1 : Nat) (a1 : (Nat → Int32)) : (Nat → Int32) := (upd a1 (k1) 0)
def fX10_worstAt_3 (r8 : Nat → Int32) (r73 : Nat → Int32) (r497 : Nat → Int32) (g64 : Nat → Nat → Int32) (g397 : Nat → Nat → Int32) (m : Nat) (nl : Nat) (p : Int32) (k2 : Nat) (k3 : Nat) (a3 : Int32 × (Nat → Int32) × (Nat → Int32)) : Int32 × (Nat → Int32) × (Nat → Int32) := (if (vX10_isSo r8 r73 r497 a3.2.1 g64 g397 m nl (nI k2) (nI k3)) = 0 then (a3.1, (rX10_isSo_498 r8 r73 r497 a3.2.1 g64 g397 m nl (nI k2) (nI k3)), a3.2.2) else ((vX10_more a3.1 ((upd a3.2.2 ((((rX10_isSo_498 r8 r73 r497 a3.2.1 g64 g397 m nl (nI k2) (nI k3)) (((0 : Int32) + p) : Int32).toNatClampNeg) : Int32).toNatClampNeg) ((a3.2.2 (((rX10_isSo_498 r8 r73 r497 a3.2.1 g64 g397 m nl (nI k2) (nI k3)) (((0 : Int32) + p) : Int32).toNatClampNeg) : Int32).toNatClampNeg) + 1)) (((rX10_isSo_498 r8 r73 r497 a3.2.1 g64 g397 m nl (nI k2) (nI k3)) (((0 : Int32) + p) : Int32).toNatClampNeg) : Int32).toNatClampNeg)), (rX10_isSo_498 r8 r73 r497 a3.2.1 g64 g397 m nl (nI k2) (nI k3)), (upd a3.2.2 ((((rX10_isSo_498 r8 r73 r497 a3.2.1 g64 g397 m nl (nI k2) (nI k3)) (((0 : Int32) + p) : Int32).toNatClampNeg) : Int32).toNatClampNeg) ((a3.2.2 (((rX10_isSo_498 r8 r73 r497 a3.2.1 g64 g397 m nl (nI k2) (nI k3)) (((0 : Int32) + p) : Int32).toNatClampNeg) : Int32).toNatClampNeg) + 1))))
def fX10_worstAt_2 (r8 : Nat → Int32) (r73 : Nat → Int32) (r497 : Nat → Int32) (g64 : Nat → Nat → Int32) (g397 : Nat → Nat → Int32) (n : Nat) (m : Nat) (nl : Nat) (p : Int32) (k2 : Nat) (a2 : Int32 × (Nat → Int32) × (Nat → Int32)) : Int32 × (Nat → Int32) × (Nat → Int32) := ((jj_fo (fX10_worstAt_3 r8 r73 r497 g64 g397 m nl p k2) n (a2.1, a2.2.1, a2.2.2)).1, (jj_fo (fX10_worstAt_3 r8 r73 r497 g64 g397 m nl p k2) n (a2.1, a2.2.1, a2.2.2)).2.1, (jj_fo (fX10_worstAt_3 r8 r73 r497 g64 g397 m nl p k2) n (a2.1, a2.2.1, a2.2.2)).2.2)
def vX10_worstAt (r8 : Nat → Int32) (r73 : Nat → Int32) (r497 : Nat → Int32) (r498 : Nat → Int32) (r779 : Nat → Int32) (g64 : Nat → Nat → Int32) (g397 : Nat → Nat → Int32) (n : Nat) (m : Nat) (nl : Nat) (p : Int32) : Int32 := (jj_fo (fX10_worstAt_2 r8 r73 r497 g64 g397 n m nl p) n (0, r498, (jj_fo fX10_worstAt_1 1000 r779))).1
def rX10_worstAt_498 (r8 : Nat → Int32) (r73 : Nat → Int32) (r497 : Nat → Int32) (r498 : Nat → Int32) (r779 : Nat → Int32) (g64 : Nat → Nat → Int32) (g397 : Nat → Nat → Int32) (n : Nat) (m : Nat) (nl : Nat) (p : Int32) : Nat → Int32 := (jj_fo (fX10_worstAt_2 r8 r73 r497 g64 g397 n m nl p) n (0, r498, (jj_fo fX10_worstAt_1 1000 r779))).2.1
def rX10_worstAt_779 (r8 : Nat → Int32) (r73 : Nat → Int32) (r497 : Nat → Int32) (r498 : Nat → Int32) (r779 : Nat → Int32) (g64 : Nat → Nat → Int32) (g397 : Nat → Nat → Int32) (n : Nat) (m : Nat) (nl : Nat) (p : Int32) : Nat → Int32 := (jj_fo (fX10_worstAt_2 r8 r73 r497 g64 g397 n m nl p) n (0, r498, (jj_fo fX10_worstAt_1 1000 r779))).2.2
set_option maxHeartbeats 1000000 in
theorem sp_X10_worstAt {d kc ks : Nat} {h : Nat → Nat → Int32} {g : Nat → Nat → Int64} {Q : jj_Rs → jj_St → Prop} {n : Nat} {m : Nat} {nl : Nat} {p : Int32} (hT : h 53 0 = nI n) (hn : n ≤ 8) (hp : vp_in p 8) (hM : h 49 17 = nI m) (hm2 : m ≤ 150) (hw : lawok (h 8) (jj_gd h 75 160) m) (hl : h 49 31 = nI nl) (hl2 : nl ≤ 8) (hlw : ∀ k, k < nl → vp_in (jj_gd h 397 8 k 0) 8) (hd : dayok (h 497)) (kq : ∀ h9, jj_eq [414, 415] h h9 → Q (.inl (some (.int (vX10_worstAt (h 8) (h 73) (h 497) (h 498) (h 779) (jj_gd h 64 8) (jj_gd h 397 8) n m nl p)))) (jj_S, 782, (jj_rs h9 [(498, (rX10_worstAt_498 (h 8) (h 73) (h 497) (h 498) (h 779) (jj_gd h 64 8) (jj_gd h 397 8) n m nl p)), (779, (rX10_worstAt_779 (h 8) (h 73) (h 497) (h 498) (h 779) (jj_gd h 64 8) (jj_gd h 397 8) n m nl p))]), g)) : jj_R mX10_worstAt (d + 7) kc ks (jj_S, 782, h, g) 0 [(0, .ref 49), (1, .int p)] [] Q := by
  refine rr_iconst 0 rfl dX10_worstAt_0 ?_
  refine rr_istore_n [(0, .ref 49), (1, .int p), (2, .int 0)] dX10_worstAt_1 rfl (by decide) rfl ?_
  refine rr_iconst 0 rfl dX10_worstAt_2 ?_
  refine rr_istore_n [(0, .ref 49), (1, .int p), (2, .int 0), (3, .int 0)] dX10_worstAt_3 rfl (by decide) rfl ?_
  refine jj_Rh (jj_addr (B := h) (o := 779) (r := (h 779)) rfl) ?_
  refine jj_for (fun k1 (a1 : (Nat → Int32)) => ∀ hc1, jj_eq [414, 415] h hc1 → jj_R _ _ kc ks (jj_S, 782, (jj_rs hc1 [(779, a1)]), g) 4 [(0, .ref 49), (1, .int p), (2, .int 0), (3, .int (nI k1))] [] Q) fX10_worstAt_1 1000 (h 779) ?_ ?_ h jj_eq.rf
  · intro k1 hk1 ih1 hc1 ec1
    generalize jj_fo _ k1 _ = a1 at ih1 ⊢
    try dsimp only at ih1 ⊢
    refine rr_iload_n 3 rfl rfl dX10_worstAt_4 ?_
    refine rr_sipush 999 rfl dX10_worstAt_5 ?_
    refine rr_icmp_gt dX10_worstAt_8 (fun c => absurd c (jj_ngt (a := k1) (b := 999) (by omega) (by omega))) (fun _ => ?_)
    refine rr_aload_n 0 rfl rfl dX10_worstAt_11 ?_
    refine rr_getR dX10_worstAt_12 fX10_82 lo_49 sh_49 rfl ?_
    refine rr_iload_n 3 rfl rfl dX10_worstAt_15 ?_
    refine rr_iconst 0 rfl dX10_worstAt_16 ?_
    refine rr_iastore dX10_worstAt_17 lo_779 sh_779 (vp_in_nI (by omega) (by decide)) ?_
    rw [jj_rs_set (B := hc1) (L := [(779, a1)]) (L2 := [(779, (upd a1 (((nI k1) : Int32).toNatClampNeg) 0))]) (r := a1) rfl rfl]
    refine rr_iinc 3 1 [(0, .ref 49), (1, .int p), (2, .int 0), (3, .int ((nI k1) + 1))] dX10_worstAt_18 rfl rfl (by decide) rfl ?_
    refine rr_goto dX10_worstAt_21 ?_
    simpa only [nI_1, (nI_clamp (show k1 < 2 ^ 31 by omega)), fX10_worstAt_1] using ih1 hc1 ec1
  · try dsimp only
    intro hc1 ec1
    refine rr_iload_n 3 rfl rfl dX10_worstAt_4 ?_
    refine rr_sipush 999 rfl dX10_worstAt_5 ?_
    refine rr_icmp_gt dX10_worstAt_8 (fun _ => ?_) (fun c => absurd (by decide) c)
    refine rr_iconst 0 rfl dX10_worstAt_24 ?_
    refine rr_istore_n [(0, .ref 49), (1, .int p), (2, .int 0), (3, .int 0)] dX10_worstAt_25 rfl (by decide) rfl ?_
    refine jj_Rh (jj_rs_add (B := hc1) (L := [(779, (jj_fo fX10_worstAt_1 1000 (h 779)))]) (L2 := [(498, (h 498)), (779, (jj_fo fX10_worstAt_1 1000 (h 779)))]) (o := 498) (r := (h 498)) ((show jj_rs hc1 [(779, (jj_fo fX10_worstAt_1 1000 (h 779)))] 498 = hc1 498 from rfl).trans (ec1 498 (by decide))) rfl) ?_
    refine jj_for (fun k2 (a2 : Int32 × (Nat → Int32) × (Nat → Int32)) => ∀ hc2, jj_eq [414, 415] h hc2 → jj_R _ _ kc ks (jj_S, 782, (jj_rs hc2 [(498, a2.2.1), (779, a2.2.2)]), g) 26 [(0, .ref 49), (1, .int p), (2, .int a2.1), (3, .int (nI k2))] [] Q) (fX10_worstAt_2 (h 8) (h 73) (h 497) (jj_gd h 64 8) (jj_gd h 397 8) n m nl p) n (0, (h 498), (jj_fo fX10_worstAt_1 1000 (h 779))) ?_ ?_ hc1 ec1
    · intro k2 hk2 ih2 hc2 ec2
      generalize jj_fo _ k2 _ = a2 at ih2 ⊢
      try dsimp only at ih2 ⊢
      refine rr_iload_n 3 rfl rfl dX10_worstAt_26 ?_
      refine rr_aload_n 0 rfl rfl dX10_worstAt_27 ?_
      refine rr_getR dX10_worstAt_28 fX10_23 lo_49 sh_49 rfl ?_
      refine rr_iconst 0 rfl dX10_worstAt_31 ?_
      refine rr_iaload dX10_worstAt_32 lo_53 sh_53 (jj_inL rfl) ?_
      rw [show (jj_rs hc2 [(498, a2.2.1), (779, a2.2.2)]) 53 = hc2 53 from rfl]
      rw [ec2 53 (by decide)]
      rw [show (h 53) (0 : Int32).toNatClampNeg = (nI n) from hT]
      refine rr_icmp_ge dX10_worstAt_33 (fun c => absurd c (nI_ge (a := k2) (b := n) (by omega) (by omega))) (fun _ => ?_)
      refine rr_iconst 0 rfl dX10_worstAt_36 ?_
      refine rr_istore [(0, .ref 49), (1, .int p), (2, .int a2.1), (3, .int (nI k2)), (4, .int 0)] dX10_worstAt_37 (by decide) rfl ?_
      refine jj_for (fun k3 (a3 : Int32 × (Nat → Int32) × (Nat → Int32)) => ∀ hc3, jj_eq [414, 415] h hc3 → jj_R _ _ kc ks (jj_S, 782, (jj_rs hc3 [(498, a3.2.1), (779, a3.2.2)]), g) 39 [(0, .ref 49), (1, .int p), (2, .int a3.1), (3, .int (nI k2)), (4, .int (nI k3))] [] Q) (fX10_worstAt_3 (h 8) (h 73) (h 497) (jj_gd h 64 8) (jj_gd h 397 8) m nl p k2) n (a2.1, a2.2.1, a2.2.2) ?_ ?_ hc2 ec2
      · intro k3 hk3 ih3 hc3 ec3
        generalize jj_fo _ k3 _ = a3 at ih3 ⊢
        try dsimp only at ih3 ⊢
        refine rr_iload 4 rfl dX10_worstAt_39 ?_
        refine rr_aload_n 0 rfl rfl dX10_worstAt_41 ?_
        refine rr_getR dX10_worstAt_42 fX10_23 lo_49 sh_49 rfl ?_
        refine rr_iconst 0 rfl dX10_worstAt_45 ?_
        refine rr_iaload dX10_worstAt_46 lo_53 sh_53 (jj_inL rfl) ?_
        rw [show (jj_rs hc3 [(498, a3.2.1), (779, a3.2.2)]) 53 = hc3 53 from rfl]
        rw [ec3 53 (by decide)]
        rw [show (h 53) (0 : Int32).toNatClampNeg = (nI n) from hT]
        refine rr_icmp_ge dX10_worstAt_47 (fun c => absurd c (nI_ge (a := k3) (b := n) (by omega) (by omega))) (fun _ => ?_)
        refine rr_aload_n 0 rfl rfl dX10_worstAt_50 ?_
        refine rr_iload_n 3 rfl rfl dX10_worstAt_51 ?_
        refine rr_iload 4 rfl dX10_worstAt_52 ?_
        refine rr_callV (As := [.int (nI k2), .int (nI k3)]) (rest := []) (kc2 := 0) (ks2 := 0) dX10_worstAt_54 okX10_isSo lX10_349 lo_49 sh_49 rfl rfl (Nat.le_of_ble_eq_true rfl) (Nat.le_of_ble_eq_true rfl) rfl (by omega) (by simp [jj_rk]) (by simp [jj_rk]) ?_
        refine sp_X10_isSo (vp_in_nI (by omega) (by decide)) (vp_in_nI (by omega) (by decide)) (by first | exact hM | exact (congrFun (ec3 49 (by decide)) 17).trans hM | assumption) hm2 (lw_to ((jj_gd_rs (B := hc3) (L := [(498, a3.2.1), (779, a3.2.2)]) (b := 75) (len := 160) rfl).trans (jj_gd_eq (b := 75) (len := 160) ec3 rfl)) (show (jj_rs hc3 [(498, a3.2.1), (779, a3.2.2)]) 8 = h 8 from ec3 8 (by decide)) hw) (by first | exact hl | exact (congrFun (ec3 49 (by decide)) 31).trans hl | assumption) hl2 (ln_to ((jj_gd_rs (B := hc3) (L := [(498, a3.2.1), (779, a3.2.2)]) (b := 397) (len := 8) rfl).trans (jj_gd_eq (b := 397) (len := 8) ec3 rfl)) hlw) (fun h1 e2 => ?_)
        obtain ⟨h4, e3, rfl⟩ := jj_lo (X := [414, 415]) ec3 e2 (by decide) (by simp [List.lookup])
        show jj_R _ _ kc ks (jj_S, 782, (jj_rs (jj_rs h4 [(498, a3.2.1), (779, a3.2.2)]) [(498, (rX10_isSo_498 (hc3 8) (hc3 73) (hc3 497) a3.2.1 (jj_gd (jj_rs hc3 [(498, a3.2.1), (779, a3.2.2)]) 64 8) (jj_gd (jj_rs hc3 [(498, a3.2.1), (779, a3.2.2)]) 397 8) m nl (nI k2) (nI k3)))]), g) 57 [(0, .ref 49), (1, .int p), (2, .int a3.1), (3, .int (nI k2)), (4, .int (nI k3))] [.int (vX10_isSo (hc3 8) (hc3 73) (hc3 497) a3.2.1 (jj_gd (jj_rs hc3 [(498, a3.2.1), (779, a3.2.2)]) 64 8) (jj_gd (jj_rs hc3 [(498, a3.2.1), (779, a3.2.2)]) 397 8) m nl (nI k2) (nI k3))] Q
        rw [jj_rs_rs (B := h4) (L := [(498, a3.2.1), (779, a3.2.2)]) (M := [(498, (rX10_isSo_498 (hc3 8) (hc3 73) (hc3 497) a3.2.1 (jj_gd (jj_rs hc3 [(498, a3.2.1), (779, a3.2.2)]) 64 8) (jj_gd (jj_rs hc3 [(498, a3.2.1), (779, a3.2.2)]) 397 8) m nl (nI k2) (nI k3)))]) (L2 := [(498, (rX10_isSo_498 (hc3 8) (hc3 73) (hc3 497) a3.2.1 (jj_gd (jj_rs hc3 [(498, a3.2.1), (779, a3.2.2)]) 64 8) (jj_gd (jj_rs hc3 [(498, a3.2.1), (779, a3.2.2)]) 397 8) m nl (nI k2) (nI k3))), (779, a3.2.2)]) rfl]
        try rw [ec3 8 (by decide)]
        try rw [ec3 73 (by decide)]
        try rw [ec3 497 (by decide)]
        try rw [show jj_gd (jj_rs hc3 [(498, a3.2.1), (779, a3.2.2)]) 64 8 = jj_gd h 64 8 from ((jj_gd_rs (B := hc3) (L := [(498, a3.2.1), (779, a3.2.2)]) (b := 64) (len := 8) rfl).trans (jj_gd_eq (b := 64) (len := 8) ec3 rfl))]
        try rw [show jj_gd (jj_rs hc3 [(498, a3.2.1), (779, a3.2.2)]) 397 8 = jj_gd h 397 8 from ((jj_gd_rs (B := hc3) (L := [(498, a3.2.1), (779, a3.2.2)]) (b := 397) (len := 8) rfl).trans (jj_gd_eq (b := 397) (len := 8) ec3 rfl))]
        refine rr_if_ne dX10_worstAt_57 (fun c5 => ?_) (fun c5 => ?_)
        · skip
          refine rr_aload_n 0 rfl rfl dX10_worstAt_63 ?_
          refine rr_getR dX10_worstAt_64 fX10_64 lo_49 sh_49 rfl ?_
          refine rr_iconst 0 rfl dX10_worstAt_67 ?_
          refine rr_iload_n 1 rfl rfl dX10_worstAt_68 ?_
          refine rr_iadd dX10_worstAt_69 ?_
          refine rr_iaload dX10_worstAt_70 lo_498 sh_498 (jj_rowin (n := 8) (o := 0) (by first | assumption | exact jj_pM hn (by assumption) | exact jj_pM hn (jj_two (by assumption)).1 | exact jj_pM hn (jj_two (by assumption)).2 | decide | omega) (by decide) (by decide)) ?_
          rw [show (jj_rs h4 [(498, (rX10_isSo_498 (h 8) (h 73) (h 497) a3.2.1 (jj_gd h 64 8) (jj_gd h 397 8) m nl (nI k2) (nI k3))), (779, a3.2.2)]) 498 = (rX10_isSo_498 (h 8) (h 73) (h 497) a3.2.1 (jj_gd h 64 8) (jj_gd h 397 8) m nl (nI k2) (nI k3)) from rfl]
          refine rr_istore [(0, .ref 49), (1, .int p), (2, .int a3.1), (3, .int (nI k2)), (4, .int (nI k3)), (5, .int ((rX10_isSo_498 (h 8) (h 73) (h 497) a3.2.1 (jj_gd h 64 8) (jj_gd h 397 8) m nl (nI k2) (nI k3)) (((0 : Int32) + p) : Int32).toNatClampNeg))] dX10_worstAt_71 (by decide) rfl ?_
          refine rr_aload_n 0 rfl rfl dX10_worstAt_73 ?_
          refine rr_getR dX10_worstAt_74 fX10_82 lo_49 sh_49 rfl ?_
          refine rr_iload 5 rfl dX10_worstAt_77 ?_
          refine rr_dup2 rfl rfl dX10_worstAt_79 ?_
          refine rr_iaload dX10_worstAt_80 lo_779 sh_779 (so_day hd (vp_in_nI (by omega) (by decide)) (vp_in_nI (by omega) (by decide)) hp) ?_
          rw [show (jj_rs h4 [(498, (rX10_isSo_498 (h 8) (h 73) (h 497) a3.2.1 (jj_gd h 64 8) (jj_gd h 397 8) m nl (nI k2) (nI k3))), (779, a3.2.2)]) 779 = a3.2.2 from rfl]
          refine rr_iconst 1 rfl dX10_worstAt_81 ?_
          refine rr_iadd dX10_worstAt_82 ?_
          refine rr_iastore dX10_worstAt_83 lo_779 sh_779 (so_day hd (vp_in_nI (by omega) (by decide)) (vp_in_nI (by omega) (by decide)) hp) ?_
          rw [jj_rs_set (B := h4) (L := [(498, (rX10_isSo_498 (h 8) (h 73) (h 497) a3.2.1 (jj_gd h 64 8) (jj_gd h 397 8) m nl (nI k2) (nI k3))), (779, a3.2.2)]) (L2 := [(498, (rX10_isSo_498 (h 8) (h 73) (h 497) a3.2.1 (jj_gd h 64 8) (jj_gd h 397 8) m nl (nI k2) (nI k3))), (779, (upd a3.2.2 ((((rX10_isSo_498 (h 8) (h 73) (h 497) a3.2.1 (jj_gd h 64 8) (jj_gd h 397 8) m nl (nI k2) (nI k3)) (((0 : Int32) + p) : Int32).toNatClampNeg) : Int32).toNatClampNeg) ((a3.2.2 (((rX10_isSo_498 (h 8) (h 73) (h 497) a3.2.1 (jj_gd h 64 8) (jj_gd h 397 8) m nl (nI k2) (nI k3)) (((0 : Int32) + p) : Int32).toNatClampNeg) : Int32).toNatClampNeg) + 1)))]) (r := a3.2.2) rfl rfl]
          refine rr_iload_n 2 rfl rfl dX10_worstAt_84 ?_
          refine rr_aload_n 0 rfl rfl dX10_worstAt_85 ?_
          refine rr_getR dX10_worstAt_86 fX10_82 lo_49 sh_49 rfl ?_
          refine rr_iload 5 rfl dX10_worstAt_89 ?_
          refine rr_iaload dX10_worstAt_91 lo_779 sh_779 (so_day hd (vp_in_nI (by omega) (by decide)) (vp_in_nI (by omega) (by decide)) hp) ?_
          rw [show (jj_rs h4 [(498, (rX10_isSo_498 (h 8) (h 73) (h 497) a3.2.1 (jj_gd h 64 8) (jj_gd h 397 8) m nl (nI k2) (nI k3))), (779, (upd a3.2.2 ((((rX10_isSo_498 (h 8) (h 73) (h 497) a3.2.1 (jj_gd h 64 8) (jj_gd h 397 8) m nl (nI k2) (nI k3)) (((0 : Int32) + p) : Int32).toNatClampNeg) : Int32).toNatClampNeg) ((a3.2.2 (((rX10_isSo_498 (h 8) (h 73) (h 497) a3.2.1 (jj_gd h 64 8) (jj_gd h 397 8) m nl (nI k2) (nI k3)) (((0 : Int32) + p) : Int32).toNatClampNeg) : Int32).toNatClampNeg) + 1)))]) 779 = (upd a3.2.2 ((((rX10_isSo_498 (h 8) (h 73) (h 497) a3.2.1 (jj_gd h 64 8) (jj_gd h 397 8) m nl (nI k2) (nI k3)) (((0 : Int32) + p) : Int32).toNatClampNeg) : Int32).toNatClampNeg) ((a3.2.2 (((rX10_isSo_498 (h 8) (h 73) (h 497) a3.2.1 (jj_gd h 64 8) (jj_gd h 397 8) m nl (nI k2) (nI k3)) (((0 : Int32) + p) : Int32).toNatClampNeg) : Int32).toNatClampNeg) + 1)) from rfl]
          refine rr_callS (As := [.int a3.1, .int ((upd a3.2.2 ((((rX10_isSo_498 (h 8) (h 73) (h 497) a3.2.1 (jj_gd h 64 8) (jj_gd h 397 8) m nl (nI k2) (nI k3)) (((0 : Int32) + p) : Int32).toNatClampNeg) : Int32).toNatClampNeg) ((a3.2.2 (((rX10_isSo_498 (h 8) (h 73) (h 497) a3.2.1 (jj_gd h 64 8) (jj_gd h 397 8) m nl (nI k2) (nI k3)) (((0 : Int32) + p) : Int32).toNatClampNeg) : Int32).toNatClampNeg) + 1)) (((rX10_isSo_498 (h 8) (h 73) (h 497) a3.2.1 (jj_gd h 64 8) (jj_gd h 397 8) m nl (nI k2) (nI k3)) (((0 : Int32) + p) : Int32).toNatClampNeg) : Int32).toNatClampNeg)]) (rest := []) (kc2 := 0) (ks2 := 0) dX10_worstAt_92 okX10_more lX10_238 rfl (Nat.le_of_ble_eq_true rfl) (Nat.le_of_ble_eq_true rfl) rfl (by omega) (by simp [jj_rk]) (by simp [jj_rk]) ?_
          refine sp_X10_more  ?_
          show jj_R _ _ kc ks (jj_S, 782, (jj_rs h4 [(498, (rX10_isSo_498 (h 8) (h 73) (h 497) a3.2.1 (jj_gd h 64 8) (jj_gd h 397 8) m nl (nI k2) (nI k3))), (779, (upd a3.2.2 ((((rX10_isSo_498 (h 8) (h 73) (h 497) a3.2.1 (jj_gd h 64 8) (jj_gd h 397 8) m nl (nI k2) (nI k3)) (((0 : Int32) + p) : Int32).toNatClampNeg) : Int32).toNatClampNeg) ((a3.2.2 (((rX10_isSo_498 (h 8) (h 73) (h 497) a3.2.1 (jj_gd h 64 8) (jj_gd h 397 8) m nl (nI k2) (nI k3)) (((0 : Int32) + p) : Int32).toNatClampNeg) : Int32).toNatClampNeg) + 1)))]), g) 95 [(0, .ref 49), (1, .int p), (2, .int a3.1), (3, .int (nI k2)), (4, .int (nI k3)), (5, .int ((rX10_isSo_498 (h 8) (h 73) (h 497) a3.2.1 (jj_gd h 64 8) (jj_gd h 397 8) m nl (nI k2) (nI k3)) (((0 : Int32) + p) : Int32).toNatClampNeg))] [.int (vX10_more a3.1 ((upd a3.2.2 ((((rX10_isSo_498 (h 8) (h 73) (h 497) a3.2.1 (jj_gd h 64 8) (jj_gd h 397 8) m nl (nI k2) (nI k3)) (((0 : Int32) + p) : Int32).toNatClampNeg) : Int32).toNatClampNeg) ((a3.2.2 (((rX10_isSo_498 (h 8) (h 73) (h 497) a3.2.1 (jj_gd h 64 8) (jj_gd h 397 8) m nl (nI k2) (nI k3)) (((0 : Int32) + p) : Int32).toNatClampNeg) : Int32).toNatClampNeg) + 1)) (((rX10_isSo_498 (h 8) (h 73) (h 497) a3.2.1 (jj_gd h 64 8) (jj_gd h 397 8) m nl (nI k2) (nI k3)) (((0 : Int32) + p) : Int32).toNatClampNeg) : Int32).toNatClampNeg))] Q
          refine rr_istore_n [(0, .ref 49), (1, .int p), (2, .int (vX10_more a3.1 ((upd a3.2.2 ((((rX10_isSo_498 (h 8) (h 73) (h 497) a3.2.1 (jj_gd h 64 8) (jj_gd h 397 8) m nl (nI k2) (nI k3)) (((0 : Int32) + p) : Int32).toNatClampNeg) : Int32).toNatClampNeg) ((a3.2.2 (((rX10_isSo_498 (h 8) (h 73) (h 497) a3.2.1 (jj_gd h 64 8) (jj_gd h 397 8) m nl (nI k2) (nI k3)) (((0 : Int32) + p) : Int32).toNatClampNeg) : Int32).toNatClampNeg) + 1)) (((rX10_isSo_498 (h 8) (h 73) (h 497) a3.2.1 (jj_gd h 64 8) (jj_gd h 397 8) m nl (nI k2) (nI k3)) (((0 : Int32) + p) : Int32).toNatClampNeg) : Int32).toNatClampNeg))), (3, .int (nI k2)), (4, .int (nI k3)), (5, .int ((rX10_isSo_498 (h 8) (h 73) (h 497) a3.2.1 (jj_gd h 64 8) (jj_gd h 397 8) m nl (nI k2) (nI k3)) (((0 : Int32) + p) : Int32).toNatClampNeg))] dX10_worstAt_95 rfl (by decide) rfl ?_
          refine rr_iinc 4 1 [(0, .ref 49), (1, .int p), (2, .int (vX10_more a3.1 ((upd a3.2.2 ((((rX10_isSo_498 (h 8) (h 73) (h 497) a3.2.1 (jj_gd h 64 8) (jj_gd h 397 8) m nl (nI k2) (nI k3)) (((0 : Int32) + p) : Int32).toNatClampNeg) : Int32).toNatClampNeg) ((a3.2.2 (((rX10_isSo_498 (h 8) (h 73) (h 497) a3.2.1 (jj_gd h 64 8) (jj_gd h 397 8) m nl (nI k2) (nI k3)) (((0 : Int32) + p) : Int32).toNatClampNeg) : Int32).toNatClampNeg) + 1)) (((rX10_isSo_498 (h 8) (h 73) (h 497) a3.2.1 (jj_gd h 64 8) (jj_gd h 397 8) m nl (nI k2) (nI k3)) (((0 : Int32) + p) : Int32).toNatClampNeg) : Int32).toNatClampNeg))), (3, .int (nI k2)), (4, .int ((nI k3) + 1)), (5, .int ((rX10_isSo_498 (h 8) (h 73) (h 497) a3.2.1 (jj_gd h 64 8) (jj_gd h 397 8) m nl (nI k2) (nI k3)) (((0 : Int32) + p) : Int32).toNatClampNeg))] dX10_worstAt_96 rfl rfl (by decide) rfl ?_
          refine rr_goto dX10_worstAt_99 ?_
          try simp only [(nI_clamp (show k3 < 2 ^ 31 by omega))] at c5
          refine rr_drop (ls := [(0, .ref 49), (1, .int p), (2, .int (vX10_more a3.1 ((upd a3.2.2 ((((rX10_isSo_498 (h 8) (h 73) (h 497) a3.2.1 (jj_gd h 64 8) (jj_gd h 397 8) m nl (nI k2) (nI k3)) (((0 : Int32) + p) : Int32).toNatClampNeg) : Int32).toNatClampNeg) ((a3.2.2 (((rX10_isSo_498 (h 8) (h 73) (h 497) a3.2.1 (jj_gd h 64 8) (jj_gd h 397 8) m nl (nI k2) (nI k3)) (((0 : Int32) + p) : Int32).toNatClampNeg) : Int32).toNatClampNeg) + 1)) (((rX10_isSo_498 (h 8) (h 73) (h 497) a3.2.1 (jj_gd h 64 8) (jj_gd h 397 8) m nl (nI k2) (nI k3)) (((0 : Int32) + p) : Int32).toNatClampNeg) : Int32).toNatClampNeg))), (3, .int (nI k2)), (4, .int ((nI k3) + 1))]) [0, 1, 2, 3, 4] rfl ?_
          simpa only [nI_1, (nI_clamp (show k3 < 2 ^ 31 by omega)), fX10_worstAt_3, if_neg c5] using ih3 h4 e3
        · skip
          refine rr_goto dX10_worstAt_60 ?_
          refine rr_iinc 4 1 [(0, .ref 49), (1, .int p), (2, .int a3.1), (3, .int (nI k2)), (4, .int ((nI k3) + 1))] dX10_worstAt_96 rfl rfl (by decide) rfl ?_
          refine rr_goto dX10_worstAt_99 ?_
          try simp only [(nI_clamp (show k3 < 2 ^ 31 by omega))] at c5
          simpa only [nI_1, (nI_clamp (show k3 < 2 ^ 31 by omega)), fX10_worstAt_3, if_pos c5] using ih3 h4 e3
      · try dsimp only
        intro hc3 ec3
        refine rr_iload 4 rfl dX10_worstAt_39 ?_
        refine rr_aload_n 0 rfl rfl dX10_worstAt_41 ?_
        refine rr_getR dX10_worstAt_42 fX10_23 lo_49 sh_49 rfl ?_
        refine rr_iconst 0 rfl dX10_worstAt_45 ?_
        refine rr_iaload dX10_worstAt_46 lo_53 sh_53 (jj_inL rfl) ?_
        rw [show (jj_rs hc3 [(498, (jj_fo (fX10_worstAt_3 (h 8) (h 73) (h 497) (jj_gd h 64 8) (jj_gd h 397 8) m nl p k2) n (a2.1, a2.2.1, a2.2.2)).2.1), (779, (jj_fo (fX10_worstAt_3 (h 8) (h 73) (h 497) (jj_gd h 64 8) (jj_gd h 397 8) m nl p k2) n (a2.1, a2.2.1, a2.2.2)).2.2)]) 53 = hc3 53 from rfl]
        rw [ec3 53 (by decide)]
        rw [show (h 53) (0 : Int32).toNatClampNeg = (nI n) from hT]
        refine rr_icmp_ge dX10_worstAt_47 (fun _ => ?_) (fun c => absurd (jj_le_rf _) c)
        refine rr_iinc 3 1 [(0, .ref 49), (1, .int p), (2, .int (jj_fo (fX10_worstAt_3 (h 8) (h 73) (h 497) (jj_gd h 64 8) (jj_gd h 397 8) m nl p k2) n (a2.1, a2.2.1, a2.2.2)).1), (3, .int ((nI k2) + 1)), (4, .int (nI n))] dX10_worstAt_102 rfl rfl (by decide) rfl ?_
        refine rr_goto dX10_worstAt_105 ?_
        refine rr_drop (ls := [(0, .ref 49), (1, .int p), (2, .int (jj_fo (fX10_worstAt_3 (h 8) (h 73) (h 497) (jj_gd h 64 8) (jj_gd h 397 8) m nl p k2) n (a2.1, a2.2.1, a2.2.2)).1), (3, .int ((nI k2) + 1))]) [0, 1, 2, 3] rfl ?_
        simpa only [nI_1, (nI_clamp (show k2 < 2 ^ 31 by omega)), fX10_worstAt_2] using ih2 hc3 ec3
    · try dsimp only
      intro hc2 ec2
      refine rr_iload_n 3 rfl rfl dX10_worstAt_26 ?_
      refine rr_aload_n 0 rfl rfl dX10_worstAt_27 ?_
      refine rr_getR dX10_worstAt_28 fX10_23 lo_49 sh_49 rfl ?_
      refine rr_iconst 0 rfl dX10_worstAt_31 ?_
      refine rr_iaload dX10_worstAt_32 lo_53 sh_53 (jj_inL rfl) ?_
      rw [show (jj_rs hc2 [(498, (jj_fo (fX10_worstAt_2 (h 8) (h 73) (h 497) (jj_gd h 64 8) (jj_gd h 397 8) n m nl p) n (0, (h 498), (jj_fo fX10_worstAt_1 1000 (h 779)))).2.1), (779, (jj_fo (fX10_worstAt_2 (h 8) (h 73) (h 497) (jj_gd h 64 8) (jj_gd h 397 8) n m nl p) n (0, (h 498), (jj_fo fX10_worstAt_1 1000 (h 779)))).2.2)]) 53 = hc2 53 from rfl]
      rw [ec2 53 (by decide)]
      rw [show (h 53) (0 : Int32).toNatClampNeg = (nI n) from hT]
      refine rr_icmp_ge dX10_worstAt_33 (fun _ => ?_) (fun c => absurd (jj_le_rf _) c)
      refine rr_iload_n 2 rfl rfl dX10_worstAt_108 ?_
      refine rr_ireturn dX10_worstAt_109 rfl ?_
      simpa only [vX10_worstAt, rX10_worstAt_498, rX10_worstAt_779] using kq hc2 ec2
def fX10_look_1 (r8 : Nat → Int32) (r73 : Nat → Int32) (r497 : Nat → Int32) (g64 : Nat → Nat → Int32) (g397 : Nat → Nat → Int32) (n : Nat) (m : Nat) (nl : Nat) (k1 : Nat) (a1 : Int32 × Int32 × (Nat → Int32) × (Nat → Int32)) : Int32 × Int32 × (Nat → Int32) × (Nat → Int32) := (if (vX10_isTold g397 nl (nI k1)) = 0 then (if a1.1 = (-1) then ((nI k1), (vX10_worstAt r8 r73 r497 a1.2.2.1 a1.2.2.2 g64 g397 n m nl (nI k1)), (rX10_worstAt_498 r8 r73 r497 a1.2.2.1 a1.2.2.2 g64 g397 n m nl (nI k1)), (rX10_worstAt_779 r8 r73 r497 a1.2.2.1 a1.2.2.2 g64 g397 n m nl (nI k1))) else (if (vX10_worstAt r8 r73 r497 a1.2.2.1 a1.2.2.2 g64 g397 n m nl (nI k1)) < a1.2.1 then ((nI k1), (vX10_worstAt r8 r73 r497 a1.2.2.1 a1.2.2.2 g64 g397 n m nl (nI k1)), (rX10_worstAt_498 r8 r73 r497 a1.2.2.1 a1.2.2.2 g64 g397 n m nl (nI k1)), (rX10_worstAt_779 r8 r73 r497 a1.2.2.1 a1.2.2.2 g64 g397 n m nl (nI k1))) else (a1.1, a1.2.1, (rX10_worstAt_498 r8 r73 r497 a1.2.2.1 a1.2.2.2 g64 g397 n m nl (nI k1)), (rX10_worstAt_779 r8 r73 r497 a1.2.2.1 a1.2.2.2 g64 g397 n m nl (nI k1))))) else (a1.1, a1.2.1, a1.2.2.1, a1.2.2.2))
def vX10_look (r8 : Nat → Int32) (r49 : Nat → Int32) (r51 : Nat → Int32) (r73 : Nat → Int32) (r497 : Nat → Int32) (r498 : Nat → Int32) (r779 : Nat → Int32) (g64 : Nat → Nat → Int32) (g397 : Nat → Nat → Int32) (n : Nat) (m : Nat) (nl : Nat) (w : Int32) : Int32 := (if (vX10_in w 0 1) = 0 then 0 else (if w = 0 then (jj_fo (fX10_look_1 r8 r73 r497 g64 g397 n m nl) n ((-1), (-1), r498, r779)).1 else (jj_fo (fX10_look_1 r8 r73 r497 g64 g397 n m nl) n ((-1), (-1), r498, r779)).2.1))
def rX10_look_49 (r8 : Nat → Int32) (r49 : Nat → Int32) (r51 : Nat → Int32) (r73 : Nat → Int32) (r497 : Nat → Int32) (r498 : Nat → Int32) (r779 : Nat → Int32) (g64 : Nat → Nat → Int32) (g397 : Nat → Nat → Int32) (n : Nat) (m : Nat) (nl : Nat) (w : Int32) : Nat → Int32 := (if (vX10_in w 0 1) = 0 then (upd (upd r49 (0) 0) (0) 1) else (upd r49 (0) 0))
def rX10_look_51 (r8 : Nat → Int32) (r49 : Nat → Int32) (r51 : Nat → Int32) (r73 : Nat → Int32) (r497 : Nat → Int32) (r498 : Nat → Int32) (r779 : Nat → Int32) (g64 : Nat → Nat → Int32) (g397 : Nat → Nat → Int32) (n : Nat) (m : Nat) (nl : Nat) (w : Int32) : Nat → Int32 := (if (vX10_in w 0 1) = 0 then (upd r51 (1) ((r51 1) + 1)) else r51)
def rX10_look_498 (r8 : Nat → Int32) (r49 : Nat → Int32) (r51 : Nat → Int32) (r73 : Nat → Int32) (r497 : Nat → Int32) (r498 : Nat → Int32) (r779 : Nat → Int32) (g64 : Nat → Nat → Int32) (g397 : Nat → Nat → Int32) (n : Nat) (m : Nat) (nl : Nat) (w : Int32) : Nat → Int32 := (if (vX10_in w 0 1) = 0 then r498 else (jj_fo (fX10_look_1 r8 r73 r497 g64 g397 n m nl) n ((-1), (-1), r498, r779)).2.2.1)
def rX10_look_779 (r8 : Nat → Int32) (r49 : Nat → Int32) (r51 : Nat → Int32) (r73 : Nat → Int32) (r497 : Nat → Int32) (r498 : Nat → Int32) (r779 : Nat → Int32) (g64 : Nat → Nat → Int32) (g397 : Nat → Nat → Int32) (n : Nat) (m : Nat) (nl : Nat) (w : Int32) : Nat → Int32 := (if (vX10_in w 0 1) = 0 then r779 else (jj_fo (fX10_look_1 r8 r73 r497 g64 g397 n m nl) n ((-1), (-1), r498, r779)).2.2.2)
set_option maxHeartbeats 1000000 in
theorem sp_X10_look {d kc ks : Nat} {h : Nat → Nat → Int32} {g : Nat → Nat → Int64} {Q : jj_Rs → jj_St → Prop} {n : Nat} {m : Nat} {nl : Nat} {w : Int32} (hT : h 53 0 = nI n) (hn : n ≤ 8) (hM : h 49 17 = nI m) (hm2 : m ≤ 150) (hw : lawok (h 8) (jj_gd h 75 160) m) (hl : h 49 31 = nI nl) (hl2 : nl ≤ 8) (hlw : ∀ k, k < nl → vp_in (jj_gd h 397 8 k 0) 8) (hd : dayok (h 497)) (kq : ∀ h9, jj_eq [414, 415] h h9 → Q (.inl (some (.int (vX10_look (h 8) (h 49) (h 51) (h 73) (h 497) (h 498) (h 779) (jj_gd h 64 8) (jj_gd h 397 8) n m nl w)))) (jj_S, 782, (jj_rs h9 [(49, (rX10_look_49 (h 8) (h 49) (h 51) (h 73) (h 497) (h 498) (h 779) (jj_gd h 64 8) (jj_gd h 397 8) n m nl w)), (51, (rX10_look_51 (h 8) (h 49) (h 51) (h 73) (h 497) (h 498) (h 779) (jj_gd h 64 8) (jj_gd h 397 8) n m nl w)), (498, (rX10_look_498 (h 8) (h 49) (h 51) (h 73) (h 497) (h 498) (h 779) (jj_gd h 64 8) (jj_gd h 397 8) n m nl w)), (779, (rX10_look_779 (h 8) (h 49) (h 51) (h 73) (h 497) (h 498) (h 779) (jj_gd h 64 8) (jj_gd h 397 8) n m nl w))]), g)) : jj_R mX10_look (d + 8) kc ks (jj_S, 782, h, g) 0 [(0, .ref 49), (1, .int w)] [] Q := by
  refine rr_aload_n 0 rfl rfl dX10_look_0 ?_
  refine rr_iconst 0 rfl dX10_look_1 ?_
  refine rr_putI dX10_look_2 fX10_95 ni10_0 lo_49 sh_49 rfl ?_
  rw [jj_rs_set0 (B := h) (o := 49) (r := (h 49)) rfl]
  refine rr_aload_n 0 rfl rfl dX10_look_5 ?_
  refine rr_iload_n 1 rfl rfl dX10_look_6 ?_
  refine rr_iconst 0 rfl dX10_look_7 ?_
  refine rr_iconst 1 rfl dX10_look_8 ?_
  refine rr_callS (As := [.int w, .int 0, .int 1]) (rest := [.ref 49]) (kc2 := 0) (ks2 := 0) dX10_look_9 okX10_in lX10_129 rfl (Nat.le_of_ble_eq_true rfl) (Nat.le_of_ble_eq_true rfl) rfl (by omega) (by simp [jj_rk]) (by simp [jj_rk]) ?_
  refine sp_X10_in  ?_
  show jj_R _ _ kc ks (jj_S, 782, (jj_rs h [(49, (upd (h 49) (0) 0))]), g) 12 [(0, .ref 49), (1, .int w)] [.int (vX10_in w 0 1), .ref 49] Q
  refine rr_if_ne dX10_look_12 (fun c1 => ?_) (fun c1 => ?_)
  · skip
    refine rr_iconst 0 rfl dX10_look_19 ?_
    refine rr_iconst 1 rfl dX10_look_20 ?_
    refine rr_iconst 1 rfl dX10_look_21 ?_
    refine rr_callV (As := [.int 0, .int 1, .int 1]) (rest := []) (kc2 := 0) (ks2 := 0) dX10_look_22 okX10_bad lX10_171 lo_49 sh_49 rfl rfl (Nat.le_of_ble_eq_true rfl) (Nat.le_of_ble_eq_true rfl) rfl (by omega) (by simp [jj_rk]) (by simp [jj_rk]) ?_
    refine sp_X10_bad0_11 rfl ?_
    show jj_R _ _ kc ks (jj_S, 782, (jj_rs h [(49, (upd (h 49) (0) 0))]), g) 25 [(0, .ref 49), (1, .int w)] [.int 0] Q
    refine rr_if_eq dX10_look_25 (fun _ => ?_) (fun c => absurd (by decide) c)
    refine rr_iconst (-1) rfl dX10_look_30 ?_
    refine rr_istore_n [(0, .ref 49), (1, .int w), (2, .int (-1))] dX10_look_31 rfl (by decide) rfl ?_
    refine rr_iconst (-1) rfl dX10_look_32 ?_
    refine rr_istore_n [(0, .ref 49), (1, .int w), (2, .int (-1)), (3, .int (-1))] dX10_look_33 rfl (by decide) rfl ?_
    refine rr_iconst 0 rfl dX10_look_34 ?_
    refine rr_istore [(0, .ref 49), (1, .int w), (2, .int (-1)), (3, .int (-1)), (4, .int 0)] dX10_look_35 (by decide) rfl ?_
    refine jj_Rh (jj_rs_add (B := h) (L := [(49, (upd (h 49) (0) 0))]) (L2 := [(49, (upd (h 49) (0) 0)), (498, (h 498))]) (o := 498) (r := (h 498)) rfl rfl) ?_
    refine jj_Rh (jj_rs_add (B := h) (L := [(49, (upd (h 49) (0) 0)), (498, (h 498))]) (L2 := [(49, (upd (h 49) (0) 0)), (498, (h 498)), (779, (h 779))]) (o := 779) (r := (h 779)) rfl rfl) ?_
    refine jj_for (fun k1 (a1 : Int32 × Int32 × (Nat → Int32) × (Nat → Int32)) => ∀ hc1, jj_eq [414, 415] h hc1 → jj_R _ _ kc ks (jj_S, 782, (jj_rs hc1 [(49, (upd (h 49) (0) 0)), (498, a1.2.2.1), (779, a1.2.2.2)]), g) 37 [(0, .ref 49), (1, .int w), (2, .int a1.1), (3, .int a1.2.1), (4, .int (nI k1))] [] Q) (fX10_look_1 (h 8) (h 73) (h 497) (jj_gd h 64 8) (jj_gd h 397 8) n m nl) n ((-1), (-1), (h 498), (h 779)) ?_ ?_ h jj_eq.rf
    · intro k1 hk1 ih1 hc1 ec1
      generalize jj_fo _ k1 _ = a1 at ih1 ⊢
      try dsimp only at ih1 ⊢
      refine rr_iload 4 rfl dX10_look_37 ?_
      refine rr_aload_n 0 rfl rfl dX10_look_39 ?_
      refine rr_getR dX10_look_40 fX10_23 lo_49 sh_49 rfl ?_
      refine rr_iconst 0 rfl dX10_look_43 ?_
      refine rr_iaload dX10_look_44 lo_53 sh_53 (jj_inL rfl) ?_
      rw [show (jj_rs hc1 [(49, (upd (h 49) (0) 0)), (498, a1.2.2.1), (779, a1.2.2.2)]) 53 = hc1 53 from rfl]
      rw [ec1 53 (by decide)]
      rw [show (h 53) (0 : Int32).toNatClampNeg = (nI n) from hT]
      refine rr_icmp_ge dX10_look_45 (fun c => absurd c (nI_ge (a := k1) (b := n) (by omega) (by omega))) (fun _ => ?_)
      refine rr_aload_n 0 rfl rfl dX10_look_48 ?_
      refine rr_iload 4 rfl dX10_look_49 ?_
      refine rr_callV (As := [.int (nI k1)]) (rest := []) (kc2 := 0) (ks2 := 0) dX10_look_51 okX10_isTold lX10_352 lo_49 sh_49 rfl rfl (Nat.le_of_ble_eq_true rfl) (Nat.le_of_ble_eq_true rfl) rfl (by omega) (by simp [jj_rk]) (by simp [jj_rk]) ?_
      refine sp_X10_isTold (by first | exact hl | exact (congrFun (ec1 49 (by decide)) 31).trans hl | assumption) hl2 (ln_to ((jj_gd_rs (B := hc1) (L := [(49, (upd (h 49) (0) 0)), (498, a1.2.2.1), (779, a1.2.2.2)]) (b := 397) (len := 8) rfl).trans (jj_gd_eq (b := 397) (len := 8) ec1 rfl)) hlw) ?_
      show jj_R _ _ kc ks (jj_S, 782, (jj_rs hc1 [(49, (upd (h 49) (0) 0)), (498, a1.2.2.1), (779, a1.2.2.2)]), g) 54 [(0, .ref 49), (1, .int w), (2, .int a1.1), (3, .int a1.2.1), (4, .int (nI k1))] [.int (vX10_isTold (jj_gd (jj_rs hc1 [(49, (upd (h 49) (0) 0)), (498, a1.2.2.1), (779, a1.2.2.2)]) 397 8) nl (nI k1))] Q
      try rw [show jj_gd (jj_rs hc1 [(49, (upd (h 49) (0) 0)), (498, a1.2.2.1), (779, a1.2.2.2)]) 397 8 = jj_gd h 397 8 from ((jj_gd_rs (B := hc1) (L := [(49, (upd (h 49) (0) 0)), (498, a1.2.2.1), (779, a1.2.2.2)]) (b := 397) (len := 8) rfl).trans (jj_gd_eq (b := 397) (len := 8) ec1 rfl))]
      refine rr_if_eq dX10_look_54 (fun c2 => ?_) (fun c2 => ?_)
      · skip
        refine rr_aload_n 0 rfl rfl dX10_look_60 ?_
        refine rr_iload 4 rfl dX10_look_61 ?_
        refine rr_callV (As := [.int (nI k1)]) (rest := []) (kc2 := 0) (ks2 := 0) dX10_look_63 okX10_worstAt lX10_355 lo_49 sh_49 rfl rfl (Nat.le_of_ble_eq_true rfl) (Nat.le_of_ble_eq_true rfl) rfl (by omega) (by simp [jj_rk]) (by simp [jj_rk]) ?_
        refine sp_X10_worstAt (by first | exact hT | exact (congrFun (ec1 53 (by decide)) 0).trans hT) hn (vp_in_nI (by omega) (by decide)) (by first | exact hM | exact (congrFun (ec1 49 (by decide)) 17).trans hM | assumption) hm2 (lw_to ((jj_gd_rs (B := hc1) (L := [(49, (upd (h 49) (0) 0)), (498, a1.2.2.1), (779, a1.2.2.2)]) (b := 75) (len := 160) rfl).trans (jj_gd_eq (b := 75) (len := 160) ec1 rfl)) (show (jj_rs hc1 [(49, (upd (h 49) (0) 0)), (498, a1.2.2.1), (779, a1.2.2.2)]) 8 = h 8 from ec1 8 (by decide)) hw) (by first | exact hl | exact (congrFun (ec1 49 (by decide)) 31).trans hl | assumption) hl2 (ln_to ((jj_gd_rs (B := hc1) (L := [(49, (upd (h 49) (0) 0)), (498, a1.2.2.1), (779, a1.2.2.2)]) (b := 397) (len := 8) rfl).trans (jj_gd_eq (b := 397) (len := 8) ec1 rfl)) hlw) (by first | exact hd | exact dy_to (ec1 497 (by decide)) hd) (fun h3 e4 => ?_)
        obtain ⟨h6, e5, rfl⟩ := jj_lo (X := [414, 415]) ec1 e4 (by decide) (by simp [List.lookup])
        show jj_R _ _ kc ks (jj_S, 782, (jj_rs (jj_rs h6 [(49, (upd (h 49) (0) 0)), (498, a1.2.2.1), (779, a1.2.2.2)]) [(498, (rX10_worstAt_498 (hc1 8) (hc1 73) (hc1 497) a1.2.2.1 a1.2.2.2 (jj_gd (jj_rs hc1 [(49, (upd (h 49) (0) 0)), (498, a1.2.2.1), (779, a1.2.2.2)]) 64 8) (jj_gd (jj_rs hc1 [(49, (upd (h 49) (0) 0)), (498, a1.2.2.1), (779, a1.2.2.2)]) 397 8) n m nl (nI k1))), (779, (rX10_worstAt_779 (hc1 8) (hc1 73) (hc1 497) a1.2.2.1 a1.2.2.2 (jj_gd (jj_rs hc1 [(49, (upd (h 49) (0) 0)), (498, a1.2.2.1), (779, a1.2.2.2)]) 64 8) (jj_gd (jj_rs hc1 [(49, (upd (h 49) (0) 0)), (498, a1.2.2.1), (779, a1.2.2.2)]) 397 8) n m nl (nI k1)))]), g) 66 [(0, .ref 49), (1, .int w), (2, .int a1.1), (3, .int a1.2.1), (4, .int (nI k1))] [.int (vX10_worstAt (hc1 8) (hc1 73) (hc1 497) a1.2.2.1 a1.2.2.2 (jj_gd (jj_rs hc1 [(49, (upd (h 49) (0) 0)), (498, a1.2.2.1), (779, a1.2.2.2)]) 64 8) (jj_gd (jj_rs hc1 [(49, (upd (h 49) (0) 0)), (498, a1.2.2.1), (779, a1.2.2.2)]) 397 8) n m nl (nI k1))] Q
        rw [jj_rs_rs (B := h6) (L := [(49, (upd (h 49) (0) 0)), (498, a1.2.2.1), (779, a1.2.2.2)]) (M := [(498, (rX10_worstAt_498 (hc1 8) (hc1 73) (hc1 497) a1.2.2.1 a1.2.2.2 (jj_gd (jj_rs hc1 [(49, (upd (h 49) (0) 0)), (498, a1.2.2.1), (779, a1.2.2.2)]) 64 8) (jj_gd (jj_rs hc1 [(49, (upd (h 49) (0) 0)), (498, a1.2.2.1), (779, a1.2.2.2)]) 397 8) n m nl (nI k1))), (779, (rX10_worstAt_779 (hc1 8) (hc1 73) (hc1 497) a1.2.2.1 a1.2.2.2 (jj_gd (jj_rs hc1 [(49, (upd (h 49) (0) 0)), (498, a1.2.2.1), (779, a1.2.2.2)]) 64 8) (jj_gd (jj_rs hc1 [(49, (upd (h 49) (0) 0)), (498, a1.2.2.1), (779, a1.2.2.2)]) 397 8) n m nl (nI k1)))]) (L2 := [(49, (upd (h 49) (0) 0)), (498, (rX10_worstAt_498 (hc1 8) (hc1 73) (hc1 497) a1.2.2.1 a1.2.2.2 (jj_gd (jj_rs hc1 [(49, (upd (h 49) (0) 0)), (498, a1.2.2.1), (779, a1.2.2.2)]) 64 8) (jj_gd (jj_rs hc1 [(49, (upd (h 49) (0) 0)), (498, a1.2.2.1), (779, a1.2.2.2)]) 397 8) n m nl (nI k1))), (779, (rX10_worstAt_779 (hc1 8) (hc1 73) (hc1 497) a1.2.2.1 a1.2.2.2 (jj_gd (jj_rs hc1 [(49, (upd (h 49) (0) 0)), (498, a1.2.2.1), (779, a1.2.2.2)]) 64 8) (jj_gd (jj_rs hc1 [(49, (upd (h 49) (0) 0)), (498, a1.2.2.1), (779, a1.2.2.2)]) 397 8) n m nl (nI k1)))]) rfl]
        try rw [ec1 8 (by decide)]
        try rw [ec1 73 (by decide)]
        try rw [ec1 497 (by decide)]
        try rw [show jj_gd (jj_rs hc1 [(49, (upd (h 49) (0) 0)), (498, a1.2.2.1), (779, a1.2.2.2)]) 64 8 = jj_gd h 64 8 from ((jj_gd_rs (B := hc1) (L := [(49, (upd (h 49) (0) 0)), (498, a1.2.2.1), (779, a1.2.2.2)]) (b := 64) (len := 8) rfl).trans (jj_gd_eq (b := 64) (len := 8) ec1 rfl))]
        try rw [show jj_gd (jj_rs hc1 [(49, (upd (h 49) (0) 0)), (498, a1.2.2.1), (779, a1.2.2.2)]) 397 8 = jj_gd h 397 8 from ((jj_gd_rs (B := hc1) (L := [(49, (upd (h 49) (0) 0)), (498, a1.2.2.1), (779, a1.2.2.2)]) (b := 397) (len := 8) rfl).trans (jj_gd_eq (b := 397) (len := 8) ec1 rfl))]
        refine rr_istore [(0, .ref 49), (1, .int w), (2, .int a1.1), (3, .int a1.2.1), (4, .int (nI k1)), (5, .int (vX10_worstAt (h 8) (h 73) (h 497) a1.2.2.1 a1.2.2.2 (jj_gd h 64 8) (jj_gd h 397 8) n m nl (nI k1)))] dX10_look_66 (by decide) rfl ?_
        refine rr_iload_n 2 rfl rfl dX10_look_68 ?_
        refine rr_iconst (-1) rfl dX10_look_69 ?_
        refine rr_icmp_eq dX10_look_70 (fun c7 => ?_) (fun c7 => ?_)
        · skip
          refine rr_iload 4 rfl dX10_look_82 ?_
          refine rr_istore_n [(0, .ref 49), (1, .int w), (2, .int (nI k1)), (3, .int a1.2.1), (4, .int (nI k1)), (5, .int (vX10_worstAt (h 8) (h 73) (h 497) a1.2.2.1 a1.2.2.2 (jj_gd h 64 8) (jj_gd h 397 8) n m nl (nI k1)))] dX10_look_84 rfl (by decide) rfl ?_
          refine rr_iload 5 rfl dX10_look_85 ?_
          refine rr_istore_n [(0, .ref 49), (1, .int w), (2, .int (nI k1)), (3, .int (vX10_worstAt (h 8) (h 73) (h 497) a1.2.2.1 a1.2.2.2 (jj_gd h 64 8) (jj_gd h 397 8) n m nl (nI k1))), (4, .int (nI k1)), (5, .int (vX10_worstAt (h 8) (h 73) (h 497) a1.2.2.1 a1.2.2.2 (jj_gd h 64 8) (jj_gd h 397 8) n m nl (nI k1)))] dX10_look_87 rfl (by decide) rfl ?_
          refine rr_iinc 4 1 [(0, .ref 49), (1, .int w), (2, .int (nI k1)), (3, .int (vX10_worstAt (h 8) (h 73) (h 497) a1.2.2.1 a1.2.2.2 (jj_gd h 64 8) (jj_gd h 397 8) n m nl (nI k1))), (4, .int ((nI k1) + 1)), (5, .int (vX10_worstAt (h 8) (h 73) (h 497) a1.2.2.1 a1.2.2.2 (jj_gd h 64 8) (jj_gd h 397 8) n m nl (nI k1)))] dX10_look_88 rfl rfl (by decide) rfl ?_
          refine rr_goto dX10_look_91 ?_
          try simp only [(nI_clamp (show k1 < 2 ^ 31 by omega))] at c2
          try simp only [(nI_clamp (show k1 < 2 ^ 31 by omega))] at c7
          refine rr_drop (ls := [(0, .ref 49), (1, .int w), (2, .int (nI k1)), (3, .int (vX10_worstAt (h 8) (h 73) (h 497) a1.2.2.1 a1.2.2.2 (jj_gd h 64 8) (jj_gd h 397 8) n m nl (nI k1))), (4, .int ((nI k1) + 1))]) [0, 1, 2, 3, 4] rfl ?_
          simpa only [nI_1, (nI_clamp (show k1 < 2 ^ 31 by omega)), fX10_look_1, if_pos c2, if_pos c7] using ih1 h6 e5
        · skip
          refine rr_iload 5 rfl dX10_look_73 ?_
          refine rr_iload_n 3 rfl rfl dX10_look_75 ?_
          refine rr_icmp_lt dX10_look_76 (fun c8 => ?_) (fun c8 => ?_)
          · skip
            refine rr_iload 4 rfl dX10_look_82 ?_
            refine rr_istore_n [(0, .ref 49), (1, .int w), (2, .int (nI k1)), (3, .int a1.2.1), (4, .int (nI k1)), (5, .int (vX10_worstAt (h 8) (h 73) (h 497) a1.2.2.1 a1.2.2.2 (jj_gd h 64 8) (jj_gd h 397 8) n m nl (nI k1)))] dX10_look_84 rfl (by decide) rfl ?_
            refine rr_iload 5 rfl dX10_look_85 ?_
            refine rr_istore_n [(0, .ref 49), (1, .int w), (2, .int (nI k1)), (3, .int (vX10_worstAt (h 8) (h 73) (h 497) a1.2.2.1 a1.2.2.2 (jj_gd h 64 8) (jj_gd h 397 8) n m nl (nI k1))), (4, .int (nI k1)), (5, .int (vX10_worstAt (h 8) (h 73) (h 497) a1.2.2.1 a1.2.2.2 (jj_gd h 64 8) (jj_gd h 397 8) n m nl (nI k1)))] dX10_look_87 rfl (by decide) rfl ?_
            refine rr_iinc 4 1 [(0, .ref 49), (1, .int w), (2, .int (nI k1)), (3, .int (vX10_worstAt (h 8) (h 73) (h 497) a1.2.2.1 a1.2.2.2 (jj_gd h 64 8) (jj_gd h 397 8) n m nl (nI k1))), (4, .int ((nI k1) + 1)), (5, .int (vX10_worstAt (h 8) (h 73) (h 497) a1.2.2.1 a1.2.2.2 (jj_gd h 64 8) (jj_gd h 397 8) n m nl (nI k1)))] dX10_look_88 rfl rfl (by decide) rfl ?_
            refine rr_goto dX10_look_91 ?_
            try simp only [(nI_clamp (show k1 < 2 ^ 31 by omega))] at c2
            try simp only [(nI_clamp (show k1 < 2 ^ 31 by omega))] at c7
            try simp only [(nI_clamp (show k1 < 2 ^ 31 by omega))] at c8
            refine rr_drop (ls := [(0, .ref 49), (1, .int w), (2, .int (nI k1)), (3, .int (vX10_worstAt (h 8) (h 73) (h 497) a1.2.2.1 a1.2.2.2 (jj_gd h 64 8) (jj_gd h 397 8) n m nl (nI k1))), (4, .int ((nI k1) + 1))]) [0, 1, 2, 3, 4] rfl ?_
            simpa only [nI_1, (nI_clamp (show k1 < 2 ^ 31 by omega)), fX10_look_1, if_pos c2, if_neg c7, if_pos c8] using ih1 h6 e5
          · skip
            refine rr_goto dX10_look_79 ?_
            refine rr_iinc 4 1 [(0, .ref 49), (1, .int w), (2, .int a1.1), (3, .int a1.2.1), (4, .int ((nI k1) + 1)), (5, .int (vX10_worstAt (h 8) (h 73) (h 497) a1.2.2.1 a1.2.2.2 (jj_gd h 64 8) (jj_gd h 397 8) n m nl (nI k1)))] dX10_look_88 rfl rfl (by decide) rfl ?_
            refine rr_goto dX10_look_91 ?_
            try simp only [(nI_clamp (show k1 < 2 ^ 31 by omega))] at c2
            try simp only [(nI_clamp (show k1 < 2 ^ 31 by omega))] at c7
            try simp only [(nI_clamp (show k1 < 2 ^ 31 by omega))] at c8
            refine rr_drop (ls := [(0, .ref 49), (1, .int w), (2, .int a1.1), (3, .int a1.2.1), (4, .int ((nI k1) + 1))]) [0, 1, 2, 3, 4] rfl ?_
            simpa only [nI_1, (nI_clamp (show k1 < 2 ^ 31 by omega)), fX10_look_1, if_pos c2, if_neg c7, if_neg c8] using ih1 h6 e5
      · skip
        refine rr_goto dX10_look_57 ?_
        refine rr_iinc 4 1 [(0, .ref 49), (1, .int w), (2, .int a1.1), (3, .int a1.2.1), (4, .int ((nI k1) + 1))] dX10_look_88 rfl rfl (by decide) rfl ?_
        refine rr_goto dX10_look_91 ?_
        try simp only [(nI_clamp (show k1 < 2 ^ 31 by omega))] at c2
        simpa only [nI_1, (nI_clamp (show k1 < 2 ^ 31 by omega)), fX10_look_1, if_neg c2] using ih1 hc1 ec1
    · try dsimp only
      intro hc1 ec1
      refine rr_iload 4 rfl dX10_look_37 ?_
      refine rr_aload_n 0 rfl rfl dX10_look_39 ?_
      refine rr_getR dX10_look_40 fX10_23 lo_49 sh_49 rfl ?_
      refine rr_iconst 0 rfl dX10_look_43 ?_
      refine rr_iaload dX10_look_44 lo_53 sh_53 (jj_inL rfl) ?_
      rw [show (jj_rs hc1 [(49, (upd (h 49) (0) 0)), (498, (jj_fo (fX10_look_1 (h 8) (h 73) (h 497) (jj_gd h 64 8) (jj_gd h 397 8) n m nl) n ((-1), (-1), (h 498), (h 779))).2.2.1), (779, (jj_fo (fX10_look_1 (h 8) (h 73) (h 497) (jj_gd h 64 8) (jj_gd h 397 8) n m nl) n ((-1), (-1), (h 498), (h 779))).2.2.2)]) 53 = hc1 53 from rfl]
      rw [ec1 53 (by decide)]
      rw [show (h 53) (0 : Int32).toNatClampNeg = (nI n) from hT]
      refine rr_icmp_ge dX10_look_45 (fun _ => ?_) (fun c => absurd (jj_le_rf _) c)
      refine rr_iload_n 1 rfl rfl dX10_look_94 ?_
      refine rr_if_ne dX10_look_95 (fun c9 => ?_) (fun c9 => ?_)
      · skip
        refine rr_iload_n 3 rfl rfl dX10_look_102 ?_
        refine rr_ireturn dX10_look_103 rfl ?_
        refine jj_Qh (jj_rs_add (B := hc1) (L := [(49, (upd (h 49) (0) 0)), (498, (jj_fo (fX10_look_1 (h 8) (h 73) (h 497) (jj_gd h 64 8) (jj_gd h 397 8) n m nl) n ((-1), (-1), (h 498), (h 779))).2.2.1), (779, (jj_fo (fX10_look_1 (h 8) (h 73) (h 497) (jj_gd h 64 8) (jj_gd h 397 8) n m nl) n ((-1), (-1), (h 498), (h 779))).2.2.2)]) (L2 := [(49, (upd (h 49) (0) 0)), (51, (h 51)), (498, (jj_fo (fX10_look_1 (h 8) (h 73) (h 497) (jj_gd h 64 8) (jj_gd h 397 8) n m nl) n ((-1), (-1), (h 498), (h 779))).2.2.1), (779, (jj_fo (fX10_look_1 (h 8) (h 73) (h 497) (jj_gd h 64 8) (jj_gd h 397 8) n m nl) n ((-1), (-1), (h 498), (h 779))).2.2.2)]) (o := 51) (r := (h 51)) ((show jj_rs hc1 [(49, (upd (h 49) (0) 0)), (498, (jj_fo (fX10_look_1 (h 8) (h 73) (h 497) (jj_gd h 64 8) (jj_gd h 397 8) n m nl) n ((-1), (-1), (h 498), (h 779))).2.2.1), (779, (jj_fo (fX10_look_1 (h 8) (h 73) (h 497) (jj_gd h 64 8) (jj_gd h 397 8) n m nl) n ((-1), (-1), (h 498), (h 779))).2.2.2)] 51 = hc1 51 from rfl).trans (ec1 51 (by decide))) rfl) ?_
        simpa only [vX10_look, rX10_look_49, rX10_look_51, rX10_look_498, rX10_look_779, if_neg c1, if_neg c9] using kq hc1 ec1
      · skip
        refine rr_iload_n 2 rfl rfl dX10_look_98 ?_
        refine rr_goto dX10_look_99 ?_
        refine rr_ireturn dX10_look_103 rfl ?_
        refine jj_Qh (jj_rs_add (B := hc1) (L := [(49, (upd (h 49) (0) 0)), (498, (jj_fo (fX10_look_1 (h 8) (h 73) (h 497) (jj_gd h 64 8) (jj_gd h 397 8) n m nl) n ((-1), (-1), (h 498), (h 779))).2.2.1), (779, (jj_fo (fX10_look_1 (h 8) (h 73) (h 497) (jj_gd h 64 8) (jj_gd h 397 8) n m nl) n ((-1), (-1), (h 498), (h 779))).2.2.2)]) (L2 := [(49, (upd (h 49) (0) 0)), (51, (h 51)), (498, (jj_fo (fX10_look_1 (h 8) (h 73) (h 497) (jj_gd h 64 8) (jj_gd h 397 8) n m nl) n ((-1), (-1), (h 498), (h 779))).2.2.1), (779, (jj_fo (fX10_look_1 (h 8) (h 73) (h 497) (jj_gd h 64 8) (jj_gd h 397 8) n m nl) n ((-1), (-1), (h 498), (h 779))).2.2.2)]) (o := 51) (r := (h 51)) ((show jj_rs hc1 [(49, (upd (h 49) (0) 0)), (498, (jj_fo (fX10_look_1 (h 8) (h 73) (h 497) (jj_gd h 64 8) (jj_gd h 397 8) n m nl) n ((-1), (-1), (h 498), (h 779))).2.2.1), (779, (jj_fo (fX10_look_1 (h 8) (h 73) (h 497) (jj_gd h 64 8) (jj_gd h 397 8) n m nl) n ((-1), (-1), (h 498), (h 779))).2.2.2)] 51 = hc1 51 from rfl).trans (ec1 51 (by decide))) rfl) ?_
        simpa only [vX10_look, rX10_look_49, rX10_look_51, rX10_look_498, rX10_look_779, if_neg c1, if_pos c9] using kq hc1 ec1
  · skip
    refine rr_iconst 1 rfl dX10_look_15 ?_
    refine rr_goto dX10_look_16 ?_
    refine rr_iconst 1 rfl dX10_look_20 ?_
    refine rr_iconst 1 rfl dX10_look_21 ?_
    refine rr_callV (As := [.int 1, .int 1, .int 1]) (rest := []) (kc2 := 0) (ks2 := 0) dX10_look_22 okX10_bad lX10_171 lo_49 sh_49 rfl rfl (Nat.le_of_ble_eq_true rfl) (Nat.le_of_ble_eq_true rfl) rfl (by omega) (by simp [jj_rk]) (by simp [jj_rk]) ?_
    refine sp_X10_bad1_11 rfl ?_
    show jj_R _ _ kc ks (jj_S, 782, (jj_rs (jj_rs h [(49, (upd (h 49) (0) 0))]) [(49, (upd (upd (h 49) (0) 0) (0) 1)), (51, (upd (h 51) (1) (((h 51) 1) + 1)))]), g) 25 [(0, .ref 49), (1, .int w)] [.int 1] Q
    rw [jj_rs_rs (B := h) (L := [(49, (upd (h 49) (0) 0))]) (M := [(49, (upd (upd (h 49) (0) 0) (0) 1)), (51, (upd (h 51) (1) (((h 51) 1) + 1)))]) (L2 := [(49, (upd (upd (h 49) (0) 0) (0) 1)), (51, (upd (h 51) (1) (((h 51) 1) + 1)))]) rfl]
    refine rr_if_eq dX10_look_25 (fun c => absurd c (by decide)) (fun _ => ?_)
    refine rr_iconst 0 rfl dX10_look_28 ?_
    refine rr_ireturn dX10_look_29 rfl ?_
    refine jj_Qh (jj_rs_add (B := h) (L := [(49, (upd (upd (h 49) (0) 0) (0) 1)), (51, (upd (h 51) (1) (((h 51) 1) + 1)))]) (L2 := [(49, (upd (upd (h 49) (0) 0) (0) 1)), (51, (upd (h 51) (1) (((h 51) 1) + 1))), (498, (h 498))]) (o := 498) (r := (h 498)) rfl rfl) ?_
    refine jj_Qh (jj_rs_add (B := h) (L := [(49, (upd (upd (h 49) (0) 0) (0) 1)), (51, (upd (h 51) (1) (((h 51) 1) + 1))), (498, (h 498))]) (L2 := [(49, (upd (upd (h 49) (0) 0) (0) 1)), (51, (upd (h 51) (1) (((h 51) 1) + 1))), (498, (h 498)), (779, (h 779))]) (o := 779) (r := (h 779)) rfl rfl) ?_
    simpa only [vX10_look, rX10_look_49, rX10_look_51, rX10_look_498, rX10_look_779, if_pos c1] using kq h jj_eq.rf
def fX10_feed_1 (a : Int32) (b : Int32) (c : Int32) (d_ : Int32) (e : Int32) (k1 : Nat) (a1 : (Nat → Int32) × (Nat → Int32)) : (Nat → Int32) × (Nat → Int32) := (if 4 ≤ (nI k1) then (if 8 ≤ (nI k1) then (if 12 ≤ (nI k1) then (if 16 ≤ (nI k1) then ((upd a1.1 (1) ((a1.1 1) + 1)), (upd a1.2 (((a1.1 1) : Int32).toNatClampNeg) ((e >>> (((24 : Int32) - ((8 : Int32) * ((nI k1) - (nI k1) / 4 * 4))) &&& 31)) &&& 255))) else ((upd a1.1 (1) ((a1.1 1) + 1)), (upd a1.2 (((a1.1 1) : Int32).toNatClampNeg) ((d_ >>> (((24 : Int32) - ((8 : Int32) * ((nI k1) - (nI k1) / 4 * 4))) &&& 31)) &&& 255)))) else ((upd a1.1 (1) ((a1.1 1) + 1)), (upd a1.2 (((a1.1 1) : Int32).toNatClampNeg) ((c >>> (((24 : Int32) - ((8 : Int32) * ((nI k1) - (nI k1) / 4 * 4))) &&& 31)) &&& 255)))) else ((upd a1.1 (1) ((a1.1 1) + 1)), (upd a1.2 (((a1.1 1) : Int32).toNatClampNeg) ((b >>> (((24 : Int32) - ((8 : Int32) * ((nI k1) - (nI k1) / 4 * 4))) &&& 31)) &&& 255)))) else ((upd a1.1 (1) ((a1.1 1) + 1)), (upd a1.2 (((a1.1 1) : Int32).toNatClampNeg) ((a >>> (((24 : Int32) - ((8 : Int32) * ((nI k1) - (nI k1) / 4 * 4))) &&& 31)) &&& 255))))
def vX10_feed (r49 : Nat → Int32) (r50 : Nat → Int32) (t : Nat) (a : Int32) (b : Int32) (c : Int32) (d_ : Int32) (e : Int32) : Int32 := (if ((nI t) + 20) ≤ 600 then ((jj_fo (fX10_feed_1 a b c d_ e) 20 ((upd r49 (0) 0), r50)).1 1) else (-1))
def rX10_feed_49 (r49 : Nat → Int32) (r50 : Nat → Int32) (t : Nat) (a : Int32) (b : Int32) (c : Int32) (d_ : Int32) (e : Int32) : Nat → Int32 := (if ((nI t) + 20) ≤ 600 then (jj_fo (fX10_feed_1 a b c d_ e) 20 ((upd r49 (0) 0), r50)).1 else (upd r49 (0) 0))
def rX10_feed_50 (r49 : Nat → Int32) (r50 : Nat → Int32) (t : Nat) (a : Int32) (b : Int32) (c : Int32) (d_ : Int32) (e : Int32) : Nat → Int32 := (if ((nI t) + 20) ≤ 600 then (jj_fo (fX10_feed_1 a b c d_ e) 20 ((upd r49 (0) 0), r50)).2 else r50)
set_option maxHeartbeats 1000000 in
theorem sp_X10_feed {d kc ks : Nat} {h : Nat → Nat → Int32} {g : Nat → Nat → Int64} {Q : jj_Rs → jj_St → Prop} {t : Nat} {a : Int32} {b : Int32} {c : Int32} {d_ : Int32} {e : Int32} (ht : h 49 1 = nI t) (ht2 : t ≤ 600) (kq : Q (.inl (some (.int (vX10_feed (h 49) (h 50) t a b c d_ e)))) (jj_S, 782, (jj_rs h [(49, (rX10_feed_49 (h 49) (h 50) t a b c d_ e)), (50, (rX10_feed_50 (h 49) (h 50) t a b c d_ e))]), g)) : jj_R mX10_feed (d + 0) kc ks (jj_S, 782, h, g) 0 [(0, .ref 49), (1, .int a), (2, .int b), (3, .int c), (4, .int d_), (5, .int e)] [] Q := by
  refine rr_aload_n 0 rfl rfl dX10_feed_0 ?_
  refine rr_iconst 0 rfl dX10_feed_1 ?_
  refine rr_putI dX10_feed_2 fX10_95 ni10_0 lo_49 sh_49 rfl ?_
  rw [jj_rs_set0 (B := h) (o := 49) (r := (h 49)) rfl]
  refine rr_aload_n 0 rfl rfl dX10_feed_5 ?_
  refine rr_getI dX10_feed_6 fX10_98 lo_49 sh_49 rfl ?_
  rw [show (jj_rs h [(49, (upd (h 49) (0) 0))]) 49 = (upd (h 49) (0) 0) from rfl]
  rw [show (upd (h 49) (0) 0) 1 = (nI t) from ht]
  refine rr_bipush 20 rfl dX10_feed_9 ?_
  refine rr_iadd dX10_feed_11 ?_
  refine rr_sipush 600 rfl dX10_feed_12 ?_
  refine rr_icmp_le dX10_feed_15 (fun c1 => ?_) (fun c1 => ?_)
  · skip
    refine rr_iconst 0 rfl dX10_feed_20 ?_
    refine rr_istore [(0, .ref 49), (1, .int a), (2, .int b), (3, .int c), (4, .int d_), (5, .int e), (6, .int 0)] dX10_feed_21 (by decide) rfl ?_
    refine jj_Rh (jj_rs_add (B := h) (L := [(49, (upd (h 49) (0) 0))]) (L2 := [(49, (upd (h 49) (0) 0)), (50, (h 50))]) (o := 50) (r := (h 50)) rfl rfl) ?_
    refine jj_for (fun k1 (a1 : (Nat → Int32) × (Nat → Int32)) => (a1.1 1 = nI (t + k1)) → jj_R _ _ kc ks (jj_S, 782, (jj_rs h [(49, a1.1), (50, a1.2)]), g) 23 [(0, .ref 49), (1, .int a), (2, .int b), (3, .int c), (4, .int d_), (5, .int e), (6, .int (nI k1))] [] Q) (fX10_feed_1 a b c d_ e) 20 ((upd (h 49) (0) 0), (h 50)) ?_ ?_ ht
    · intro k1 hk1 ih1
      generalize jj_fo _ k1 _ = a1 at ih1 ⊢
      try dsimp only at ih1 ⊢
      intro hi1
      refine rr_iload 6 rfl dX10_feed_23 ?_
      refine rr_bipush 20 rfl dX10_feed_25 ?_
      refine rr_icmp_ge dX10_feed_27 (fun c => absurd c (nI_ge (a := k1) (b := 20) (by omega) (by omega))) (fun _ => ?_)
      refine rr_iload 6 rfl dX10_feed_30 ?_
      refine rr_iconst 4 rfl dX10_feed_32 ?_
      refine rr_icmp_ge dX10_feed_33 (fun c2 => ?_) (fun c2 => ?_)
      · skip
        refine rr_iload 6 rfl dX10_feed_40 ?_
        refine rr_bipush 8 rfl dX10_feed_42 ?_
        refine rr_icmp_ge dX10_feed_44 (fun c3 => ?_) (fun c3 => ?_)
        · skip
          refine rr_iload 6 rfl dX10_feed_51 ?_
          refine rr_bipush 12 rfl dX10_feed_53 ?_
          refine rr_icmp_ge dX10_feed_55 (fun c4 => ?_) (fun c4 => ?_)
          · skip
            refine rr_iload 6 rfl dX10_feed_62 ?_
            refine rr_bipush 16 rfl dX10_feed_64 ?_
            refine rr_icmp_ge dX10_feed_66 (fun c5 => ?_) (fun c5 => ?_)
            · skip
              refine rr_iload 5 rfl dX10_feed_74 ?_
              refine rr_istore [(0, .ref 49), (1, .int a), (2, .int b), (3, .int c), (4, .int d_), (5, .int e), (6, .int (nI k1)), (7, .int e)] dX10_feed_76 (by decide) rfl ?_
              refine rr_aload_n 0 rfl rfl dX10_feed_78 ?_
              refine rr_getR dX10_feed_79 fX10_13 lo_49 sh_49 rfl ?_
              refine rr_aload_n 0 rfl rfl dX10_feed_82 ?_
              refine rr_getI dX10_feed_83 fX10_98 lo_49 sh_49 rfl ?_
              rw [show (jj_rs h [(49, a1.1), (50, a1.2)]) 49 = a1.1 from rfl]
              refine rr_iload 7 rfl dX10_feed_86 ?_
              refine rr_bipush 24 rfl dX10_feed_88 ?_
              refine rr_bipush 8 rfl dX10_feed_90 ?_
              refine rr_iload 6 rfl dX10_feed_92 ?_
              refine rr_iconst 4 rfl dX10_feed_94 ?_
              refine rr_irem (by first | assumption | exact jj_pM hn (by assumption) | exact jj_pM hn (jj_two (by assumption)).1 | exact jj_pM hn (jj_two (by assumption)).2 | decide | omega) dX10_feed_95 ?_
              refine rr_imul dX10_feed_96 ?_
              refine rr_isub dX10_feed_97 ?_
              refine rr_ishr dX10_feed_98 ?_
              refine rr_sipush 255 rfl dX10_feed_99 ?_
              refine rr_iand dX10_feed_102 ?_
              refine rr_iastore dX10_feed_103 lo_50 sh_50 (jj_fd hi1 (by have := jj_room ht2 (by assumption); omega)) ?_
              rw [jj_rs_set (B := h) (L := [(49, a1.1), (50, a1.2)]) (L2 := [(49, a1.1), (50, (upd a1.2 (((a1.1 1) : Int32).toNatClampNeg) ((e >>> (((24 : Int32) - ((8 : Int32) * ((nI k1) - (nI k1) / 4 * 4))) &&& 31)) &&& 255)))]) (r := a1.2) rfl rfl]
              refine rr_aload_n 0 rfl rfl dX10_feed_104 ?_
              refine rr_dup rfl dX10_feed_105 ?_
              refine rr_getI dX10_feed_106 fX10_98 lo_49 sh_49 rfl ?_
              rw [show (jj_rs h [(49, a1.1), (50, (upd a1.2 (((a1.1 1) : Int32).toNatClampNeg) ((e >>> (((24 : Int32) - ((8 : Int32) * ((nI k1) - (nI k1) / 4 * 4))) &&& 31)) &&& 255)))]) 49 = a1.1 from rfl]
              refine rr_iconst 1 rfl dX10_feed_109 ?_
              refine rr_iadd dX10_feed_110 ?_
              refine rr_putI dX10_feed_111 fX10_98 ni10_1 lo_49 sh_49 rfl ?_
              rw [jj_rs_set (B := h) (L := [(49, a1.1), (50, (upd a1.2 (((a1.1 1) : Int32).toNatClampNeg) ((e >>> (((24 : Int32) - ((8 : Int32) * ((nI k1) - (nI k1) / 4 * 4))) &&& 31)) &&& 255)))]) (L2 := [(49, (upd a1.1 (1) ((a1.1 1) + 1))), (50, (upd a1.2 (((a1.1 1) : Int32).toNatClampNeg) ((e >>> (((24 : Int32) - ((8 : Int32) * ((nI k1) - (nI k1) / 4 * 4))) &&& 31)) &&& 255)))]) (r := a1.1) rfl rfl]
              refine rr_iinc 6 1 [(0, .ref 49), (1, .int a), (2, .int b), (3, .int c), (4, .int d_), (5, .int e), (6, .int ((nI k1) + 1)), (7, .int e)] dX10_feed_114 rfl rfl (by decide) rfl ?_
              refine rr_goto dX10_feed_117 ?_
              try simp only [(nI_clamp (show k1 < 2 ^ 31 by omega))] at c2
              try simp only [(nI_clamp (show k1 < 2 ^ 31 by omega))] at c3
              try simp only [(nI_clamp (show k1 < 2 ^ 31 by omega))] at c4
              try simp only [(nI_clamp (show k1 < 2 ^ 31 by omega))] at c5
              refine rr_drop (ls := [(0, .ref 49), (1, .int a), (2, .int b), (3, .int c), (4, .int d_), (5, .int e), (6, .int ((nI k1) + 1))]) [0, 1, 2, 3, 4, 5, 6] rfl ?_
              simp only [(nI_clamp (show k1 < 2 ^ 31 by omega)), fX10_feed_1, if_pos c2, if_pos c3, if_pos c4, if_pos c5] at ih1
              simpa only [nI_1, (nI_clamp (show k1 < 2 ^ 31 by omega)), fX10_feed_1, if_pos c2, if_pos c3, if_pos c4, if_pos c5] using ih1 (jj_fd1 hi1)
            · skip
              refine rr_iload 4 rfl dX10_feed_69 ?_
              refine rr_goto dX10_feed_71 ?_
              refine rr_istore [(0, .ref 49), (1, .int a), (2, .int b), (3, .int c), (4, .int d_), (5, .int e), (6, .int (nI k1)), (7, .int d_)] dX10_feed_76 (by decide) rfl ?_
              refine rr_aload_n 0 rfl rfl dX10_feed_78 ?_
              refine rr_getR dX10_feed_79 fX10_13 lo_49 sh_49 rfl ?_
              refine rr_aload_n 0 rfl rfl dX10_feed_82 ?_
              refine rr_getI dX10_feed_83 fX10_98 lo_49 sh_49 rfl ?_
              rw [show (jj_rs h [(49, a1.1), (50, a1.2)]) 49 = a1.1 from rfl]
              refine rr_iload 7 rfl dX10_feed_86 ?_
              refine rr_bipush 24 rfl dX10_feed_88 ?_
              refine rr_bipush 8 rfl dX10_feed_90 ?_
              refine rr_iload 6 rfl dX10_feed_92 ?_
              refine rr_iconst 4 rfl dX10_feed_94 ?_
              refine rr_irem (by first | assumption | exact jj_pM hn (by assumption) | exact jj_pM hn (jj_two (by assumption)).1 | exact jj_pM hn (jj_two (by assumption)).2 | decide | omega) dX10_feed_95 ?_
              refine rr_imul dX10_feed_96 ?_
              refine rr_isub dX10_feed_97 ?_
              refine rr_ishr dX10_feed_98 ?_
              refine rr_sipush 255 rfl dX10_feed_99 ?_
              refine rr_iand dX10_feed_102 ?_
              refine rr_iastore dX10_feed_103 lo_50 sh_50 (jj_fd hi1 (by have := jj_room ht2 (by assumption); omega)) ?_
              rw [jj_rs_set (B := h) (L := [(49, a1.1), (50, a1.2)]) (L2 := [(49, a1.1), (50, (upd a1.2 (((a1.1 1) : Int32).toNatClampNeg) ((d_ >>> (((24 : Int32) - ((8 : Int32) * ((nI k1) - (nI k1) / 4 * 4))) &&& 31)) &&& 255)))]) (r := a1.2) rfl rfl]
              refine rr_aload_n 0 rfl rfl dX10_feed_104 ?_
              refine rr_dup rfl dX10_feed_105 ?_
              refine rr_getI dX10_feed_106 fX10_98 lo_49 sh_49 rfl ?_
              rw [show (jj_rs h [(49, a1.1), (50, (upd a1.2 (((a1.1 1) : Int32).toNatClampNeg) ((d_ >>> (((24 : Int32) - ((8 : Int32) * ((nI k1) - (nI k1) / 4 * 4))) &&& 31)) &&& 255)))]) 49 = a1.1 from rfl]
              refine rr_iconst 1 rfl dX10_feed_109 ?_
              refine rr_iadd dX10_feed_110 ?_
              refine rr_putI dX10_feed_111 fX10_98 ni10_1 lo_49 sh_49 rfl ?_
              rw [jj_rs_set (B := h) (L := [(49, a1.1), (50, (upd a1.2 (((a1.1 1) : Int32).toNatClampNeg) ((d_ >>> (((24 : Int32) - ((8 : Int32) * ((nI k1) - (nI k1) / 4 * 4))) &&& 31)) &&& 255)))]) (L2 := [(49, (upd a1.1 (1) ((a1.1 1) + 1))), (50, (upd a1.2 (((a1.1 1) : Int32).toNatClampNeg) ((d_ >>> (((24 : Int32) - ((8 : Int32) * ((nI k1) - (nI k1) / 4 * 4))) &&& 31)) &&& 255)))]) (r := a1.1) rfl rfl]
              refine rr_iinc 6 1 [(0, .ref 49), (1, .int a), (2, .int b), (3, .int c), (4, .int d_), (5, .int e), (6, .int ((nI k1) + 1)), (7, .int d_)] dX10_feed_114 rfl rfl (by decide) rfl ?_
              refine rr_goto dX10_feed_117 ?_
              try simp only [(nI_clamp (show k1 < 2 ^ 31 by omega))] at c2
              try simp only [(nI_clamp (show k1 < 2 ^ 31 by omega))] at c3
              try simp only [(nI_clamp (show k1 < 2 ^ 31 by omega))] at c4
              try simp only [(nI_clamp (show k1 < 2 ^ 31 by omega))] at c5
              refine rr_drop (ls := [(0, .ref 49), (1, .int a), (2, .int b), (3, .int c), (4, .int d_), (5, .int e), (6, .int ((nI k1) + 1))]) [0, 1, 2, 3, 4, 5, 6] rfl ?_
              simp only [(nI_clamp (show k1 < 2 ^ 31 by omega)), fX10_feed_1, if_pos c2, if_pos c3, if_pos c4, if_neg c5] at ih1
              simpa only [nI_1, (nI_clamp (show k1 < 2 ^ 31 by omega)), fX10_feed_1, if_pos c2, if_pos c3, if_pos c4, if_neg c5] using ih1 (jj_fd1 hi1)
          · skip
            refine rr_iload_n 3 rfl rfl dX10_feed_58 ?_
            refine rr_goto dX10_feed_59 ?_
            refine rr_istore [(0, .ref 49), (1, .int a), (2, .int b), (3, .int c), (4, .int d_), (5, .int e), (6, .int (nI k1)), (7, .int c)] dX10_feed_76 (by decide) rfl ?_
            refine rr_aload_n 0 rfl rfl dX10_feed_78 ?_
            refine rr_getR dX10_feed_79 fX10_13 lo_49 sh_49 rfl ?_
            refine rr_aload_n 0 rfl rfl dX10_feed_82 ?_
            refine rr_getI dX10_feed_83 fX10_98 lo_49 sh_49 rfl ?_
            rw [show (jj_rs h [(49, a1.1), (50, a1.2)]) 49 = a1.1 from rfl]
            refine rr_iload 7 rfl dX10_feed_86 ?_
            refine rr_bipush 24 rfl dX10_feed_88 ?_
            refine rr_bipush 8 rfl dX10_feed_90 ?_
            refine rr_iload 6 rfl dX10_feed_92 ?_
            refine rr_iconst 4 rfl dX10_feed_94 ?_
            refine rr_irem (by first | assumption | exact jj_pM hn (by assumption) | exact jj_pM hn (jj_two (by assumption)).1 | exact jj_pM hn (jj_two (by assumption)).2 | decide | omega) dX10_feed_95 ?_
            refine rr_imul dX10_feed_96 ?_
            refine rr_isub dX10_feed_97 ?_
            refine rr_ishr dX10_feed_98 ?_
            refine rr_sipush 255 rfl dX10_feed_99 ?_
            refine rr_iand dX10_feed_102 ?_
            refine rr_iastore dX10_feed_103 lo_50 sh_50 (jj_fd hi1 (by have := jj_room ht2 (by assumption); omega)) ?_
            rw [jj_rs_set (B := h) (L := [(49, a1.1), (50, a1.2)]) (L2 := [(49, a1.1), (50, (upd a1.2 (((a1.1 1) : Int32).toNatClampNeg) ((c >>> (((24 : Int32) - ((8 : Int32) * ((nI k1) - (nI k1) / 4 * 4))) &&& 31)) &&& 255)))]) (r := a1.2) rfl rfl]
            refine rr_aload_n 0 rfl rfl dX10_feed_104 ?_
            refine rr_dup rfl dX10_feed_105 ?_
            refine rr_getI dX10_feed_106 fX10_98 lo_49 sh_49 rfl ?_
            rw [show (jj_rs h [(49, a1.1), (50, (upd a1.2 (((a1.1 1) : Int32).toNatClampNeg) ((c >>> (((24 : Int32) - ((8 : Int32) * ((nI k1) - (nI k1) / 4 * 4))) &&& 31)) &&& 255)))]) 49 = a1.1 from rfl]
            refine rr_iconst 1 rfl dX10_feed_109 ?_
            refine rr_iadd dX10_feed_110 ?_
            refine rr_putI dX10_feed_111 fX10_98 ni10_1 lo_49 sh_49 rfl ?_
            rw [jj_rs_set (B := h) (L := [(49, a1.1), (50, (upd a1.2 (((a1.1 1) : Int32).toNatClampNeg) ((c >>> (((24 : Int32) - ((8 : Int32) * ((nI k1) - (nI k1) / 4 * 4))) &&& 31)) &&& 255)))]) (L2 := [(49, (upd a1.1 (1) ((a1.1 1) + 1))), (50, (upd a1.2 (((a1.1 1) : Int32).toNatClampNeg) ((c >>> (((24 : Int32) - ((8 : Int32) * ((nI k1) - (nI k1) / 4 * 4))) &&& 31)) &&& 255)))]) (r := a1.1) rfl rfl]
            refine rr_iinc 6 1 [(0, .ref 49), (1, .int a), (2, .int b), (3, .int c), (4, .int d_), (5, .int e), (6, .int ((nI k1) + 1)), (7, .int c)] dX10_feed_114 rfl rfl (by decide) rfl ?_
            refine rr_goto dX10_feed_117 ?_
            try simp only [(nI_clamp (show k1 < 2 ^ 31 by omega))] at c2
            try simp only [(nI_clamp (show k1 < 2 ^ 31 by omega))] at c3
            try simp only [(nI_clamp (show k1 < 2 ^ 31 by omega))] at c4
            refine rr_drop (ls := [(0, .ref 49), (1, .int a), (2, .int b), (3, .int c), (4, .int d_), (5, .int e), (6, .int ((nI k1) + 1))]) [0, 1, 2, 3, 4, 5, 6] rfl ?_
            simp only [(nI_clamp (show k1 < 2 ^ 31 by omega)), fX10_feed_1, if_pos c2, if_pos c3, if_neg c4] at ih1
            simpa only [nI_1, (nI_clamp (show k1 < 2 ^ 31 by omega)), fX10_feed_1, if_pos c2, if_pos c3, if_neg c4] using ih1 (jj_fd1 hi1)
        · skip
          refine rr_iload_n 2 rfl rfl dX10_feed_47 ?_
          refine rr_goto dX10_feed_48 ?_
          refine rr_istore [(0, .ref 49), (1, .int a), (2, .int b), (3, .int c), (4, .int d_), (5, .int e), (6, .int (nI k1)), (7, .int b)] dX10_feed_76 (by decide) rfl ?_
          refine rr_aload_n 0 rfl rfl dX10_feed_78 ?_
          refine rr_getR dX10_feed_79 fX10_13 lo_49 sh_49 rfl ?_
          refine rr_aload_n 0 rfl rfl dX10_feed_82 ?_
          refine rr_getI dX10_feed_83 fX10_98 lo_49 sh_49 rfl ?_
          rw [show (jj_rs h [(49, a1.1), (50, a1.2)]) 49 = a1.1 from rfl]
          refine rr_iload 7 rfl dX10_feed_86 ?_
          refine rr_bipush 24 rfl dX10_feed_88 ?_
          refine rr_bipush 8 rfl dX10_feed_90 ?_
          refine rr_iload 6 rfl dX10_feed_92 ?_
          refine rr_iconst 4 rfl dX10_feed_94 ?_
          refine rr_irem (by first | assumption | exact jj_pM hn (by assumption) | exact jj_pM hn (jj_two (by assumption)).1 | exact jj_pM hn (jj_two (by assumption)).2 | decide | omega) dX10_feed_95 ?_
          refine rr_imul dX10_feed_96 ?_
          refine rr_isub dX10_feed_97 ?_
          refine rr_ishr dX10_feed_98 ?_
          refine rr_sipush 255 rfl dX10_feed_99 ?_
          refine rr_iand dX10_feed_102 ?_
          refine rr_iastore dX10_feed_103 lo_50 sh_50 (jj_fd hi1 (by have := jj_room ht2 (by assumption); omega)) ?_
          rw [jj_rs_set (B := h) (L := [(49, a1.1), (50, a1.2)]) (L2 := [(49, a1.1), (50, (upd a1.2 (((a1.1 1) : Int32).toNatClampNeg) ((b >>> (((24 : Int32) - ((8 : Int32) * ((nI k1) - (nI k1) / 4 * 4))) &&& 31)) &&& 255)))]) (r := a1.2) rfl rfl]
          refine rr_aload_n 0 rfl rfl dX10_feed_104 ?_
          refine rr_dup rfl dX10_feed_105 ?_
          refine rr_getI dX10_feed_106 fX10_98 lo_49 sh_49 rfl ?_
          rw [show (jj_rs h [(49, a1.1), (50, (upd a1.2 (((a1.1 1) : Int32).toNatClampNeg) ((b >>> (((24 : Int32) - ((8 : Int32) * ((nI k1) - (nI k1) / 4 * 4))) &&& 31)) &&& 255)))]) 49 = a1.1 from rfl]
          refine rr_iconst 1 rfl dX10_feed_109 ?_
          refine rr_iadd dX10_feed_110 ?_
          refine rr_putI dX10_feed_111 fX10_98 ni10_1 lo_49 sh_49 rfl ?_
          rw [jj_rs_set (B := h) (L := [(49, a1.1), (50, (upd a1.2 (((a1.1 1) : Int32).toNatClampNeg) ((b >>> (((24 : Int32) - ((8 : Int32) * ((nI k1) - (nI k1) / 4 * 4))) &&& 31)) &&& 255)))]) (L2 := [(49, (upd a1.1 (1) ((a1.1 1) + 1))), (50, (upd a1.2 (((a1.1 1) : Int32).toNatClampNeg) ((b >>> (((24 : Int32) - ((8 : Int32) * ((nI k1) - (nI k1) / 4 * 4))) &&& 31)) &&& 255)))]) (r := a1.1) rfl rfl]
          refine rr_iinc 6 1 [(0, .ref 49), (1, .int a), (2, .int b), (3, .int c), (4, .int d_), (5, .int e), (6, .int ((nI k1) + 1)), (7, .int b)] dX10_feed_114 rfl rfl (by decide) rfl ?_
          refine rr_goto dX10_feed_117 ?_
          try simp only [(nI_clamp (show k1 < 2 ^ 31 by omega))] at c2
          try simp only [(nI_clamp (show k1 < 2 ^ 31 by omega))] at c3
          refine rr_drop (ls := [(0, .ref 49), (1, .int a), (2, .int b), (3, .int c), (4, .int d_), (5, .int e), (6, .int ((nI k1) + 1))]) [0, 1, 2, 3, 4, 5, 6] rfl ?_
          simp only [(nI_clamp (show k1 < 2 ^ 31 by omega)), fX10_feed_1, if_pos c2, if_neg c3] at ih1
          simpa only [nI_1, (nI_clamp (show k1 < 2 ^ 31 by omega)), fX10_feed_1, if_pos c2, if_neg c3] using ih1 (jj_fd1 hi1)
      · skip
        refine rr_iload_n 1 rfl rfl dX10_feed_36 ?_
        refine rr_goto dX10_feed_37 ?_
        refine rr_istore [(0, .ref 49), (1, .int a), (2, .int b), (3, .int c), (4, .int d_), (5, .int e), (6, .int (nI k1)), (7, .int a)] dX10_feed_76 (by decide) rfl ?_
        refine rr_aload_n 0 rfl rfl dX10_feed_78 ?_
        refine rr_getR dX10_feed_79 fX10_13 lo_49 sh_49 rfl ?_
        refine rr_aload_n 0 rfl rfl dX10_feed_82 ?_
        refine rr_getI dX10_feed_83 fX10_98 lo_49 sh_49 rfl ?_
        rw [show (jj_rs h [(49, a1.1), (50, a1.2)]) 49 = a1.1 from rfl]
        refine rr_iload 7 rfl dX10_feed_86 ?_
        refine rr_bipush 24 rfl dX10_feed_88 ?_
        refine rr_bipush 8 rfl dX10_feed_90 ?_
        refine rr_iload 6 rfl dX10_feed_92 ?_
        refine rr_iconst 4 rfl dX10_feed_94 ?_
        refine rr_irem (by first | assumption | exact jj_pM hn (by assumption) | exact jj_pM hn (jj_two (by assumption)).1 | exact jj_pM hn (jj_two (by assumption)).2 | decide | omega) dX10_feed_95 ?_
        refine rr_imul dX10_feed_96 ?_
        refine rr_isub dX10_feed_97 ?_
        refine rr_ishr dX10_feed_98 ?_
        refine rr_sipush 255 rfl dX10_feed_99 ?_
        refine rr_iand dX10_feed_102 ?_
        refine rr_iastore dX10_feed_103 lo_50 sh_50 (jj_fd hi1 (by have := jj_room ht2 (by assumption); omega)) ?_
        rw [jj_rs_set (B := h) (L := [(49, a1.1), (50, a1.2)]) (L2 := [(49, a1.1), (50, (upd a1.2 (((a1.1 1) : Int32).toNatClampNeg) ((a >>> (((24 : Int32) - ((8 : Int32) * ((nI k1) - (nI k1) / 4 * 4))) &&& 31)) &&& 255)))]) (r := a1.2) rfl rfl]
        refine rr_aload_n 0 rfl rfl dX10_feed_104 ?_
        refine rr_dup rfl dX10_feed_105 ?_
        refine rr_getI dX10_feed_106 fX10_98 lo_49 sh_49 rfl ?_
        rw [show (jj_rs h [(49, a1.1), (50, (upd a1.2 (((a1.1 1) : Int32).toNatClampNeg) ((a >>> (((24 : Int32) - ((8 : Int32) * ((nI k1) - (nI k1) / 4 * 4))) &&& 31)) &&& 255)))]) 49 = a1.1 from rfl]
        refine rr_iconst 1 rfl dX10_feed_109 ?_
        refine rr_iadd dX10_feed_110 ?_
        refine rr_putI dX10_feed_111 fX10_98 ni10_1 lo_49 sh_49 rfl ?_
        rw [jj_rs_set (B := h) (L := [(49, a1.1), (50, (upd a1.2 (((a1.1 1) : Int32).toNatClampNeg) ((a >>> (((24 : Int32) - ((8 : Int32) * ((nI k1) - (nI k1) / 4 * 4))) &&& 31)) &&& 255)))]) (L2 := [(49, (upd a1.1 (1) ((a1.1 1) + 1))), (50, (upd a1.2 (((a1.1 1) : Int32).toNatClampNeg) ((a >>> (((24 : Int32) - ((8 : Int32) * ((nI k1) - (nI k1) / 4 * 4))) &&& 31)) &&& 255)))]) (r := a1.1) rfl rfl]
        refine rr_iinc 6 1 [(0, .ref 49), (1, .int a), (2, .int b), (3, .int c), (4, .int d_), (5, .int e), (6, .int ((nI k1) + 1)), (7, .int a)] dX10_feed_114 rfl rfl (by decide) rfl ?_
        refine rr_goto dX10_feed_117 ?_
        try simp only [(nI_clamp (show k1 < 2 ^ 31 by omega))] at c2
        refine rr_drop (ls := [(0, .ref 49), (1, .int a), (2, .int b), (3, .int c), (4, .int d_), (5, .int e), (6, .int ((nI k1) + 1))]) [0, 1, 2, 3, 4, 5, 6] rfl ?_
        simp only [(nI_clamp (show k1 < 2 ^ 31 by omega)), fX10_feed_1, if_neg c2] at ih1
        simpa only [nI_1, (nI_clamp (show k1 < 2 ^ 31 by omega)), fX10_feed_1, if_neg c2] using ih1 (jj_fd1 hi1)
    · try dsimp only
      intro hi1
      refine rr_iload 6 rfl dX10_feed_23 ?_
      refine rr_bipush 20 rfl dX10_feed_25 ?_
      refine rr_icmp_ge dX10_feed_27 (fun _ => ?_) (fun c => absurd (jj_le_rf _) c)
      refine rr_aload_n 0 rfl rfl dX10_feed_120 ?_
      refine rr_getI dX10_feed_121 fX10_98 lo_49 sh_49 rfl ?_
      rw [show (jj_rs h [(49, (jj_fo (fX10_feed_1 a b c d_ e) 20 ((upd (h 49) (0) 0), (h 50))).1), (50, (jj_fo (fX10_feed_1 a b c d_ e) 20 ((upd (h 49) (0) 0), (h 50))).2)]) 49 = (jj_fo (fX10_feed_1 a b c d_ e) 20 ((upd (h 49) (0) 0), (h 50))).1 from rfl]
      refine rr_ireturn dX10_feed_124 rfl ?_
      simpa only [vX10_feed, rX10_feed_49, rX10_feed_50, if_pos c1] using kq
  · skip
    refine rr_iconst (-1) rfl dX10_feed_18 ?_
    refine rr_ireturn dX10_feed_19 rfl ?_
    refine jj_Qh (jj_rs_add (B := h) (L := [(49, (upd (h 49) (0) 0))]) (L2 := [(49, (upd (h 49) (0) 0)), (50, (h 50))]) (o := 50) (r := (h 50)) rfl rfl) ?_
    simpa only [vX10_feed, rX10_feed_49, rX10_feed_50, if_neg c1] using kq
