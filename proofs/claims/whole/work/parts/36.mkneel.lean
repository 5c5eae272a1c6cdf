/-- heaps alike for gives: all but the rows that it writes -/
def gvok (h h2 : Nat → Nat → Int32) (n m : Nat) : Prop := h2 53 0 = nI n ∧ h2 49 17 = nI m ∧ h2 8 = h 8 ∧ h2 73 = h 73 ∧ h2 497 = h 497 ∧ jj_gd h2 64 8 = jj_gd h 64 8 ∧ jj_gd h2 75 160 = jj_gd h 75 160
def fgv0_1 (r777 : Nat → Int32) (k1 : Nat) (a1 : (Nat → Int32)) : (Nat → Int32) := (upd a1 (k1) (r777 k1))
def fgv0_2 (r777 : Nat → Int32) (k2 : Nat) (a2 : (Nat → Int32)) : (Nat → Int32) := (upd a2 (k2) (r777 k2))
def rgv0_49 (r49 : Nat → Int32) (r777 : Nat → Int32) (r778 : Nat → Int32) (v : Int32) (w : Int32) : Nat → Int32 := (if v < (r49 41) then r49 else (if v = (r49 41) then (if (r49 42) < w then (upd (upd r49 (41) v) (42) w) else r49) else (upd (upd r49 (41) v) (42) w)))
def rgv0_778 (r49 : Nat → Int32) (r777 : Nat → Int32) (r778 : Nat → Int32) (v : Int32) (w : Int32) : Nat → Int32 := (if v < (r49 41) then r778 else (if v = (r49 41) then (if (r49 42) < w then (jj_fo (fgv0_2 r777) 8 r778) else r778) else (jj_fo (fgv0_1 r777) 8 r778)))
set_option maxHeartbeats 1000000 in
theorem sp_gv0 {d kc ks : Nat} {h : Nat → Nat → Int32} {g : Nat → Nat → Int64} {Q : jj_Rs → jj_St → Prop} {n : Nat} {v : Int32} {w : Int32} {b : Int32} (hT : h 53 0 = nI n) (hn : n ≤ 8) (kq : Q (.inl none) (jj_S, 782, (jj_rs h [(49, (rgv0_49 (h 49) (h 777) (h 778) v w)), (778, (rgv0_778 (h 49) (h 777) (h 778) v w))]), g)) : jj_R mX10_gives (d + 0) kc ks (jj_S, 782, h, g) 0 [(0, .ref 49), (1, .int (nI n)), (2, .int v), (3, .int w), (4, .int b)] [] Q := by
  refine rr_iload_n 1 rfl rfl dX10_gives_0 ?_
  refine rr_aload_n 0 rfl rfl dX10_gives_1 ?_
  refine rr_getR dX10_gives_2 fX10_23 lo_49 sh_49 rfl ?_
  refine rr_iconst 0 rfl dX10_gives_5 ?_
  refine rr_iaload dX10_gives_6 lo_53 sh_53 (jj_inL rfl) ?_
  rw [show (h 53) (0 : Int32).toNatClampNeg = (nI n) from hT]
  refine rr_icmp_ne dX10_gives_7 (fun c => absurd c (by exact fun q => q rfl)) (fun _ => ?_)
  refine rr_iload_n 2 rfl rfl dX10_gives_10 ?_
  refine rr_aload_n 0 rfl rfl dX10_gives_11 ?_
  refine rr_getI dX10_gives_12 fX10_336 lo_49 sh_49 rfl ?_
  refine rr_icmp_lt dX10_gives_15 (fun c1 => ?_) (fun c1 => ?_)
  · skip
    refine rr_return dX10_gives_34 rfl ?_
    refine jj_Qh (jj_addr (B := h) (o := 49) (r := (h 49)) rfl) ?_
    refine jj_Qh (jj_rs_add (B := h) (L := [(49, (h 49))]) (L2 := [(49, (h 49)), (778, (h 778))]) (o := 778) (r := (h 778)) rfl rfl) ?_
    simpa only [rgv0_49, rgv0_778, if_pos c1] using kq
  · skip
    refine rr_iload_n 2 rfl rfl dX10_gives_18 ?_
    refine rr_aload_n 0 rfl rfl dX10_gives_19 ?_
    refine rr_getI dX10_gives_20 fX10_336 lo_49 sh_49 rfl ?_
    refine rr_icmp_ne dX10_gives_23 (fun c2 => ?_) (fun c2 => ?_)
    · skip
      refine rr_aload_n 0 rfl rfl dX10_gives_35 ?_
      refine rr_iload_n 2 rfl rfl dX10_gives_36 ?_
      refine rr_putI dX10_gives_37 fX10_336 ni10_41 lo_49 sh_49 rfl ?_
      rw [jj_rs_set0 (B := h) (o := 49) (r := (h 49)) rfl]
      refine rr_aload_n 0 rfl rfl dX10_gives_40 ?_
      refine rr_iload_n 3 rfl rfl dX10_gives_41 ?_
      refine rr_putI dX10_gives_42 fX10_339 ni10_42 lo_49 sh_49 rfl ?_
      rw [jj_rs_set (B := h) (L := [(49, (upd (h 49) (41) v))]) (L2 := [(49, (upd (upd (h 49) (41) v) (42) w))]) (r := (upd (h 49) (41) v)) rfl rfl]
      refine rr_iconst 0 rfl dX10_gives_45 ?_
      refine rr_istore [(0, .ref 49), (1, .int (nI n)), (2, .int v), (3, .int w), (4, .int b), (5, .int 0)] dX10_gives_46 (by decide) rfl ?_
      refine jj_Rh (jj_rs_add (B := h) (L := [(49, (upd (upd (h 49) (41) v) (42) w))]) (L2 := [(49, (upd (upd (h 49) (41) v) (42) w)), (778, (h 778))]) (o := 778) (r := (h 778)) rfl rfl) ?_
      refine jj_for (fun k1 (a1 : (Nat → Int32)) => jj_R _ _ kc ks (jj_S, 782, (jj_rs h [(49, (upd (upd (h 49) (41) v) (42) w)), (778, a1)]), g) 48 [(0, .ref 49), (1, .int (nI n)), (2, .int v), (3, .int w), (4, .int b), (5, .int (nI k1))] [] Q) (fgv0_1 (h 777)) 8 (h 778) ?_ ?_
      · intro k1 hk1 ih1
        generalize jj_fo _ k1 _ = a1 at ih1 ⊢
        try dsimp only at ih1 ⊢
        refine rr_iload 5 rfl dX10_gives_48 ?_
        refine rr_bipush 8 rfl dX10_gives_50 ?_
        refine rr_icmp_ge dX10_gives_52 (fun c => absurd c (nI_ge (a := k1) (b := 8) (by omega) (by omega))) (fun _ => ?_)
        refine rr_aload_n 0 rfl rfl dX10_gives_55 ?_
        refine rr_getR dX10_gives_56 fX10_79 lo_49 sh_49 rfl ?_
        refine rr_iload 5 rfl dX10_gives_59 ?_
        refine rr_aload_n 0 rfl rfl dX10_gives_61 ?_
        refine rr_getR dX10_gives_62 fX10_76 lo_49 sh_49 rfl ?_
        refine rr_iload 5 rfl dX10_gives_65 ?_
        refine rr_iaload dX10_gives_67 lo_777 sh_777 (vp_in_nI (by omega) (by decide)) ?_
        rw [show (jj_rs h [(49, (upd (upd (h 49) (41) v) (42) w)), (778, a1)]) 777 = h 777 from rfl]
        refine rr_iastore dX10_gives_68 lo_778 sh_778 (vp_in_nI (by omega) (by decide)) ?_
        rw [jj_rs_set (B := h) (L := [(49, (upd (upd (h 49) (41) v) (42) w)), (778, a1)]) (L2 := [(49, (upd (upd (h 49) (41) v) (42) w)), (778, (upd a1 (((nI k1) : Int32).toNatClampNeg) ((h 777) ((nI k1) : Int32).toNatClampNeg)))]) (r := a1) rfl rfl]
        refine rr_iinc 5 1 [(0, .ref 49), (1, .int (nI n)), (2, .int v), (3, .int w), (4, .int b), (5, .int ((nI k1) + 1))] dX10_gives_69 rfl rfl (by decide) rfl ?_
        refine rr_goto dX10_gives_72 ?_
        simpa only [nI_1, (nI_clamp (show k1 < 2 ^ 31 by omega)), fgv0_1] using ih1
      · try dsimp only
        refine rr_iload 5 rfl dX10_gives_48 ?_
        refine rr_bipush 8 rfl dX10_gives_50 ?_
        refine rr_icmp_ge dX10_gives_52 (fun _ => ?_) (fun c => absurd (jj_le_rf _) c)
        refine rr_return dX10_gives_75 rfl ?_
        simpa only [rgv0_49, rgv0_778, if_neg c1, if_neg c2] using kq
    · skip
      refine rr_iload_n 3 rfl rfl dX10_gives_26 ?_
      refine rr_aload_n 0 rfl rfl dX10_gives_27 ?_
      refine rr_getI dX10_gives_28 fX10_339 lo_49 sh_49 rfl ?_
      refine rr_icmp_gt dX10_gives_31 (fun c3 => ?_) (fun c3 => ?_)
      · skip
        refine rr_aload_n 0 rfl rfl dX10_gives_35 ?_
        refine rr_iload_n 2 rfl rfl dX10_gives_36 ?_
        refine rr_putI dX10_gives_37 fX10_336 ni10_41 lo_49 sh_49 rfl ?_
        rw [jj_rs_set0 (B := h) (o := 49) (r := (h 49)) rfl]
        refine rr_aload_n 0 rfl rfl dX10_gives_40 ?_
        refine rr_iload_n 3 rfl rfl dX10_gives_41 ?_
        refine rr_putI dX10_gives_42 fX10_339 ni10_42 lo_49 sh_49 rfl ?_
        rw [jj_rs_set (B := h) (L := [(49, (upd (h 49) (41) v))]) (L2 := [(49, (upd (upd (h 49) (41) v) (42) w))]) (r := (upd (h 49) (41) v)) rfl rfl]
        refine rr_iconst 0 rfl dX10_gives_45 ?_
        refine rr_istore [(0, .ref 49), (1, .int (nI n)), (2, .int v), (3, .int w), (4, .int b), (5, .int 0)] dX10_gives_46 (by decide) rfl ?_
        refine jj_Rh (jj_rs_add (B := h) (L := [(49, (upd (upd (h 49) (41) v) (42) w))]) (L2 := [(49, (upd (upd (h 49) (41) v) (42) w)), (778, (h 778))]) (o := 778) (r := (h 778)) rfl rfl) ?_
        refine jj_for (fun k2 (a2 : (Nat → Int32)) => jj_R _ _ kc ks (jj_S, 782, (jj_rs h [(49, (upd (upd (h 49) (41) v) (42) w)), (778, a2)]), g) 48 [(0, .ref 49), (1, .int (nI n)), (2, .int v), (3, .int w), (4, .int b), (5, .int (nI k2))] [] Q) (fgv0_2 (h 777)) 8 (h 778) ?_ ?_
        · intro k2 hk2 ih2
          generalize jj_fo _ k2 _ = a2 at ih2 ⊢
          try dsimp only at ih2 ⊢
          refine rr_iload 5 rfl dX10_gives_48 ?_
          refine rr_bipush 8 rfl dX10_gives_50 ?_
          refine rr_icmp_ge dX10_gives_52 (fun c => absurd c (nI_ge (a := k2) (b := 8) (by omega) (by omega))) (fun _ => ?_)
          refine rr_aload_n 0 rfl rfl dX10_gives_55 ?_
          refine rr_getR dX10_gives_56 fX10_79 lo_49 sh_49 rfl ?_
          refine rr_iload 5 rfl dX10_gives_59 ?_
          refine rr_aload_n 0 rfl rfl dX10_gives_61 ?_
          refine rr_getR dX10_gives_62 fX10_76 lo_49 sh_49 rfl ?_
          refine rr_iload 5 rfl dX10_gives_65 ?_
          refine rr_iaload dX10_gives_67 lo_777 sh_777 (vp_in_nI (by omega) (by decide)) ?_
          rw [show (jj_rs h [(49, (upd (upd (h 49) (41) v) (42) w)), (778, a2)]) 777 = h 777 from rfl]
          refine rr_iastore dX10_gives_68 lo_778 sh_778 (vp_in_nI (by omega) (by decide)) ?_
          rw [jj_rs_set (B := h) (L := [(49, (upd (upd (h 49) (41) v) (42) w)), (778, a2)]) (L2 := [(49, (upd (upd (h 49) (41) v) (42) w)), (778, (upd a2 (((nI k2) : Int32).toNatClampNeg) ((h 777) ((nI k2) : Int32).toNatClampNeg)))]) (r := a2) rfl rfl]
          refine rr_iinc 5 1 [(0, .ref 49), (1, .int (nI n)), (2, .int v), (3, .int w), (4, .int b), (5, .int ((nI k2) + 1))] dX10_gives_69 rfl rfl (by decide) rfl ?_
          refine rr_goto dX10_gives_72 ?_
          simpa only [nI_1, (nI_clamp (show k2 < 2 ^ 31 by omega)), fgv0_2] using ih2
        · try dsimp only
          refine rr_iload 5 rfl dX10_gives_48 ?_
          refine rr_bipush 8 rfl dX10_gives_50 ?_
          refine rr_icmp_ge dX10_gives_52 (fun _ => ?_) (fun c => absurd (jj_le_rf _) c)
          refine rr_return dX10_gives_75 rfl ?_
          simpa only [rgv0_49, rgv0_778, if_neg c1, if_pos c2, if_pos c3] using kq
      · skip
        refine rr_return dX10_gives_34 rfl ?_
        refine jj_Qh (jj_addr (B := h) (o := 49) (r := (h 49)) rfl) ?_
        refine jj_Qh (jj_rs_add (B := h) (L := [(49, (h 49))]) (L2 := [(49, (h 49)), (778, (h 778))]) (o := 778) (r := (h 778)) rfl rfl) ?_
        simpa only [rgv0_49, rgv0_778, if_neg c1, if_pos c2, if_neg c3] using kq
def fgv1_1 (r8 : Nat → Int32) (r73 : Nat → Int32) (r497 : Nat → Int32) (g64 : Nat → Nat → Int32) (m : Nat) (K : Nat → Int32 → Int32 → Int32 → (Nat → Int32) → (Nat → Int32) → (Nat → Int32) → (Nat → Int32) × (Nat → Int32) × (Nat → Int32)) (P : Nat) (v : Int32) (w : Int32) (b : Int32) (k1 : Nat) (a1 : (Nat → Int32) × (Nat → Int32) × (Nat → Int32)) : Sum ((Nat → Int32) × (Nat → Int32) × (Nat → Int32)) ((Nat → Int32) × (Nat → Int32) × (Nat → Int32)) := (if (vX10_isLoose_n r497 (nI P)) = 0 then (.inr (a1.1, a1.2.1, a1.2.2)) else (if (vX10_has b (nI k1)) = 0 then (if (vX10_isHand_n r497 (nI k1) (nI P)) = 0 then (.inl (a1.1, a1.2.1, a1.2.2)) else (if 10 ≤ (vX10_holdOf_n r8 r73 r497 g64 m (nI k1) (nI P) 0) then (if (nI k1) = (nI P) then (.inl ((K (P + 1) (b ||| (1 <<< ((nI k1) &&& 31))) (v + 1) (w + (r497 33)) a1.1 (upd a1.2.1 (((nI P) : Int32).toNatClampNeg) (nI k1)) a1.2.2).1, (K (P + 1) (b ||| (1 <<< ((nI k1) &&& 31))) (v + 1) (w + (r497 33)) a1.1 (upd a1.2.1 (((nI P) : Int32).toNatClampNeg) (nI k1)) a1.2.2).2.1, (K (P + 1) (b ||| (1 <<< ((nI k1) &&& 31))) (v + 1) (w + (r497 33)) a1.1 (upd a1.2.1 (((nI P) : Int32).toNatClampNeg) (nI k1)) a1.2.2).2.2)) else (.inl ((K (P + 1) (b ||| (1 <<< ((nI k1) &&& 31))) (v + 1) (w + (r497 ((nI (0 + k1)) : Int32).toNatClampNeg)) a1.1 (upd a1.2.1 (((nI P) : Int32).toNatClampNeg) (nI k1)) a1.2.2).1, (K (P + 1) (b ||| (1 <<< ((nI k1) &&& 31))) (v + 1) (w + (r497 ((nI (0 + k1)) : Int32).toNatClampNeg)) a1.1 (upd a1.2.1 (((nI P) : Int32).toNatClampNeg) (nI k1)) a1.2.2).2.1, (K (P + 1) (b ||| (1 <<< ((nI k1) &&& 31))) (v + 1) (w + (r497 ((nI (0 + k1)) : Int32).toNatClampNeg)) a1.1 (upd a1.2.1 (((nI P) : Int32).toNatClampNeg) (nI k1)) a1.2.2).2.2))) else (.inl (a1.1, a1.2.1, a1.2.2)))) else (.inl (a1.1, a1.2.1, a1.2.2))))
def rgv1_49 (r8 : Nat → Int32) (r49 : Nat → Int32) (r73 : Nat → Int32) (r497 : Nat → Int32) (r777 : Nat → Int32) (r778 : Nat → Int32) (g64 : Nat → Nat → Int32) (n : Nat) (m : Nat) (K : Nat → Int32 → Int32 → Int32 → (Nat → Int32) → (Nat → Int32) → (Nat → Int32) → (Nat → Int32) × (Nat → Int32) × (Nat → Int32)) (P : Nat) (v : Int32) (w : Int32) (b : Int32) : Nat → Int32 := (Sum.elim (fun a1 => (K (P + 1) b v w a1.1 (upd a1.2.1 (((nI P) : Int32).toNatClampNeg) (-1)) a1.2.2).1) (fun r1_ => (K (P + 1) b v w r1_.1 (upd r1_.2.1 (((nI P) : Int32).toNatClampNeg) (-1)) r1_.2.2).1) (jj_fx (fgv1_1 r8 r73 r497 g64 m K P v w b) n (r49, (upd r777 (((nI P) : Int32).toNatClampNeg) (-1)), r778)))
def rgv1_777 (r8 : Nat → Int32) (r49 : Nat → Int32) (r73 : Nat → Int32) (r497 : Nat → Int32) (r777 : Nat → Int32) (r778 : Nat → Int32) (g64 : Nat → Nat → Int32) (n : Nat) (m : Nat) (K : Nat → Int32 → Int32 → Int32 → (Nat → Int32) → (Nat → Int32) → (Nat → Int32) → (Nat → Int32) × (Nat → Int32) × (Nat → Int32)) (P : Nat) (v : Int32) (w : Int32) (b : Int32) : Nat → Int32 := (Sum.elim (fun a1 => (K (P + 1) b v w a1.1 (upd a1.2.1 (((nI P) : Int32).toNatClampNeg) (-1)) a1.2.2).2.1) (fun r1_ => (K (P + 1) b v w r1_.1 (upd r1_.2.1 (((nI P) : Int32).toNatClampNeg) (-1)) r1_.2.2).2.1) (jj_fx (fgv1_1 r8 r73 r497 g64 m K P v w b) n (r49, (upd r777 (((nI P) : Int32).toNatClampNeg) (-1)), r778)))
def rgv1_778 (r8 : Nat → Int32) (r49 : Nat → Int32) (r73 : Nat → Int32) (r497 : Nat → Int32) (r777 : Nat → Int32) (r778 : Nat → Int32) (g64 : Nat → Nat → Int32) (n : Nat) (m : Nat) (K : Nat → Int32 → Int32 → Int32 → (Nat → Int32) → (Nat → Int32) → (Nat → Int32) → (Nat → Int32) × (Nat → Int32) × (Nat → Int32)) (P : Nat) (v : Int32) (w : Int32) (b : Int32) : Nat → Int32 := (Sum.elim (fun a1 => (K (P + 1) b v w a1.1 (upd a1.2.1 (((nI P) : Int32).toNatClampNeg) (-1)) a1.2.2).2.2) (fun r1_ => (K (P + 1) b v w r1_.1 (upd r1_.2.1 (((nI P) : Int32).toNatClampNeg) (-1)) r1_.2.2).2.2) (jj_fx (fgv1_1 r8 r73 r497 g64 m K P v w b) n (r49, (upd r777 (((nI P) : Int32).toNatClampNeg) (-1)), r778)))
set_option maxHeartbeats 1000000 in
theorem sp_gv1 {d kc ks : Nat} {h : Nat → Nat → Int32} {g : Nat → Nat → Int64} {Q : jj_Rs → jj_St → Prop} {n : Nat} {m : Nat} {K : Nat → Int32 → Int32 → Int32 → (Nat → Int32) → (Nat → Int32) → (Nat → Int32) → (Nat → Int32) × (Nat → Int32) × (Nat → Int32)} {P : Nat} {v : Int32} {w : Int32} {b : Int32} (hT : h 53 0 = nI n) (hn : n ≤ 8) (hM : h 49 17 = nI m) (hm2 : m ≤ 150) (hw : lawok (h 8) (jj_gd h 75 160) m) (hp : P < n) (hK : ∀ P b v w r49 r777 r778, (K P b v w r49 r777 r778).1 17 = r49 17) (ih : ∀ {kc ks : Nat} {h2 : Nat → Nat → Int32} {g : Nat → Nat → Int64} {Q : jj_Rs → jj_St → Prop} {b v w : Int32}, gvok h h2 n m → (∀ h9, jj_eq [414, 415] h2 h9 → Q (.inl none) (jj_S, 782, jj_rs h9 [(49, (K (P + 1) b v w (h2 49) (h2 777) (h2 778)).1), (777, (K (P + 1) b v w (h2 49) (h2 777) (h2 778)).2.1), (778, (K (P + 1) b v w (h2 49) (h2 777) (h2 778)).2.2)], g)) → jj_R mX10_gives (d + 6) kc ks (jj_S, 782, h2, g) 0 [(0, .ref 49), (1, .int (nI (P + 1))), (2, .int v), (3, .int w), (4, .int b)] [] Q) (kq : ∀ h9, jj_eq [414, 415] h h9 → Q (.inl none) (jj_S, 782, (jj_rs h9 [(49, (rgv1_49 (h 8) (h 49) (h 73) (h 497) (h 777) (h 778) (jj_gd h 64 8) n m K P v w b)), (777, (rgv1_777 (h 8) (h 49) (h 73) (h 497) (h 777) (h 778) (jj_gd h 64 8) n m K P v w b)), (778, (rgv1_778 (h 8) (h 49) (h 73) (h 497) (h 777) (h 778) (jj_gd h 64 8) n m K P v w b))]), g)) : jj_R mX10_gives (d + 7) kc ks (jj_S, 782, h, g) 0 [(0, .ref 49), (1, .int (nI P)), (2, .int v), (3, .int w), (4, .int b)] [] Q := by
  refine rr_iload_n 1 rfl rfl dX10_gives_0 ?_
  refine rr_aload_n 0 rfl rfl dX10_gives_1 ?_
  refine rr_getR dX10_gives_2 fX10_23 lo_49 sh_49 rfl ?_
  refine rr_iconst 0 rfl dX10_gives_5 ?_
  refine rr_iaload dX10_gives_6 lo_53 sh_53 (jj_inL rfl) ?_
  rw [show (h 53) (0 : Int32).toNatClampNeg = (nI n) from hT]
  refine rr_icmp_ne dX10_gives_7 (fun _ => ?_) (fun c => absurd c (fun q => absurd ((nI_eq (by omega) (by omega)).mp q) (by omega)))
  refine rr_aload_n 0 rfl rfl dX10_gives_76 ?_
  refine rr_getR dX10_gives_77 fX10_76 lo_49 sh_49 rfl ?_
  refine rr_iload_n 1 rfl rfl dX10_gives_80 ?_
  refine rr_iconst (-1) rfl dX10_gives_81 ?_
  refine rr_iastore dX10_gives_82 lo_777 sh_777 (vp_in_nI (by omega) (by decide)) ?_
  rw [jj_rs_set0 (B := h) (o := 777) (r := (h 777)) rfl]
  refine rr_iconst 0 rfl dX10_gives_83 ?_
  refine rr_istore [(0, .ref 49), (1, .int (nI P)), (2, .int v), (3, .int w), (4, .int b), (5, .int 0)] dX10_gives_84 (by decide) rfl ?_
  refine jj_Rh (jj_rs_add (B := h) (L := [(777, (upd (h 777) (((nI P) : Int32).toNatClampNeg) (-1)))]) (L2 := [(49, (h 49)), (777, (upd (h 777) (((nI P) : Int32).toNatClampNeg) (-1)))]) (o := 49) (r := (h 49)) rfl rfl) ?_
  refine jj_Rh (jj_rs_add (B := h) (L := [(49, (h 49)), (777, (upd (h 777) (((nI P) : Int32).toNatClampNeg) (-1)))]) (L2 := [(49, (h 49)), (777, (upd (h 777) (((nI P) : Int32).toNatClampNeg) (-1))), (778, (h 778))]) (o := 778) (r := (h 778)) rfl rfl) ?_
  refine jj_forx (fun k1 (a1 : (Nat → Int32) × (Nat → Int32) × (Nat → Int32)) => (a1.1 17 = nI m) → ∀ hc1, jj_eq [414, 415] h hc1 → jj_R _ _ kc ks (jj_S, 782, (jj_rs hc1 [(49, a1.1), (777, a1.2.1), (778, a1.2.2)]), g) 86 [(0, .ref 49), (1, .int (nI P)), (2, .int v), (3, .int w), (4, .int b), (5, .int (nI k1))] [] Q) (fgv1_1 (h 8) (h 73) (h 497) (jj_gd h 64 8) m K P v w b) n ((h 49), (upd (h 777) (((nI P) : Int32).toNatClampNeg) (-1)), (h 778)) (fun (r1_ : (Nat → Int32) × (Nat → Int32) × (Nat → Int32)) => (r1_.1 17 = nI m) → ∀ hc1, jj_eq [414, 415] h hc1 → jj_R mX10_gives (d + 7) kc ks (jj_S, 782, (jj_rs hc1 [(49, r1_.1), (777, r1_.2.1), (778, r1_.2.2)]), g) 209 [(0, .ref 49), (1, .int (nI P)), (2, .int v), (3, .int w), (4, .int b)] [] Q) ?_ ?_ ?_ hM h jj_eq.rf
  · intro k1 hk1 a1 ih1 ix1 hi1 hc1 ec1
    try dsimp only at ih1 ix1 ⊢
    refine rr_iload 5 rfl dX10_gives_86 ?_
    refine rr_aload_n 0 rfl rfl dX10_gives_88 ?_
    refine rr_getR dX10_gives_89 fX10_23 lo_49 sh_49 rfl ?_
    refine rr_iconst 0 rfl dX10_gives_92 ?_
    refine rr_iaload dX10_gives_93 lo_53 sh_53 (jj_inL rfl) ?_
    rw [show (jj_rs hc1 [(49, a1.1), (777, a1.2.1), (778, a1.2.2)]) 53 = hc1 53 from rfl]
    rw [ec1 53 (by decide)]
    rw [show (h 53) (0 : Int32).toNatClampNeg = (nI n) from hT]
    refine rr_icmp_ge dX10_gives_94 (fun c => absurd c (nI_ge (a := k1) (b := n) (by omega) (by omega))) (fun _ => ?_)
    refine rr_aload_n 0 rfl rfl dX10_gives_97 ?_
    refine rr_getR dX10_gives_98 fX10_61 lo_49 sh_49 rfl ?_
    refine rr_iload_n 1 rfl rfl dX10_gives_101 ?_
    refine rr_callS (As := [.ref 497, .int (nI P)]) (rest := []) (kc2 := 0) (ks2 := 0) dX10_gives_102 okX10_isLoose lX10_268 rfl (Nat.le_of_ble_eq_true rfl) (Nat.le_of_ble_eq_true rfl) rfl (by omega) (by simp [jj_rk]) (by simp [jj_rk]) ?_
    refine sp_X10_isLoose_n (vp_in_nI (by omega) (by decide)) ?_
    show jj_R _ _ kc ks (jj_S, 782, (jj_rs hc1 [(49, a1.1), (777, a1.2.1), (778, a1.2.2)]), g) 105 [(0, .ref 49), (1, .int (nI P)), (2, .int v), (3, .int w), (4, .int b), (5, .int (nI k1))] [.int (vX10_isLoose_n (hc1 497) (nI P))] Q
    try rw [ec1 497 (by decide)]
    refine rr_if_eq dX10_gives_105 (fun c1 => ?_) (fun c1 => ?_)
    · skip
      try simp only [(nI_clamp (show k1 < 2 ^ 31 by omega))] at c1
      refine rr_drop (ls := [(0, .ref 49), (1, .int (nI P)), (2, .int v), (3, .int w), (4, .int b)]) [0, 1, 2, 3, 4] rfl ?_
      simpa only [nI_1, (nI_clamp (show k1 < 2 ^ 31 by omega)), fgv1_1, if_pos c1] using ix1 (a1.1, a1.2.1, a1.2.2) (by simp only [(nI_clamp (show k1 < 2 ^ 31 by omega)), fgv1_1, if_pos c1]) hi1 hc1 ec1
    · skip
      refine rr_iload 4 rfl dX10_gives_108 ?_
      refine rr_iload 5 rfl dX10_gives_110 ?_
      refine rr_callS (As := [.int b, .int (nI k1)]) (rest := []) (kc2 := 0) (ks2 := 0) dX10_gives_112 okX10_has lX10_254 rfl (Nat.le_of_ble_eq_true rfl) (Nat.le_of_ble_eq_true rfl) rfl (by omega) (by simp [jj_rk]) (by simp [jj_rk]) ?_
      refine sp_X10_has  ?_
      show jj_R _ _ kc ks (jj_S, 782, (jj_rs hc1 [(49, a1.1), (777, a1.2.1), (778, a1.2.2)]), g) 115 [(0, .ref 49), (1, .int (nI P)), (2, .int v), (3, .int w), (4, .int b), (5, .int (nI k1))] [.int (vX10_has b (nI k1))] Q
      refine rr_if_ne dX10_gives_115 (fun c2 => ?_) (fun c2 => ?_)
      · skip
        refine rr_iinc 5 1 [(0, .ref 49), (1, .int (nI P)), (2, .int v), (3, .int w), (4, .int b), (5, .int ((nI k1) + 1))] dX10_gives_203 rfl rfl (by decide) rfl ?_
        refine rr_goto dX10_gives_206 ?_
        try simp only [(nI_clamp (show k1 < 2 ^ 31 by omega))] at c1
        try simp only [(nI_clamp (show k1 < 2 ^ 31 by omega))] at c2
        simpa only [nI_1, (nI_clamp (show k1 < 2 ^ 31 by omega)), fgv1_1, if_neg c1, if_neg c2] using ih1 (a1.1, a1.2.1, a1.2.2) (by simp only [(nI_clamp (show k1 < 2 ^ 31 by omega)), fgv1_1, if_neg c1, if_neg c2]) (by first | exact hi1 | exact (hK _ _ _ _ _ _ _).trans hi1) hc1 ec1
      · skip
        refine rr_aload_n 0 rfl rfl dX10_gives_118 ?_
        refine rr_getR dX10_gives_119 fX10_61 lo_49 sh_49 rfl ?_
        refine rr_iload 5 rfl dX10_gives_122 ?_
        refine rr_iload_n 1 rfl rfl dX10_gives_124 ?_
        refine rr_callS (As := [.ref 497, .int (nI k1), .int (nI P)]) (rest := []) (kc2 := 0) (ks2 := 0) dX10_gives_125 okX10_isHand lX10_272 rfl (Nat.le_of_ble_eq_true rfl) (Nat.le_of_ble_eq_true rfl) rfl (by omega) (by simp [jj_rk]) (by simp [jj_rk]) ?_
        refine sp_X10_isHand_n (vp_in_nI (by omega) (by decide)) (vp_in_nI (by omega) (by decide)) ?_
        show jj_R _ _ kc ks (jj_S, 782, (jj_rs hc1 [(49, a1.1), (777, a1.2.1), (778, a1.2.2)]), g) 128 [(0, .ref 49), (1, .int (nI P)), (2, .int v), (3, .int w), (4, .int b), (5, .int (nI k1))] [.int (vX10_isHand_n (hc1 497) (nI k1) (nI P))] Q
        try rw [ec1 497 (by decide)]
        refine rr_if_eq dX10_gives_128 (fun c3 => ?_) (fun c3 => ?_)
        · skip
          refine rr_iinc 5 1 [(0, .ref 49), (1, .int (nI P)), (2, .int v), (3, .int w), (4, .int b), (5, .int ((nI k1) + 1))] dX10_gives_203 rfl rfl (by decide) rfl ?_
          refine rr_goto dX10_gives_206 ?_
          try simp only [(nI_clamp (show k1 < 2 ^ 31 by omega))] at c1
          try simp only [(nI_clamp (show k1 < 2 ^ 31 by omega))] at c2
          try simp only [(nI_clamp (show k1 < 2 ^ 31 by omega))] at c3
          simpa only [nI_1, (nI_clamp (show k1 < 2 ^ 31 by omega)), fgv1_1, if_neg c1, if_pos c2, if_pos c3] using ih1 (a1.1, a1.2.1, a1.2.2) (by simp only [(nI_clamp (show k1 < 2 ^ 31 by omega)), fgv1_1, if_neg c1, if_pos c2, if_pos c3]) (by first | exact hi1 | exact (hK _ _ _ _ _ _ _).trans hi1) hc1 ec1
        · skip
          refine rr_aload_n 0 rfl rfl dX10_gives_131 ?_
          refine rr_aload_n 0 rfl rfl dX10_gives_132 ?_
          refine rr_getR dX10_gives_133 fX10_61 lo_49 sh_49 rfl ?_
          refine rr_iload 5 rfl dX10_gives_136 ?_
          refine rr_iload_n 1 rfl rfl dX10_gives_138 ?_
          refine rr_iconst 0 rfl dX10_gives_139 ?_
          refine rr_callV (As := [.ref 497, .int (nI k1), .int (nI P), .int 0]) (rest := []) (kc2 := 0) (ks2 := 0) dX10_gives_140 okX10_holdOf lX10_276 lo_49 sh_49 rfl rfl (Nat.le_of_ble_eq_true rfl) (Nat.le_of_ble_eq_true rfl) rfl (by omega) (by simp [jj_rk]) (by simp [jj_rk]) ?_
          refine sp_X10_holdOf_n (vp_in_nI (by omega) (by decide)) (vp_in_nI (by omega) (by decide)) (by first | exact hM | exact (congrFun (ec1 49 (by decide)) 17).trans hM | assumption) hm2 (lw_to ((jj_gd_rs (B := hc1) (L := [(49, a1.1), (777, a1.2.1), (778, a1.2.2)]) (b := 75) (len := 160) rfl).trans (jj_gd_eq (b := 75) (len := 160) ec1 rfl)) (show (jj_rs hc1 [(49, a1.1), (777, a1.2.1), (778, a1.2.2)]) 8 = h 8 from ec1 8 (by decide)) hw) (fun h4 e5 => ?_)
          obtain ⟨h7, e6, rfl⟩ := jj_lo (X := [414, 415]) ec1 e5 (by decide) (by simp [List.lookup])
          show jj_R _ _ kc ks (jj_S, 782, (jj_rs h7 [(49, a1.1), (777, a1.2.1), (778, a1.2.2)]), g) 143 [(0, .ref 49), (1, .int (nI P)), (2, .int v), (3, .int w), (4, .int b), (5, .int (nI k1))] [.int (vX10_holdOf_n (hc1 8) (hc1 73) (hc1 497) (jj_gd (jj_rs hc1 [(49, a1.1), (777, a1.2.1), (778, a1.2.2)]) 64 8) m (nI k1) (nI P) 0)] Q
          try rw [ec1 8 (by decide)]
          try rw [ec1 73 (by decide)]
          try rw [ec1 497 (by decide)]
          try rw [show jj_gd (jj_rs hc1 [(49, a1.1), (777, a1.2.1), (778, a1.2.2)]) 64 8 = jj_gd h 64 8 from ((jj_gd_rs (B := hc1) (L := [(49, a1.1), (777, a1.2.1), (778, a1.2.2)]) (b := 64) (len := 8) rfl).trans (jj_gd_eq (b := 64) (len := 8) ec1 rfl))]
          refine rr_bipush 10 rfl dX10_gives_143 ?_
          refine rr_icmp_ge dX10_gives_145 (fun c8 => ?_) (fun c8 => ?_)
          · skip
            refine rr_aload_n 0 rfl rfl dX10_gives_151 ?_
            refine rr_getR dX10_gives_152 fX10_76 lo_49 sh_49 rfl ?_
            refine rr_iload_n 1 rfl rfl dX10_gives_155 ?_
            refine rr_iload 5 rfl dX10_gives_156 ?_
            refine rr_iastore dX10_gives_158 lo_777 sh_777 (vp_in_nI (by omega) (by decide)) ?_
            rw [jj_rs_set (B := h7) (L := [(49, a1.1), (777, a1.2.1), (778, a1.2.2)]) (L2 := [(49, a1.1), (777, (upd a1.2.1 (((nI P) : Int32).toNatClampNeg) (nI k1))), (778, a1.2.2)]) (r := a1.2.1) rfl rfl]
            refine rr_aload_n 0 rfl rfl dX10_gives_159 ?_
            refine rr_iload_n 1 rfl rfl dX10_gives_160 ?_
            refine rr_iconst 1 rfl dX10_gives_161 ?_
            refine rr_iadd dX10_gives_162 ?_
            rw [show ((nI P) + 1 : Int32) = (nI (P + 1)) from nI_add (P) (1)]
            refine rr_iload_n 2 rfl rfl dX10_gives_163 ?_
            refine rr_iconst 1 rfl dX10_gives_164 ?_
            refine rr_iadd dX10_gives_165 ?_
            refine rr_iload_n 3 rfl rfl dX10_gives_166 ?_
            refine rr_iload 5 rfl dX10_gives_167 ?_
            refine rr_iload_n 1 rfl rfl dX10_gives_169 ?_
            refine rr_icmp_ne dX10_gives_170 (fun c9 => ?_) (fun c9 => ?_)
            · skip
              refine rr_aload_n 0 rfl rfl dX10_gives_183 ?_
              refine rr_getR dX10_gives_184 fX10_61 lo_49 sh_49 rfl ?_
              refine rr_iconst 0 rfl dX10_gives_187 ?_
              refine rr_iload 5 rfl dX10_gives_188 ?_
              refine rr_iadd dX10_gives_190 ?_
              rw [show ((0 : Int32) + (nI k1) : Int32) = (nI (0 + k1)) from nI_add (0) (k1)]
              refine rr_iaload dX10_gives_191 lo_497 sh_497 (vp_in_nI (by omega) (by decide)) ?_
              rw [show (jj_rs h7 [(49, a1.1), (777, (upd a1.2.1 (((nI P) : Int32).toNatClampNeg) (nI k1))), (778, a1.2.2)]) 497 = h7 497 from rfl]
              rw [e6 497 (by decide)]
              refine rr_iadd dX10_gives_192 ?_
              refine rr_iload 4 rfl dX10_gives_193 ?_
              refine rr_iconst 1 rfl dX10_gives_195 ?_
              refine rr_iload 5 rfl dX10_gives_196 ?_
              refine rr_ishl dX10_gives_198 ?_
              refine rr_ior dX10_gives_199 ?_
              refine rr_callV (As := [.int (nI (P + 1)), .int (v + 1), .int (w + ((h 497) ((nI (0 + k1)) : Int32).toNatClampNeg)), .int (b ||| (1 <<< ((nI k1) &&& 31)))]) (rest := []) (kc2 := 0) (ks2 := 0) dX10_gives_200 okX10_gives lX10_342 lo_49 sh_49 rfl rfl (Nat.le_of_ble_eq_true rfl) (Nat.le_of_ble_eq_true rfl) rfl (by omega) (by simp [jj_rk]) (by simp [jj_rk]) ?_
              refine ih ⟨(by first | exact hT | exact (congrFun (e6 53 (by decide)) 0).trans hT), (by first | exact hi1 | exact hj1), (show (jj_rs h7 [(49, a1.1), (777, (upd a1.2.1 (((nI P) : Int32).toNatClampNeg) (nI k1))), (778, a1.2.2)]) 8 = h 8 from e6 8 (by decide)), (show (jj_rs h7 [(49, a1.1), (777, (upd a1.2.1 (((nI P) : Int32).toNatClampNeg) (nI k1))), (778, a1.2.2)]) 73 = h 73 from e6 73 (by decide)), (show (jj_rs h7 [(49, a1.1), (777, (upd a1.2.1 (((nI P) : Int32).toNatClampNeg) (nI k1))), (778, a1.2.2)]) 497 = h 497 from e6 497 (by decide)), ((jj_gd_rs (B := h7) (L := [(49, a1.1), (777, (upd a1.2.1 (((nI P) : Int32).toNatClampNeg) (nI k1))), (778, a1.2.2)]) (b := 64) (len := 8) rfl).trans (jj_gd_eq (b := 64) (len := 8) e6 rfl)), ((jj_gd_rs (B := h7) (L := [(49, a1.1), (777, (upd a1.2.1 (((nI P) : Int32).toNatClampNeg) (nI k1))), (778, a1.2.2)]) (b := 75) (len := 160) rfl).trans (jj_gd_eq (b := 75) (len := 160) e6 rfl))⟩ (fun h10 e11 => ?_)
              obtain ⟨h13, e12, rfl⟩ := jj_lo (X := [414, 415]) e6 e11 (by decide) (by simp [List.lookup])
              show jj_R _ _ kc ks (jj_S, 782, (jj_rs (jj_rs h13 [(49, a1.1), (777, (upd a1.2.1 (((nI P) : Int32).toNatClampNeg) (nI k1))), (778, a1.2.2)]) [(49, (K (P + 1) (b ||| (1 <<< ((nI k1) &&& 31))) (v + 1) (w + ((h 497) ((nI (0 + k1)) : Int32).toNatClampNeg)) a1.1 (upd a1.2.1 (((nI P) : Int32).toNatClampNeg) (nI k1)) a1.2.2).1), (777, (K (P + 1) (b ||| (1 <<< ((nI k1) &&& 31))) (v + 1) (w + ((h 497) ((nI (0 + k1)) : Int32).toNatClampNeg)) a1.1 (upd a1.2.1 (((nI P) : Int32).toNatClampNeg) (nI k1)) a1.2.2).2.1), (778, (K (P + 1) (b ||| (1 <<< ((nI k1) &&& 31))) (v + 1) (w + ((h 497) ((nI (0 + k1)) : Int32).toNatClampNeg)) a1.1 (upd a1.2.1 (((nI P) : Int32).toNatClampNeg) (nI k1)) a1.2.2).2.2)]), g) 203 [(0, .ref 49), (1, .int (nI P)), (2, .int v), (3, .int w), (4, .int b), (5, .int (nI k1))] [] Q
              rw [jj_rs_rs (B := h13) (L := [(49, a1.1), (777, (upd a1.2.1 (((nI P) : Int32).toNatClampNeg) (nI k1))), (778, a1.2.2)]) (M := [(49, (K (P + 1) (b ||| (1 <<< ((nI k1) &&& 31))) (v + 1) (w + ((h 497) ((nI (0 + k1)) : Int32).toNatClampNeg)) a1.1 (upd a1.2.1 (((nI P) : Int32).toNatClampNeg) (nI k1)) a1.2.2).1), (777, (K (P + 1) (b ||| (1 <<< ((nI k1) &&& 31))) (v + 1) (w + ((h 497) ((nI (0 + k1)) : Int32).toNatClampNeg)) a1.1 (upd a1.2.1 (((nI P) : Int32).toNatClampNeg) (nI k1)) a1.2.2).2.1), (778, (K (P + 1) (b ||| (1 <<< ((nI k1) &&& 31))) (v + 1) (w + ((h 497) ((nI (0 + k1)) : Int32).toNatClampNeg)) a1.1 (upd a1.2.1 (((nI P) : Int32).toNatClampNeg) (nI k1)) a1.2.2).2.2)]) (L2 := [(49, (K (P + 1) (b ||| (1 <<< ((nI k1) &&& 31))) (v + 1) (w + ((h 497) ((nI (0 + k1)) : Int32).toNatClampNeg)) a1.1 (upd a1.2.1 (((nI P) : Int32).toNatClampNeg) (nI k1)) a1.2.2).1), (777, (K (P + 1) (b ||| (1 <<< ((nI k1) &&& 31))) (v + 1) (w + ((h 497) ((nI (0 + k1)) : Int32).toNatClampNeg)) a1.1 (upd a1.2.1 (((nI P) : Int32).toNatClampNeg) (nI k1)) a1.2.2).2.1), (778, (K (P + 1) (b ||| (1 <<< ((nI k1) &&& 31))) (v + 1) (w + ((h 497) ((nI (0 + k1)) : Int32).toNatClampNeg)) a1.1 (upd a1.2.1 (((nI P) : Int32).toNatClampNeg) (nI k1)) a1.2.2).2.2)]) rfl]
              refine rr_iinc 5 1 [(0, .ref 49), (1, .int (nI P)), (2, .int v), (3, .int w), (4, .int b), (5, .int ((nI k1) + 1))] dX10_gives_203 rfl rfl (by decide) rfl ?_
              refine rr_goto dX10_gives_206 ?_
              try simp only [(nI_clamp (show k1 < 2 ^ 31 by omega))] at c1
              try simp only [(nI_clamp (show k1 < 2 ^ 31 by omega))] at c2
              try simp only [(nI_clamp (show k1 < 2 ^ 31 by omega))] at c3
              try simp only [(nI_clamp (show k1 < 2 ^ 31 by omega))] at c8
              try simp only [(nI_clamp (show k1 < 2 ^ 31 by omega))] at c9
              simpa only [nI_1, (nI_clamp (show k1 < 2 ^ 31 by omega)), fgv1_1, if_neg c1, if_pos c2, if_neg c3, if_pos c8, if_neg c9] using ih1 ((K (P + 1) (b ||| (1 <<< ((nI k1) &&& 31))) (v + 1) (w + ((h 497) ((nI (0 + k1)) : Int32).toNatClampNeg)) a1.1 (upd a1.2.1 (((nI P) : Int32).toNatClampNeg) (nI k1)) a1.2.2).1, (K (P + 1) (b ||| (1 <<< ((nI k1) &&& 31))) (v + 1) (w + ((h 497) ((nI (0 + k1)) : Int32).toNatClampNeg)) a1.1 (upd a1.2.1 (((nI P) : Int32).toNatClampNeg) (nI k1)) a1.2.2).2.1, (K (P + 1) (b ||| (1 <<< ((nI k1) &&& 31))) (v + 1) (w + ((h 497) ((nI (0 + k1)) : Int32).toNatClampNeg)) a1.1 (upd a1.2.1 (((nI P) : Int32).toNatClampNeg) (nI k1)) a1.2.2).2.2) (by simp only [(nI_clamp (show k1 < 2 ^ 31 by omega)), fgv1_1, if_neg c1, if_pos c2, if_neg c3, if_pos c8, if_neg c9]) (by first | exact hi1 | exact (hK _ _ _ _ _ _ _).trans hi1) h13 e12
            · skip
              refine rr_aload_n 0 rfl rfl dX10_gives_173 ?_
              refine rr_getR dX10_gives_174 fX10_61 lo_49 sh_49 rfl ?_
              refine rr_bipush 33 rfl dX10_gives_177 ?_
              refine rr_iaload dX10_gives_179 lo_497 sh_497 (jj_inL rfl) ?_
              rw [show (jj_rs h7 [(49, a1.1), (777, (upd a1.2.1 (((nI P) : Int32).toNatClampNeg) (nI k1))), (778, a1.2.2)]) 497 = h7 497 from rfl]
              rw [e6 497 (by decide)]
              rw [show (h 497) (33 : Int32).toNatClampNeg = (h 497) 33 from rfl]
              refine rr_goto dX10_gives_180 ?_
              refine rr_iadd dX10_gives_192 ?_
              refine rr_iload 4 rfl dX10_gives_193 ?_
              refine rr_iconst 1 rfl dX10_gives_195 ?_
              refine rr_iload 5 rfl dX10_gives_196 ?_
              refine rr_ishl dX10_gives_198 ?_
              refine rr_ior dX10_gives_199 ?_
              refine rr_callV (As := [.int (nI (P + 1)), .int (v + 1), .int (w + ((h 497) 33)), .int (b ||| (1 <<< ((nI k1) &&& 31)))]) (rest := []) (kc2 := 0) (ks2 := 0) dX10_gives_200 okX10_gives lX10_342 lo_49 sh_49 rfl rfl (Nat.le_of_ble_eq_true rfl) (Nat.le_of_ble_eq_true rfl) rfl (by omega) (by simp [jj_rk]) (by simp [jj_rk]) ?_
              refine ih ⟨(by first | exact hT | exact (congrFun (e6 53 (by decide)) 0).trans hT), (by first | exact hi1 | exact hj1), (show (jj_rs h7 [(49, a1.1), (777, (upd a1.2.1 (((nI P) : Int32).toNatClampNeg) (nI k1))), (778, a1.2.2)]) 8 = h 8 from e6 8 (by decide)), (show (jj_rs h7 [(49, a1.1), (777, (upd a1.2.1 (((nI P) : Int32).toNatClampNeg) (nI k1))), (778, a1.2.2)]) 73 = h 73 from e6 73 (by decide)), (show (jj_rs h7 [(49, a1.1), (777, (upd a1.2.1 (((nI P) : Int32).toNatClampNeg) (nI k1))), (778, a1.2.2)]) 497 = h 497 from e6 497 (by decide)), ((jj_gd_rs (B := h7) (L := [(49, a1.1), (777, (upd a1.2.1 (((nI P) : Int32).toNatClampNeg) (nI k1))), (778, a1.2.2)]) (b := 64) (len := 8) rfl).trans (jj_gd_eq (b := 64) (len := 8) e6 rfl)), ((jj_gd_rs (B := h7) (L := [(49, a1.1), (777, (upd a1.2.1 (((nI P) : Int32).toNatClampNeg) (nI k1))), (778, a1.2.2)]) (b := 75) (len := 160) rfl).trans (jj_gd_eq (b := 75) (len := 160) e6 rfl))⟩ (fun h14 e15 => ?_)
              obtain ⟨h17, e16, rfl⟩ := jj_lo (X := [414, 415]) e6 e15 (by decide) (by simp [List.lookup])
              show jj_R _ _ kc ks (jj_S, 782, (jj_rs (jj_rs h17 [(49, a1.1), (777, (upd a1.2.1 (((nI P) : Int32).toNatClampNeg) (nI k1))), (778, a1.2.2)]) [(49, (K (P + 1) (b ||| (1 <<< ((nI k1) &&& 31))) (v + 1) (w + ((h 497) 33)) a1.1 (upd a1.2.1 (((nI P) : Int32).toNatClampNeg) (nI k1)) a1.2.2).1), (777, (K (P + 1) (b ||| (1 <<< ((nI k1) &&& 31))) (v + 1) (w + ((h 497) 33)) a1.1 (upd a1.2.1 (((nI P) : Int32).toNatClampNeg) (nI k1)) a1.2.2).2.1), (778, (K (P + 1) (b ||| (1 <<< ((nI k1) &&& 31))) (v + 1) (w + ((h 497) 33)) a1.1 (upd a1.2.1 (((nI P) : Int32).toNatClampNeg) (nI k1)) a1.2.2).2.2)]), g) 203 [(0, .ref 49), (1, .int (nI P)), (2, .int v), (3, .int w), (4, .int b), (5, .int (nI k1))] [] Q
              rw [jj_rs_rs (B := h17) (L := [(49, a1.1), (777, (upd a1.2.1 (((nI P) : Int32).toNatClampNeg) (nI k1))), (778, a1.2.2)]) (M := [(49, (K (P + 1) (b ||| (1 <<< ((nI k1) &&& 31))) (v + 1) (w + ((h 497) 33)) a1.1 (upd a1.2.1 (((nI P) : Int32).toNatClampNeg) (nI k1)) a1.2.2).1), (777, (K (P + 1) (b ||| (1 <<< ((nI k1) &&& 31))) (v + 1) (w + ((h 497) 33)) a1.1 (upd a1.2.1 (((nI P) : Int32).toNatClampNeg) (nI k1)) a1.2.2).2.1), (778, (K (P + 1) (b ||| (1 <<< ((nI k1) &&& 31))) (v + 1) (w + ((h 497) 33)) a1.1 (upd a1.2.1 (((nI P) : Int32).toNatClampNeg) (nI k1)) a1.2.2).2.2)]) (L2 := [(49, (K (P + 1) (b ||| (1 <<< ((nI k1) &&& 31))) (v + 1) (w + ((h 497) 33)) a1.1 (upd a1.2.1 (((nI P) : Int32).toNatClampNeg) (nI k1)) a1.2.2).1), (777, (K (P + 1) (b ||| (1 <<< ((nI k1) &&& 31))) (v + 1) (w + ((h 497) 33)) a1.1 (upd a1.2.1 (((nI P) : Int32).toNatClampNeg) (nI k1)) a1.2.2).2.1), (778, (K (P + 1) (b ||| (1 <<< ((nI k1) &&& 31))) (v + 1) (w + ((h 497) 33)) a1.1 (upd a1.2.1 (((nI P) : Int32).toNatClampNeg) (nI k1)) a1.2.2).2.2)]) rfl]
              refine rr_iinc 5 1 [(0, .ref 49), (1, .int (nI P)), (2, .int v), (3, .int w), (4, .int b), (5, .int ((nI k1) + 1))] dX10_gives_203 rfl rfl (by decide) rfl ?_
              refine rr_goto dX10_gives_206 ?_
              try simp only [(nI_clamp (show k1 < 2 ^ 31 by omega))] at c1
              try simp only [(nI_clamp (show k1 < 2 ^ 31 by omega))] at c2
              try simp only [(nI_clamp (show k1 < 2 ^ 31 by omega))] at c3
              try simp only [(nI_clamp (show k1 < 2 ^ 31 by omega))] at c8
              try simp only [(nI_clamp (show k1 < 2 ^ 31 by omega))] at c9
              simpa only [nI_1, (nI_clamp (show k1 < 2 ^ 31 by omega)), fgv1_1, if_neg c1, if_pos c2, if_neg c3, if_pos c8, if_pos c9] using ih1 ((K (P + 1) (b ||| (1 <<< ((nI k1) &&& 31))) (v + 1) (w + ((h 497) 33)) a1.1 (upd a1.2.1 (((nI P) : Int32).toNatClampNeg) (nI k1)) a1.2.2).1, (K (P + 1) (b ||| (1 <<< ((nI k1) &&& 31))) (v + 1) (w + ((h 497) 33)) a1.1 (upd a1.2.1 (((nI P) : Int32).toNatClampNeg) (nI k1)) a1.2.2).2.1, (K (P + 1) (b ||| (1 <<< ((nI k1) &&& 31))) (v + 1) (w + ((h 497) 33)) a1.1 (upd a1.2.1 (((nI P) : Int32).toNatClampNeg) (nI k1)) a1.2.2).2.2) (by simp only [(nI_clamp (show k1 < 2 ^ 31 by omega)), fgv1_1, if_neg c1, if_pos c2, if_neg c3, if_pos c8, if_pos c9]) (by first | exact hi1 | exact (hK _ _ _ _ _ _ _).trans hi1) h17 e16
          · skip
            refine rr_goto dX10_gives_148 ?_
            refine rr_iinc 5 1 [(0, .ref 49), (1, .int (nI P)), (2, .int v), (3, .int w), (4, .int b), (5, .int ((nI k1) + 1))] dX10_gives_203 rfl rfl (by decide) rfl ?_
            refine rr_goto dX10_gives_206 ?_
            try simp only [(nI_clamp (show k1 < 2 ^ 31 by omega))] at c1
            try simp only [(nI_clamp (show k1 < 2 ^ 31 by omega))] at c2
            try simp only [(nI_clamp (show k1 < 2 ^ 31 by omega))] at c3
            try simp only [(nI_clamp (show k1 < 2 ^ 31 by omega))] at c8
            simpa only [nI_1, (nI_clamp (show k1 < 2 ^ 31 by omega)), fgv1_1, if_neg c1, if_pos c2, if_neg c3, if_neg c8] using ih1 (a1.1, a1.2.1, a1.2.2) (by simp only [(nI_clamp (show k1 < 2 ^ 31 by omega)), fgv1_1, if_neg c1, if_pos c2, if_neg c3, if_neg c8]) (by first | exact hi1 | exact (hK _ _ _ _ _ _ _).trans hi1) h7 e6
  · intro a1 hx1 hi1 hc1 ec1
    try dsimp only
    refine rr_iload 5 rfl dX10_gives_86 ?_
    refine rr_aload_n 0 rfl rfl dX10_gives_88 ?_
    refine rr_getR dX10_gives_89 fX10_23 lo_49 sh_49 rfl ?_
    refine rr_iconst 0 rfl dX10_gives_92 ?_
    refine rr_iaload dX10_gives_93 lo_53 sh_53 (jj_inL rfl) ?_
    rw [show (jj_rs hc1 [(49, a1.1), (777, a1.2.1), (778, a1.2.2)]) 53 = hc1 53 from rfl]
    rw [ec1 53 (by decide)]
    rw [show (h 53) (0 : Int32).toNatClampNeg = (nI n) from hT]
    refine rr_icmp_ge dX10_gives_94 (fun _ => ?_) (fun c => absurd (jj_le_rf _) c)
    refine rr_aload_n 0 rfl rfl dX10_gives_209 ?_
    refine rr_getR dX10_gives_210 fX10_76 lo_49 sh_49 rfl ?_
    refine rr_iload_n 1 rfl rfl dX10_gives_213 ?_
    refine rr_iconst (-1) rfl dX10_gives_214 ?_
    refine rr_iastore dX10_gives_215 lo_777 sh_777 (vp_in_nI (by omega) (by decide)) ?_
    rw [jj_rs_set (B := hc1) (L := [(49, a1.1), (777, a1.2.1), (778, a1.2.2)]) (L2 := [(49, a1.1), (777, (upd a1.2.1 (((nI P) : Int32).toNatClampNeg) (-1))), (778, a1.2.2)]) (r := a1.2.1) rfl rfl]
    refine rr_aload_n 0 rfl rfl dX10_gives_216 ?_
    refine rr_iload_n 1 rfl rfl dX10_gives_217 ?_
    refine rr_iconst 1 rfl dX10_gives_218 ?_
    refine rr_iadd dX10_gives_219 ?_
    rw [show ((nI P) + 1 : Int32) = (nI (P + 1)) from nI_add (P) (1)]
    refine rr_iload_n 2 rfl rfl dX10_gives_220 ?_
    refine rr_iload_n 3 rfl rfl dX10_gives_221 ?_
    refine rr_iload 4 rfl dX10_gives_222 ?_
    refine rr_callV (As := [.int (nI (P + 1)), .int v, .int w, .int b]) (rest := []) (kc2 := 0) (ks2 := 0) dX10_gives_224 okX10_gives lX10_342 lo_49 sh_49 rfl rfl (Nat.le_of_ble_eq_true rfl) (Nat.le_of_ble_eq_true rfl) rfl (by omega) (by simp [jj_rk]) (by simp [jj_rk]) ?_
    refine ih ⟨(by first | exact hT | exact (congrFun (ec1 53 (by decide)) 0).trans hT), (by first | exact hi1 | exact hj1), (show (jj_rs hc1 [(49, a1.1), (777, (upd a1.2.1 (((nI P) : Int32).toNatClampNeg) (-1))), (778, a1.2.2)]) 8 = h 8 from ec1 8 (by decide)), (show (jj_rs hc1 [(49, a1.1), (777, (upd a1.2.1 (((nI P) : Int32).toNatClampNeg) (-1))), (778, a1.2.2)]) 73 = h 73 from ec1 73 (by decide)), (show (jj_rs hc1 [(49, a1.1), (777, (upd a1.2.1 (((nI P) : Int32).toNatClampNeg) (-1))), (778, a1.2.2)]) 497 = h 497 from ec1 497 (by decide)), ((jj_gd_rs (B := hc1) (L := [(49, a1.1), (777, (upd a1.2.1 (((nI P) : Int32).toNatClampNeg) (-1))), (778, a1.2.2)]) (b := 64) (len := 8) rfl).trans (jj_gd_eq (b := 64) (len := 8) ec1 rfl)), ((jj_gd_rs (B := hc1) (L := [(49, a1.1), (777, (upd a1.2.1 (((nI P) : Int32).toNatClampNeg) (-1))), (778, a1.2.2)]) (b := 75) (len := 160) rfl).trans (jj_gd_eq (b := 75) (len := 160) ec1 rfl))⟩ (fun h18 e19 => ?_)
    obtain ⟨h21, e20, rfl⟩ := jj_lo (X := [414, 415]) ec1 e19 (by decide) (by simp [List.lookup])
    show jj_R _ _ kc ks (jj_S, 782, (jj_rs (jj_rs h21 [(49, a1.1), (777, (upd a1.2.1 (((nI P) : Int32).toNatClampNeg) (-1))), (778, a1.2.2)]) [(49, (K (P + 1) b v w a1.1 (upd a1.2.1 (((nI P) : Int32).toNatClampNeg) (-1)) a1.2.2).1), (777, (K (P + 1) b v w a1.1 (upd a1.2.1 (((nI P) : Int32).toNatClampNeg) (-1)) a1.2.2).2.1), (778, (K (P + 1) b v w a1.1 (upd a1.2.1 (((nI P) : Int32).toNatClampNeg) (-1)) a1.2.2).2.2)]), g) 227 [(0, .ref 49), (1, .int (nI P)), (2, .int v), (3, .int w), (4, .int b), (5, .int (nI n))] [] Q
    rw [jj_rs_rs (B := h21) (L := [(49, a1.1), (777, (upd a1.2.1 (((nI P) : Int32).toNatClampNeg) (-1))), (778, a1.2.2)]) (M := [(49, (K (P + 1) b v w a1.1 (upd a1.2.1 (((nI P) : Int32).toNatClampNeg) (-1)) a1.2.2).1), (777, (K (P + 1) b v w a1.1 (upd a1.2.1 (((nI P) : Int32).toNatClampNeg) (-1)) a1.2.2).2.1), (778, (K (P + 1) b v w a1.1 (upd a1.2.1 (((nI P) : Int32).toNatClampNeg) (-1)) a1.2.2).2.2)]) (L2 := [(49, (K (P + 1) b v w a1.1 (upd a1.2.1 (((nI P) : Int32).toNatClampNeg) (-1)) a1.2.2).1), (777, (K (P + 1) b v w a1.1 (upd a1.2.1 (((nI P) : Int32).toNatClampNeg) (-1)) a1.2.2).2.1), (778, (K (P + 1) b v w a1.1 (upd a1.2.1 (((nI P) : Int32).toNatClampNeg) (-1)) a1.2.2).2.2)]) rfl]
    refine rr_return dX10_gives_227 rfl ?_
    simpa only [rgv1_49, rgv1_777, rgv1_778, hx1, Sum.elim_inl, Sum.elim_inr] using kq h21 e20
  · intro r1_ hx1 hj1 hc1 ec1
    try dsimp only
    refine rr_aload_n 0 rfl rfl dX10_gives_209 ?_
    refine rr_getR dX10_gives_210 fX10_76 lo_49 sh_49 rfl ?_
    refine rr_iload_n 1 rfl rfl dX10_gives_213 ?_
    refine rr_iconst (-1) rfl dX10_gives_214 ?_
    refine rr_iastore dX10_gives_215 lo_777 sh_777 (vp_in_nI (by omega) (by decide)) ?_
    rw [jj_rs_set (B := hc1) (L := [(49, r1_.1), (777, r1_.2.1), (778, r1_.2.2)]) (L2 := [(49, r1_.1), (777, (upd r1_.2.1 (((nI P) : Int32).toNatClampNeg) (-1))), (778, r1_.2.2)]) (r := r1_.2.1) rfl rfl]
    refine rr_aload_n 0 rfl rfl dX10_gives_216 ?_
    refine rr_iload_n 1 rfl rfl dX10_gives_217 ?_
    refine rr_iconst 1 rfl dX10_gives_218 ?_
    refine rr_iadd dX10_gives_219 ?_
    rw [show ((nI P) + 1 : Int32) = (nI (P + 1)) from nI_add (P) (1)]
    refine rr_iload_n 2 rfl rfl dX10_gives_220 ?_
    refine rr_iload_n 3 rfl rfl dX10_gives_221 ?_
    refine rr_iload 4 rfl dX10_gives_222 ?_
    refine rr_callV (As := [.int (nI (P + 1)), .int v, .int w, .int b]) (rest := []) (kc2 := 0) (ks2 := 0) dX10_gives_224 okX10_gives lX10_342 lo_49 sh_49 rfl rfl (Nat.le_of_ble_eq_true rfl) (Nat.le_of_ble_eq_true rfl) rfl (by omega) (by simp [jj_rk]) (by simp [jj_rk]) ?_
    refine ih ⟨(by first | exact hT | exact (congrFun (ec1 53 (by decide)) 0).trans hT), (by first | exact hi1 | exact hj1), (show (jj_rs hc1 [(49, r1_.1), (777, (upd r1_.2.1 (((nI P) : Int32).toNatClampNeg) (-1))), (778, r1_.2.2)]) 8 = h 8 from ec1 8 (by decide)), (show (jj_rs hc1 [(49, r1_.1), (777, (upd r1_.2.1 (((nI P) : Int32).toNatClampNeg) (-1))), (778, r1_.2.2)]) 73 = h 73 from ec1 73 (by decide)), (show (jj_rs hc1 [(49, r1_.1), (777, (upd r1_.2.1 (((nI P) : Int32).toNatClampNeg) (-1))), (778, r1_.2.2)]) 497 = h 497 from ec1 497 (by decide)), ((jj_gd_rs (B := hc1) (L := [(49, r1_.1), (777, (upd r1_.2.1 (((nI P) : Int32).toNatClampNeg) (-1))), (778, r1_.2.2)]) (b := 64) (len := 8) rfl).trans (jj_gd_eq (b := 64) (len := 8) ec1 rfl)), ((jj_gd_rs (B := hc1) (L := [(49, r1_.1), (777, (upd r1_.2.1 (((nI P) : Int32).toNatClampNeg) (-1))), (778, r1_.2.2)]) (b := 75) (len := 160) rfl).trans (jj_gd_eq (b := 75) (len := 160) ec1 rfl))⟩ (fun h22 e23 => ?_)
    obtain ⟨h25, e24, rfl⟩ := jj_lo (X := [414, 415]) ec1 e23 (by decide) (by simp [List.lookup])
    show jj_R _ _ kc ks (jj_S, 782, (jj_rs (jj_rs h25 [(49, r1_.1), (777, (upd r1_.2.1 (((nI P) : Int32).toNatClampNeg) (-1))), (778, r1_.2.2)]) [(49, (K (P + 1) b v w r1_.1 (upd r1_.2.1 (((nI P) : Int32).toNatClampNeg) (-1)) r1_.2.2).1), (777, (K (P + 1) b v w r1_.1 (upd r1_.2.1 (((nI P) : Int32).toNatClampNeg) (-1)) r1_.2.2).2.1), (778, (K (P + 1) b v w r1_.1 (upd r1_.2.1 (((nI P) : Int32).toNatClampNeg) (-1)) r1_.2.2).2.2)]), g) 227 [(0, .ref 49), (1, .int (nI P)), (2, .int v), (3, .int w), (4, .int b)] [] Q
    rw [jj_rs_rs (B := h25) (L := [(49, r1_.1), (777, (upd r1_.2.1 (((nI P) : Int32).toNatClampNeg) (-1))), (778, r1_.2.2)]) (M := [(49, (K (P + 1) b v w r1_.1 (upd r1_.2.1 (((nI P) : Int32).toNatClampNeg) (-1)) r1_.2.2).1), (777, (K (P + 1) b v w r1_.1 (upd r1_.2.1 (((nI P) : Int32).toNatClampNeg) (-1)) r1_.2.2).2.1), (778, (K (P + 1) b v w r1_.1 (upd r1_.2.1 (((nI P) : Int32).toNatClampNeg) (-1)) r1_.2.2).2.2)]) (L2 := [(49, (K (P + 1) b v w r1_.1 (upd r1_.2.1 (((nI P) : Int32).toNatClampNeg) (-1)) r1_.2.2).1), (777, (K (P + 1) b v w r1_.1 (upd r1_.2.1 (((nI P) : Int32).toNatClampNeg) (-1)) r1_.2.2).2.1), (778, (K (P + 1) b v w r1_.1 (upd r1_.2.1 (((nI P) : Int32).toNatClampNeg) (-1)) r1_.2.2).2.2)]) rfl]
    refine rr_return dX10_gives_227 rfl ?_
    simpa only [rgv1_49, rgv1_777, rgv1_778, hx1, Sum.elim_inl, Sum.elim_inr] using kq h25 e24
def gv (r8 r73 r497 : Nat → Int32) (g64 : Nat → Nat → Int32) (n m : Nat) : Nat → Nat → Int32 → Int32 → Int32 → (Nat → Int32) → (Nat → Int32) → (Nat → Int32) → (Nat → Int32) × (Nat → Int32) × (Nat → Int32)
  | 0 => fun _ _ v w r49 r777 r778 => (rgv0_49 r49 r777 r778 v w, r777, rgv0_778 r49 r777 r778 v w)
  | j + 1 => fun P b v w r49 r777 r778 => (rgv1_49 r8 r49 r73 r497 r777 r778 g64 n m (gv r8 r73 r497 g64 n m j) P v w b, rgv1_777 r8 r49 r73 r497 r777 r778 g64 n m (gv r8 r73 r497 g64 n m j) P v w b, rgv1_778 r8 r49 r73 r497 r777 r778 g64 n m (gv r8 r73 r497 g64 n m j) P v w b)
theorem jj_fx_inv {α β : Type} {P : α → Prop} {R : β → Prop} {F : Nat → α → Sum α β} {a : α} (h0 : P a) (hs : ∀ k x, P x → Sum.elim P R (F k x)) : ∀ n, Sum.elim P R (jj_fx F n a)
  | 0 => h0
  | n + 1 => by
    have ih := jj_fx_inv h0 hs n
    show Sum.elim P R (Sum.elim (fun b => F n b) (fun r => .inr r) (jj_fx F n a))
    generalize jj_fx F n a = z at ih ⊢
    rcases z with z | z
    · exact hs n z ih
    · exact ih
theorem gv_17 {r8 r73 r497 : Nat → Int32} {g64 : Nat → Nat → Int32} {n m : Nat} : ∀ (j P : Nat) (b v w : Int32) (r49 r777 r778 : Nat → Int32), (gv r8 r73 r497 g64 n m j P b v w r49 r777 r778).1 17 = r49 17
  | 0, P, b, v, w, r49, r777, r778 => by
    show rgv0_49 r49 r777 r778 v w 17 = r49 17
    unfold rgv0_49
    have e : upd (upd r49 41 v) 42 w 17 = r49 17 := by rw [jj_une (by decide), jj_une (by decide)]
    split
    · rfl
    · split
      · split
        · exact e
        · rfl
      · exact e
  | j + 1, P, b, v, w, r49, r777, r778 => by
    have hK := gv_17 (r8 := r8) (r73 := r73) (r497 := r497) (g64 := g64) (n := n) (m := m) j
    show rgv1_49 r8 r49 r73 r497 r777 r778 g64 n m (gv r8 r73 r497 g64 n m j) P v w b 17 = r49 17
    unfold rgv1_49
    generalize gv r8 r73 r497 g64 n m j = K at hK
    have h1 := jj_fx_inv (P := fun (x : (Nat → Int32) × (Nat → Int32) × (Nat → Int32)) => x.1 17 = r49 17) (R := fun (x : (Nat → Int32) × (Nat → Int32) × (Nat → Int32)) => x.1 17 = r49 17) (F := fgv1_1 r8 r73 r497 g64 m K P v w b) (a := (r49, (upd r777 (((nI P) : Int32).toNatClampNeg) (-1)), r778)) rfl (fun k x hx => ?_) n
    · generalize jj_fx (fgv1_1 r8 r73 r497 g64 m K P v w b) n (r49, (upd r777 (((nI P) : Int32).toNatClampNeg) (-1)), r778) = z at h1 ⊢
      rcases z with z | z
      · exact (hK _ _ _ _ _ _ _).trans h1
      · exact (hK _ _ _ _ _ _ _).trans h1
    · unfold fgv1_1
      (repeat' split) <;> first | exact hx | exact (hK _ _ _ _ _ _ _).trans hx
theorem sp_gv {n m : Nat} (hn : n ≤ 8) (hm2 : m ≤ 150) : ∀ (j : Nat) {P d kc ks : Nat} {h : Nat → Nat → Int32} {g : Nat → Nat → Int64} {Q : jj_Rs → jj_St → Prop} {b v w : Int32}, P + j = n → h 53 0 = nI n → h 49 17 = nI m → lawok (h 8) (jj_gd h 75 160) m → (∀ h9, jj_eq [414, 415] h h9 → Q (.inl none) (jj_S, 782, jj_rs h9 [(49, (gv (h 8) (h 73) (h 497) (jj_gd h 64 8) n m j P b v w (h 49) (h 777) (h 778)).1), (777, (gv (h 8) (h 73) (h 497) (jj_gd h 64 8) n m j P b v w (h 49) (h 777) (h 778)).2.1), (778, (gv (h 8) (h 73) (h 497) (jj_gd h 64 8) n m j P b v w (h 49) (h 777) (h 778)).2.2)], g)) → jj_R mX10_gives (d + j + 6) kc ks (jj_S, 782, h, g) 0 [(0, .ref 49), (1, .int (nI P)), (2, .int v), (3, .int w), (4, .int b)] [] Q
  | 0, P, d, kc, ks, h, g, Q, b, v, w, e, hT, hM, hw, kq => by
    obtain rfl : P = n := e
    refine sp_gv0 (d := d + 6) hT hn ?_
    exact jj_Qh (jj_rs_add (B := h) (L := [(49, _), (778, _)]) (L2 := [(49, _), (777, h 777), (778, _)]) (o := 777) (r := h 777) rfl rfl) (kq h jj_eq.rf)
  | j + 1, P, d, kc, ks, h, g, Q, b, v, w, e, hT, hM, hw, kq => by
    have e2 : d + (j + 1) + 6 = d + j + 7 := by omega
    rw [e2]
    refine sp_gv1 (d := d + j) (K := gv (h 8) (h 73) (h 497) (jj_gd h 64 8) n m j) hT hn hM hm2 hw (by omega) (fun _ _ _ _ _ _ _ => gv_17 _ _ _ _ _ _ _ _) (fun {kc ks h2 g Q b v w} hg kq2 => ?_) kq
    obtain ⟨g1, g2, g3, g4, g5, g6, g7⟩ := hg
    refine sp_gv hn hm2 j (by omega) g1 g2 (by rw [g3, g7]; exact hw) ?_
    rw [g3, g4, g5, g6]
    exact kq2
theorem sp_gvS {n m d kc ks : Nat} {h : Nat → Nat → Int32} {g : Nat → Nat → Int64} {Q : jj_Rs → jj_St → Prop} (hT : h 53 0 = nI n) (hn : n ≤ 8) (hM : h 49 17 = nI m) (hm2 : m ≤ 150) (hw : lawok (h 8) (jj_gd h 75 160) m) (kq : ∀ h9, jj_eq [414, 415] h h9 → Q (.inl none) (jj_S, 782, jj_rs h9 [(49, (gv (h 8) (h 73) (h 497) (jj_gd h 64 8) n m n 0 0 0 0 (h 49) (h 777) (h 778)).1), (777, (gv (h 8) (h 73) (h 497) (jj_gd h 64 8) n m n 0 0 0 0 (h 49) (h 777) (h 778)).2.1), (778, (gv (h 8) (h 73) (h 497) (jj_gd h 64 8) n m n 0 0 0 0 (h 49) (h 777) (h 778)).2.2)], g)) : jj_R mX10_gives (d + 14) kc ks (jj_S, 782, h, g) 0 [(0, .ref 49), (1, .int 0), (2, .int 0), (3, .int 0), (4, .int 0)] [] Q := by
  have e2 : d + 14 = d + (8 - n) + n + 6 := by omega
  rw [e2]
  exact sp_gv hn hm2 n (P := 0) (by omega) hT hM hw kq
def rX10_laysKneelers_49 (r8 : Nat → Int32) (r49 : Nat → Int32) (r73 : Nat → Int32) (r497 : Nat → Int32) (r777 : Nat → Int32) (r778 : Nat → Int32) (g64 : Nat → Nat → Int32) (n : Nat) (m : Nat) : Nat → Int32 := (gv r8 r73 r497 g64 n m n 0 0 0 0 (upd (upd r49 (41) (-1)) (42) (-1)) r777 r778).1
def rX10_laysKneelers_777 (r8 : Nat → Int32) (r49 : Nat → Int32) (r73 : Nat → Int32) (r497 : Nat → Int32) (r777 : Nat → Int32) (r778 : Nat → Int32) (g64 : Nat → Nat → Int32) (n : Nat) (m : Nat) : Nat → Int32 := (gv r8 r73 r497 g64 n m n 0 0 0 0 (upd (upd r49 (41) (-1)) (42) (-1)) r777 r778).2.1
def rX10_laysKneelers_778 (r8 : Nat → Int32) (r49 : Nat → Int32) (r73 : Nat → Int32) (r497 : Nat → Int32) (r777 : Nat → Int32) (r778 : Nat → Int32) (g64 : Nat → Nat → Int32) (n : Nat) (m : Nat) : Nat → Int32 := (gv r8 r73 r497 g64 n m n 0 0 0 0 (upd (upd r49 (41) (-1)) (42) (-1)) r777 r778).2.2
set_option maxHeartbeats 1000000 in
theorem sp_X10_laysKneelers {d kc ks : Nat} {h : Nat → Nat → Int32} {g : Nat → Nat → Int64} {Q : jj_Rs → jj_St → Prop} {n : Nat} {m : Nat} (hT : h 53 0 = nI n) (hn : n ≤ 8) (hM : h 49 17 = nI m) (hm2 : m ≤ 150) (hw : lawok (h 8) (jj_gd h 75 160) m) (kq : ∀ h9, jj_eq [414, 415] h h9 → Q (.inl none) (jj_S, 782, (jj_rs h9 [(49, (rX10_laysKneelers_49 (h 8) (h 49) (h 73) (h 497) (h 777) (h 778) (jj_gd h 64 8) n m)), (777, (rX10_laysKneelers_777 (h 8) (h 49) (h 73) (h 497) (h 777) (h 778) (jj_gd h 64 8) n m)), (778, (rX10_laysKneelers_778 (h 8) (h 49) (h 73) (h 497) (h 777) (h 778) (jj_gd h 64 8) n m))]), g)) : jj_R mX10_laysKneelers (d + 15) kc ks (jj_S, 782, h, g) 0 [(0, .ref 49)] [] Q := by
  refine rr_aload_n 0 rfl rfl dX10_laysKneelers_0 ?_
  refine rr_iconst (-1) rfl dX10_laysKneelers_1 ?_
  refine rr_putI dX10_laysKneelers_2 fX10_336 ni10_41 lo_49 sh_49 rfl ?_
  rw [jj_rs_set0 (B := h) (o := 49) (r := (h 49)) rfl]
  refine rr_aload_n 0 rfl rfl dX10_laysKneelers_5 ?_
  refine rr_iconst (-1) rfl dX10_laysKneelers_6 ?_
  refine rr_putI dX10_laysKneelers_7 fX10_339 ni10_42 lo_49 sh_49 rfl ?_
  rw [jj_rs_set (B := h) (L := [(49, (upd (h 49) (41) (-1)))]) (L2 := [(49, (upd (upd (h 49) (41) (-1)) (42) (-1)))]) (r := (upd (h 49) (41) (-1))) rfl rfl]
  refine rr_aload_n 0 rfl rfl dX10_laysKneelers_10 ?_
  refine rr_iconst 0 rfl dX10_laysKneelers_11 ?_
  refine rr_iconst 0 rfl dX10_laysKneelers_12 ?_
  refine rr_iconst 0 rfl dX10_laysKneelers_13 ?_
  refine rr_iconst 0 rfl dX10_laysKneelers_14 ?_
  refine rr_callV (As := [.int 0, .int 0, .int 0, .int 0]) (rest := []) (kc2 := 0) (ks2 := 0) dX10_laysKneelers_15 okX10_gives lX10_342 lo_49 sh_49 rfl rfl (Nat.le_of_ble_eq_true rfl) (Nat.le_of_ble_eq_true rfl) rfl (by omega) (by simp [jj_rk]) (by simp [jj_rk]) ?_
  refine sp_gvS (by first | exact hT | exact (congrFun (jj_eq.rf 53 (by decide)) 0).trans hT) hn (by first | exact hM | exact (congrFun (jj_eq.rf 49 (by decide)) 17).trans hM | assumption) hm2 (lw_to (jj_gd_rs (B := h) (L := [(49, (upd (upd (h 49) (41) (-1)) (42) (-1)))]) (b := 75) (len := 160) rfl) (show (jj_rs h [(49, (upd (upd (h 49) (41) (-1)) (42) (-1)))]) 8 = h 8 from rfl) hw) (fun h1 e2 => ?_)
  obtain ⟨h4, e3, rfl⟩ := jj_lo (X := [414, 415]) (jj_eq.rf (X := [414, 415])) e2 (by decide) (by simp [List.lookup])
  show jj_R _ _ kc ks (jj_S, 782, (jj_rs (jj_rs h4 [(49, (upd (upd (h 49) (41) (-1)) (42) (-1)))]) [(49, (gv (h 8) (h 73) (h 497) (jj_gd (jj_rs h [(49, (upd (upd (h 49) (41) (-1)) (42) (-1)))]) 64 8) n m n 0 0 0 0 (upd (upd (h 49) (41) (-1)) (42) (-1)) (h 777) (h 778)).1), (777, (gv (h 8) (h 73) (h 497) (jj_gd (jj_rs h [(49, (upd (upd (h 49) (41) (-1)) (42) (-1)))]) 64 8) n m n 0 0 0 0 (upd (upd (h 49) (41) (-1)) (42) (-1)) (h 777) (h 778)).2.1), (778, (gv (h 8) (h 73) (h 497) (jj_gd (jj_rs h [(49, (upd (upd (h 49) (41) (-1)) (42) (-1)))]) 64 8) n m n 0 0 0 0 (upd (upd (h 49) (41) (-1)) (42) (-1)) (h 777) (h 778)).2.2)]), g) 18 [(0, .ref 49)] [] Q
  rw [jj_rs_rs (B := h4) (L := [(49, (upd (upd (h 49) (41) (-1)) (42) (-1)))]) (M := [(49, (gv (h 8) (h 73) (h 497) (jj_gd (jj_rs h [(49, (upd (upd (h 49) (41) (-1)) (42) (-1)))]) 64 8) n m n 0 0 0 0 (upd (upd (h 49) (41) (-1)) (42) (-1)) (h 777) (h 778)).1), (777, (gv (h 8) (h 73) (h 497) (jj_gd (jj_rs h [(49, (upd (upd (h 49) (41) (-1)) (42) (-1)))]) 64 8) n m n 0 0 0 0 (upd (upd (h 49) (41) (-1)) (42) (-1)) (h 777) (h 778)).2.1), (778, (gv (h 8) (h 73) (h 497) (jj_gd (jj_rs h [(49, (upd (upd (h 49) (41) (-1)) (42) (-1)))]) 64 8) n m n 0 0 0 0 (upd (upd (h 49) (41) (-1)) (42) (-1)) (h 777) (h 778)).2.2)]) (L2 := [(49, (gv (h 8) (h 73) (h 497) (jj_gd (jj_rs h [(49, (upd (upd (h 49) (41) (-1)) (42) (-1)))]) 64 8) n m n 0 0 0 0 (upd (upd (h 49) (41) (-1)) (42) (-1)) (h 777) (h 778)).1), (777, (gv (h 8) (h 73) (h 497) (jj_gd (jj_rs h [(49, (upd (upd (h 49) (41) (-1)) (42) (-1)))]) 64 8) n m n 0 0 0 0 (upd (upd (h 49) (41) (-1)) (42) (-1)) (h 777) (h 778)).2.1), (778, (gv (h 8) (h 73) (h 497) (jj_gd (jj_rs h [(49, (upd (upd (h 49) (41) (-1)) (42) (-1)))]) 64 8) n m n 0 0 0 0 (upd (upd (h 49) (41) (-1)) (42) (-1)) (h 777) (h 778)).2.2)]) rfl]
  try rw [show jj_gd (jj_rs h [(49, (upd (upd (h 49) (41) (-1)) (42) (-1)))]) 64 8 = jj_gd h 64 8 from (jj_gd_rs (B := h) (L := [(49, (upd (upd (h 49) (41) (-1)) (42) (-1)))]) (b := 64) (len := 8) rfl)]
  refine rr_return dX10_laysKneelers_18 rfl ?_
  simpa only [rX10_laysKneelers_49, rX10_laysKneelers_777, rX10_laysKneelers_778] using kq h4 e3
def vX10_kneel (r8 : Nat → Int32) (r49 : Nat → Int32) (r51 : Nat → Int32) (r73 : Nat → Int32) (r497 : Nat → Int32) (r777 : Nat → Int32) (r778 : Nat → Int32) (g64 : Nat → Nat → Int32) (n : Nat) (m : Nat) (w : Int32) : Int32 := (if (vX10_in w 0 1) = 0 then 0 else (if w = 0 then ((rX10_laysKneelers_49 r8 (upd r49 (0) 0) r73 r497 r777 r778 g64 n m) 41) else ((rX10_laysKneelers_49 r8 (upd r49 (0) 0) r73 r497 r777 r778 g64 n m) 42)))
def rX10_kneel_49 (r8 : Nat → Int32) (r49 : Nat → Int32) (r51 : Nat → Int32) (r73 : Nat → Int32) (r497 : Nat → Int32) (r777 : Nat → Int32) (r778 : Nat → Int32) (g64 : Nat → Nat → Int32) (n : Nat) (m : Nat) (w : Int32) : Nat → Int32 := (if (vX10_in w 0 1) = 0 then (upd (upd r49 (0) 0) (0) 1) else (rX10_laysKneelers_49 r8 (upd r49 (0) 0) r73 r497 r777 r778 g64 n m))
def rX10_kneel_51 (r8 : Nat → Int32) (r49 : Nat → Int32) (r51 : Nat → Int32) (r73 : Nat → Int32) (r497 : Nat → Int32) (r777 : Nat → Int32) (r778 : Nat → Int32) (g64 : Nat → Nat → Int32) (n : Nat) (m : Nat) (w : Int32) : Nat → Int32 := (if (vX10_in w 0 1) = 0 then (upd r51 (1) ((r51 1) + 1)) else r51)
def rX10_kneel_777 (r8 : Nat → Int32) (r49 : Nat → Int32) (r51 : Nat → Int32) (r73 : Nat → Int32) (r497 : Nat → Int32) (r777 : Nat → Int32) (r778 : Nat → Int32) (g64 : Nat → Nat → Int32) (n : Nat) (m : Nat) (w : Int32) : Nat → Int32 := (if (vX10_in w 0 1) = 0 then r777 else (rX10_laysKneelers_777 r8 (upd r49 (0) 0) r73 r497 r777 r778 g64 n m))
def rX10_kneel_778 (r8 : Nat → Int32) (r49 : Nat → Int32) (r51 : Nat → Int32) (r73 : Nat → Int32) (r497 : Nat → Int32) (r777 : Nat → Int32) (r778 : Nat → Int32) (g64 : Nat → Nat → Int32) (n : Nat) (m : Nat) (w : Int32) : Nat → Int32 := (if (vX10_in w 0 1) = 0 then r778 else (rX10_laysKneelers_778 r8 (upd r49 (0) 0) r73 r497 r777 r778 g64 n m))
set_option maxHeartbeats 1000000 in
theorem sp_X10_kneel {d kc ks : Nat} {h : Nat → Nat → Int32} {g : Nat → Nat → Int64} {Q : jj_Rs → jj_St → Prop} {n : Nat} {m : Nat} {w : Int32} (hT : h 53 0 = nI n) (hn : n ≤ 8) (hM : h 49 17 = nI m) (hm2 : m ≤ 150) (hw : lawok (h 8) (jj_gd h 75 160) m) (kq : ∀ h9, jj_eq [414, 415] h h9 → Q (.inl (some (.int (vX10_kneel (h 8) (h 49) (h 51) (h 73) (h 497) (h 777) (h 778) (jj_gd h 64 8) n m w)))) (jj_S, 782, (jj_rs h9 [(49, (rX10_kneel_49 (h 8) (h 49) (h 51) (h 73) (h 497) (h 777) (h 778) (jj_gd h 64 8) n m w)), (51, (rX10_kneel_51 (h 8) (h 49) (h 51) (h 73) (h 497) (h 777) (h 778) (jj_gd h 64 8) n m w)), (777, (rX10_kneel_777 (h 8) (h 49) (h 51) (h 73) (h 497) (h 777) (h 778) (jj_gd h 64 8) n m w)), (778, (rX10_kneel_778 (h 8) (h 49) (h 51) (h 73) (h 497) (h 777) (h 778) (jj_gd h 64 8) n m w))]), g)) : jj_R mX10_kneel (d + 16) kc ks (jj_S, 782, h, g) 0 [(0, .ref 49), (1, .int w)] [] Q := by
  refine rr_aload_n 0 rfl rfl dX10_kneel_0 ?_
  refine rr_iconst 0 rfl dX10_kneel_1 ?_
  refine rr_putI dX10_kneel_2 fX10_95 ni10_0 lo_49 sh_49 rfl ?_
  rw [jj_rs_set0 (B := h) (o := 49) (r := (h 49)) rfl]
  refine rr_aload_n 0 rfl rfl dX10_kneel_5 ?_
  refine rr_iload_n 1 rfl rfl dX10_kneel_6 ?_
  refine rr_iconst 0 rfl dX10_kneel_7 ?_
  refine rr_iconst 1 rfl dX10_kneel_8 ?_
  refine rr_callS (As := [.int w, .int 0, .int 1]) (rest := [.ref 49]) (kc2 := 0) (ks2 := 0) dX10_kneel_9 okX10_in lX10_129 rfl (Nat.le_of_ble_eq_true rfl) (Nat.le_of_ble_eq_true rfl) rfl (by omega) (by simp [jj_rk]) (by simp [jj_rk]) ?_
  refine sp_X10_in  ?_
  show jj_R _ _ kc ks (jj_S, 782, (jj_rs h [(49, (upd (h 49) (0) 0))]), g) 12 [(0, .ref 49), (1, .int w)] [.int (vX10_in w 0 1), .ref 49] Q
  refine rr_if_ne dX10_kneel_12 (fun c1 => ?_) (fun c1 => ?_)
  · skip
    refine rr_iconst 0 rfl dX10_kneel_19 ?_
    refine rr_iconst 1 rfl dX10_kneel_20 ?_
    refine rr_iconst 1 rfl dX10_kneel_21 ?_
    refine rr_callV (As := [.int 0, .int 1, .int 1]) (rest := []) (kc2 := 0) (ks2 := 0) dX10_kneel_22 okX10_bad lX10_171 lo_49 sh_49 rfl rfl (Nat.le_of_ble_eq_true rfl) (Nat.le_of_ble_eq_true rfl) rfl (by omega) (by simp [jj_rk]) (by simp [jj_rk]) ?_
    refine sp_X10_bad0_11 rfl ?_
    show jj_R _ _ kc ks (jj_S, 782, (jj_rs h [(49, (upd (h 49) (0) 0))]), g) 25 [(0, .ref 49), (1, .int w)] [.int 0] Q
    refine rr_if_eq dX10_kneel_25 (fun _ => ?_) (fun c => absurd (by decide) c)
    refine rr_aload_n 0 rfl rfl dX10_kneel_30 ?_
    refine rr_callV (As := []) (rest := []) (kc2 := 0) (ks2 := 0) dX10_kneel_31 okX10_laysKneelers lX10_346 lo_49 sh_49 rfl rfl (Nat.le_of_ble_eq_true rfl) (Nat.le_of_ble_eq_true rfl) rfl (by omega) (by simp [jj_rk]) (by simp [jj_rk]) ?_
    refine sp_X10_laysKneelers (by first | exact hT | exact (congrFun (jj_eq.rf 53 (by decide)) 0).trans hT) hn (by first | exact hM | exact (congrFun (jj_eq.rf 49 (by decide)) 17).trans hM | assumption) hm2 (lw_to (jj_gd_rs (B := h) (L := [(49, (upd (h 49) (0) 0))]) (b := 75) (len := 160) rfl) (show (jj_rs h [(49, (upd (h 49) (0) 0))]) 8 = h 8 from rfl) hw) (fun h2 e3 => ?_)
    obtain ⟨h5, e4, rfl⟩ := jj_lo (X := [414, 415]) (jj_eq.rf (X := [414, 415])) e3 (by decide) (by simp [List.lookup])
    show jj_R _ _ kc ks (jj_S, 782, (jj_rs (jj_rs h5 [(49, (upd (h 49) (0) 0))]) [(49, (rX10_laysKneelers_49 (h 8) (upd (h 49) (0) 0) (h 73) (h 497) (h 777) (h 778) (jj_gd (jj_rs h [(49, (upd (h 49) (0) 0))]) 64 8) n m)), (777, (rX10_laysKneelers_777 (h 8) (upd (h 49) (0) 0) (h 73) (h 497) (h 777) (h 778) (jj_gd (jj_rs h [(49, (upd (h 49) (0) 0))]) 64 8) n m)), (778, (rX10_laysKneelers_778 (h 8) (upd (h 49) (0) 0) (h 73) (h 497) (h 777) (h 778) (jj_gd (jj_rs h [(49, (upd (h 49) (0) 0))]) 64 8) n m))]), g) 34 [(0, .ref 49), (1, .int w)] [] Q
    rw [jj_rs_rs (B := h5) (L := [(49, (upd (h 49) (0) 0))]) (M := [(49, (rX10_laysKneelers_49 (h 8) (upd (h 49) (0) 0) (h 73) (h 497) (h 777) (h 778) (jj_gd (jj_rs h [(49, (upd (h 49) (0) 0))]) 64 8) n m)), (777, (rX10_laysKneelers_777 (h 8) (upd (h 49) (0) 0) (h 73) (h 497) (h 777) (h 778) (jj_gd (jj_rs h [(49, (upd (h 49) (0) 0))]) 64 8) n m)), (778, (rX10_laysKneelers_778 (h 8) (upd (h 49) (0) 0) (h 73) (h 497) (h 777) (h 778) (jj_gd (jj_rs h [(49, (upd (h 49) (0) 0))]) 64 8) n m))]) (L2 := [(49, (rX10_laysKneelers_49 (h 8) (upd (h 49) (0) 0) (h 73) (h 497) (h 777) (h 778) (jj_gd (jj_rs h [(49, (upd (h 49) (0) 0))]) 64 8) n m)), (777, (rX10_laysKneelers_777 (h 8) (upd (h 49) (0) 0) (h 73) (h 497) (h 777) (h 778) (jj_gd (jj_rs h [(49, (upd (h 49) (0) 0))]) 64 8) n m)), (778, (rX10_laysKneelers_778 (h 8) (upd (h 49) (0) 0) (h 73) (h 497) (h 777) (h 778) (jj_gd (jj_rs h [(49, (upd (h 49) (0) 0))]) 64 8) n m))]) rfl]
    try rw [show jj_gd (jj_rs h [(49, (upd (h 49) (0) 0))]) 64 8 = jj_gd h 64 8 from (jj_gd_rs (B := h) (L := [(49, (upd (h 49) (0) 0))]) (b := 64) (len := 8) rfl)]
    refine rr_iload_n 1 rfl rfl dX10_kneel_34 ?_
    refine rr_if_ne dX10_kneel_35 (fun c6 => ?_) (fun c6 => ?_)
    · skip
      refine rr_aload_n 0 rfl rfl dX10_kneel_45 ?_
      refine rr_getI dX10_kneel_46 fX10_339 lo_49 sh_49 rfl ?_
      rw [show (jj_rs h5 [(49, (rX10_laysKneelers_49 (h 8) (upd (h 49) (0) 0) (h 73) (h 497) (h 777) (h 778) (jj_gd h 64 8) n m)), (777, (rX10_laysKneelers_777 (h 8) (upd (h 49) (0) 0) (h 73) (h 497) (h 777) (h 778) (jj_gd h 64 8) n m)), (778, (rX10_laysKneelers_778 (h 8) (upd (h 49) (0) 0) (h 73) (h 497) (h 777) (h 778) (jj_gd h 64 8) n m))]) 49 = (rX10_laysKneelers_49 (h 8) (upd (h 49) (0) 0) (h 73) (h 497) (h 777) (h 778) (jj_gd h 64 8) n m) from rfl]
      refine rr_ireturn dX10_kneel_49 rfl ?_
      refine jj_Qh (jj_rs_add (B := h5) (L := [(49, (rX10_laysKneelers_49 (h 8) (upd (h 49) (0) 0) (h 73) (h 497) (h 777) (h 778) (jj_gd h 64 8) n m)), (777, (rX10_laysKneelers_777 (h 8) (upd (h 49) (0) 0) (h 73) (h 497) (h 777) (h 778) (jj_gd h 64 8) n m)), (778, (rX10_laysKneelers_778 (h 8) (upd (h 49) (0) 0) (h 73) (h 497) (h 777) (h 778) (jj_gd h 64 8) n m))]) (L2 := [(49, (rX10_laysKneelers_49 (h 8) (upd (h 49) (0) 0) (h 73) (h 497) (h 777) (h 778) (jj_gd h 64 8) n m)), (51, (h 51)), (777, (rX10_laysKneelers_777 (h 8) (upd (h 49) (0) 0) (h 73) (h 497) (h 777) (h 778) (jj_gd h 64 8) n m)), (778, (rX10_laysKneelers_778 (h 8) (upd (h 49) (0) 0) (h 73) (h 497) (h 777) (h 778) (jj_gd h 64 8) n m))]) (o := 51) (r := (h 51)) ((show jj_rs h5 [(49, (rX10_laysKneelers_49 (h 8) (upd (h 49) (0) 0) (h 73) (h 497) (h 777) (h 778) (jj_gd h 64 8) n m)), (777, (rX10_laysKneelers_777 (h 8) (upd (h 49) (0) 0) (h 73) (h 497) (h 777) (h 778) (jj_gd h 64 8) n m)), (778, (rX10_laysKneelers_778 (h 8) (upd (h 49) (0) 0) (h 73) (h 497) (h 777) (h 778) (jj_gd h 64 8) n m))] 51 = h5 51 from rfl).trans (e4 51 (by decide))) rfl) ?_
      simpa only [vX10_kneel, rX10_kneel_49, rX10_kneel_51, rX10_kneel_777, rX10_kneel_778, if_neg c1, if_neg c6] using kq h5 e4
    · skip
      refine rr_aload_n 0 rfl rfl dX10_kneel_38 ?_
      refine rr_getI dX10_kneel_39 fX10_336 lo_49 sh_49 rfl ?_
      rw [show (jj_rs h5 [(49, (rX10_laysKneelers_49 (h 8) (upd (h 49) (0) 0) (h 73) (h 497) (h 777) (h 778) (jj_gd h 64 8) n m)), (777, (rX10_laysKneelers_777 (h 8) (upd (h 49) (0) 0) (h 73) (h 497) (h 777) (h 778) (jj_gd h 64 8) n m)), (778, (rX10_laysKneelers_778 (h 8) (upd (h 49) (0) 0) (h 73) (h 497) (h 777) (h 778) (jj_gd h 64 8) n m))]) 49 = (rX10_laysKneelers_49 (h 8) (upd (h 49) (0) 0) (h 73) (h 497) (h 777) (h 778) (jj_gd h 64 8) n m) from rfl]
      refine rr_goto dX10_kneel_42 ?_
      refine rr_ireturn dX10_kneel_49 rfl ?_
      refine jj_Qh (jj_rs_add (B := h5) (L := [(49, (rX10_laysKneelers_49 (h 8) (upd (h 49) (0) 0) (h 73) (h 497) (h 777) (h 778) (jj_gd h 64 8) n m)), (777, (rX10_laysKneelers_777 (h 8) (upd (h 49) (0) 0) (h 73) (h 497) (h 777) (h 778) (jj_gd h 64 8) n m)), (778, (rX10_laysKneelers_778 (h 8) (upd (h 49) (0) 0) (h 73) (h 497) (h 777) (h 778) (jj_gd h 64 8) n m))]) (L2 := [(49, (rX10_laysKneelers_49 (h 8) (upd (h 49) (0) 0) (h 73) (h 497) (h 777) (h 778) (jj_gd h 64 8) n m)), (51, (h 51)), (777, (rX10_laysKneelers_777 (h 8) (upd (h 49) (0) 0) (h 73) (h 497) (h 777) (h 778) (jj_gd h 64 8) n m)), (778, (rX10_laysKneelers_778 (h 8) (upd (h 49) (0) 0) (h 73) (h 497) (h 777) (h 778) (jj_gd h 64 8) n m))]) (o := 51) (r := (h 51)) ((show jj_rs h5 [(49, (rX10_laysKneelers_49 (h 8) (upd (h 49) (0) 0) (h 73) (h 497) (h 777) (h 778) (jj_gd h 64 8) n m)), (777, (rX10_laysKneelers_777 (h 8) (upd (h 49) (0) 0) (h 73) (h 497) (h 777) (h 778) (jj_gd h 64 8) n m)), (778, (rX10_laysKneelers_778 (h 8) (upd (h 49) (0) 0) (h 73) (h 497) (h 777) (h 778) (jj_gd h 64 8) n m))] 51 = h5 51 from rfl).trans (e4 51 (by decide))) rfl) ?_
      simpa only [vX10_kneel, rX10_kneel_49, rX10_kneel_51, rX10_kneel_777, rX10_kneel_778, if_neg c1, if_pos c6] using kq h5 e4
  · skip
    refine rr_iconst 1 rfl dX10_kneel_15 ?_
    refine rr_goto dX10_kneel_16 ?_
    refine rr_iconst 1 rfl dX10_kneel_20 ?_
    refine rr_iconst 1 rfl dX10_kneel_21 ?_
    refine rr_callV (As := [.int 1, .int 1, .int 1]) (rest := []) (kc2 := 0) (ks2 := 0) dX10_kneel_22 okX10_bad lX10_171 lo_49 sh_49 rfl rfl (Nat.le_of_ble_eq_true rfl) (Nat.le_of_ble_eq_true rfl) rfl (by omega) (by simp [jj_rk]) (by simp [jj_rk]) ?_
    refine sp_X10_bad1_11 rfl ?_
    show jj_R _ _ kc ks (jj_S, 782, (jj_rs (jj_rs h [(49, (upd (h 49) (0) 0))]) [(49, (upd (upd (h 49) (0) 0) (0) 1)), (51, (upd (h 51) (1) (((h 51) 1) + 1)))]), g) 25 [(0, .ref 49), (1, .int w)] [.int 1] Q
    rw [jj_rs_rs (B := h) (L := [(49, (upd (h 49) (0) 0))]) (M := [(49, (upd (upd (h 49) (0) 0) (0) 1)), (51, (upd (h 51) (1) (((h 51) 1) + 1)))]) (L2 := [(49, (upd (upd (h 49) (0) 0) (0) 1)), (51, (upd (h 51) (1) (((h 51) 1) + 1)))]) rfl]
    refine rr_if_eq dX10_kneel_25 (fun c => absurd c (by decide)) (fun _ => ?_)
    refine rr_iconst 0 rfl dX10_kneel_28 ?_
    refine rr_ireturn dX10_kneel_29 rfl ?_
    refine jj_Qh (jj_rs_add (B := h) (L := [(49, (upd (upd (h 49) (0) 0) (0) 1)), (51, (upd (h 51) (1) (((h 51) 1) + 1)))]) (L2 := [(49, (upd (upd (h 49) (0) 0) (0) 1)), (51, (upd (h 51) (1) (((h 51) 1) + 1))), (777, (h 777))]) (o := 777) (r := (h 777)) rfl rfl) ?_
    refine jj_Qh (jj_rs_add (B := h) (L := [(49, (upd (upd (h 49) (0) 0) (0) 1)), (51, (upd (h 51) (1) (((h 51) 1) + 1))), (777, (h 777))]) (L2 := [(49, (upd (upd (h 49) (0) 0) (0) 1)), (51, (upd (h 51) (1) (((h 51) 1) + 1))), (777, (h 777)), (778, (h 778))]) (o := 778) (r := (h 778)) rfl rfl) ?_
    simpa only [vX10_kneel, rX10_kneel_49, rX10_kneel_51, rX10_kneel_777, rX10_kneel_778, if_pos c1] using kq h jj_eq.rf
def vX10_kneels (r8 : Nat → Int32) (r49 : Nat → Int32) (r51 : Nat → Int32) (r73 : Nat → Int32) (r497 : Nat → Int32) (r777 : Nat → Int32) (r778 : Nat → Int32) (g64 : Nat → Nat → Int32) (n : Nat) (m : Nat) (p : Int32) : Int32 := (if (vX10_isPerson n p) = 0 then 0 else ((rX10_laysKneelers_778 r8 (upd r49 (0) 0) r73 r497 r777 r778 g64 n m) (p : Int32).toNatClampNeg))
def rX10_kneels_49 (r8 : Nat → Int32) (r49 : Nat → Int32) (r51 : Nat → Int32) (r73 : Nat → Int32) (r497 : Nat → Int32) (r777 : Nat → Int32) (r778 : Nat → Int32) (g64 : Nat → Nat → Int32) (n : Nat) (m : Nat) (p : Int32) : Nat → Int32 := (if (vX10_isPerson n p) = 0 then (upd (upd r49 (0) 0) (0) 1) else (rX10_laysKneelers_49 r8 (upd r49 (0) 0) r73 r497 r777 r778 g64 n m))
def rX10_kneels_51 (r8 : Nat → Int32) (r49 : Nat → Int32) (r51 : Nat → Int32) (r73 : Nat → Int32) (r497 : Nat → Int32) (r777 : Nat → Int32) (r778 : Nat → Int32) (g64 : Nat → Nat → Int32) (n : Nat) (m : Nat) (p : Int32) : Nat → Int32 := (if (vX10_isPerson n p) = 0 then (upd r51 (0) ((r51 0) + 1)) else r51)
def rX10_kneels_777 (r8 : Nat → Int32) (r49 : Nat → Int32) (r51 : Nat → Int32) (r73 : Nat → Int32) (r497 : Nat → Int32) (r777 : Nat → Int32) (r778 : Nat → Int32) (g64 : Nat → Nat → Int32) (n : Nat) (m : Nat) (p : Int32) : Nat → Int32 := (if (vX10_isPerson n p) = 0 then r777 else (rX10_laysKneelers_777 r8 (upd r49 (0) 0) r73 r497 r777 r778 g64 n m))
def rX10_kneels_778 (r8 : Nat → Int32) (r49 : Nat → Int32) (r51 : Nat → Int32) (r73 : Nat → Int32) (r497 : Nat → Int32) (r777 : Nat → Int32) (r778 : Nat → Int32) (g64 : Nat → Nat → Int32) (n : Nat) (m : Nat) (p : Int32) : Nat → Int32 := (if (vX10_isPerson n p) = 0 then r778 else (rX10_laysKneelers_778 r8 (upd r49 (0) 0) r73 r497 r777 r778 g64 n m))
set_option maxHeartbeats 1000000 in
theorem sp_X10_kneels {d kc ks : Nat} {h : Nat → Nat → Int32} {g : Nat → Nat → Int64} {Q : jj_Rs → jj_St → Prop} {n : Nat} {m : Nat} {p : Int32} (hT : h 53 0 = nI n) (hn : n ≤ 8) (hM : h 49 17 = nI m) (hm2 : m ≤ 150) (hw : lawok (h 8) (jj_gd h 75 160) m) (kq : ∀ h9, jj_eq [414, 415] h h9 → Q (.inl (some (.int (vX10_kneels (h 8) (h 49) (h 51) (h 73) (h 497) (h 777) (h 778) (jj_gd h 64 8) n m p)))) (jj_S, 782, (jj_rs h9 [(49, (rX10_kneels_49 (h 8) (h 49) (h 51) (h 73) (h 497) (h 777) (h 778) (jj_gd h 64 8) n m p)), (51, (rX10_kneels_51 (h 8) (h 49) (h 51) (h 73) (h 497) (h 777) (h 778) (jj_gd h 64 8) n m p)), (777, (rX10_kneels_777 (h 8) (h 49) (h 51) (h 73) (h 497) (h 777) (h 778) (jj_gd h 64 8) n m p)), (778, (rX10_kneels_778 (h 8) (h 49) (h 51) (h 73) (h 497) (h 777) (h 778) (jj_gd h 64 8) n m p))]), g)) : jj_R mX10_kneels (d + 16) kc ks (jj_S, 782, h, g) 0 [(0, .ref 49), (1, .int p)] [] Q := by
  refine rr_aload_n 0 rfl rfl dX10_kneels_0 ?_
  refine rr_iconst 0 rfl dX10_kneels_1 ?_
  refine rr_putI dX10_kneels_2 fX10_95 ni10_0 lo_49 sh_49 rfl ?_
  rw [jj_rs_set0 (B := h) (o := 49) (r := (h 49)) rfl]
  refine rr_aload_n 0 rfl rfl dX10_kneels_5 ?_
  refine rr_aload_n 0 rfl rfl dX10_kneels_6 ?_
  refine rr_iload_n 1 rfl rfl dX10_kneels_7 ?_
  refine rr_callV (As := [.int p]) (rest := [.ref 49]) (kc2 := 0) (ks2 := 0) dX10_kneels_8 okX10_isPerson lX10_321 lo_49 sh_49 rfl rfl (Nat.le_of_ble_eq_true rfl) (Nat.le_of_ble_eq_true rfl) rfl (by omega) (by simp [jj_rk]) (by simp [jj_rk]) ?_
  refine sp_X10_isPerson (by first | exact hT | exact (congrFun (jj_eq.rf 53 (by decide)) 0).trans hT) hn ?_
  show jj_R _ _ kc ks (jj_S, 782, (jj_rs h [(49, (upd (h 49) (0) 0))]), g) 11 [(0, .ref 49), (1, .int p)] [.int (vX10_isPerson n p), .ref 49] Q
  refine rr_if_ne dX10_kneels_11 (fun c1 => ?_) (fun c1 => ?_)
  · skip
    refine rr_iconst 0 rfl dX10_kneels_18 ?_
    refine rr_iconst 1 rfl dX10_kneels_19 ?_
    refine rr_iconst 0 rfl dX10_kneels_20 ?_
    refine rr_callV (As := [.int 0, .int 1, .int 0]) (rest := []) (kc2 := 0) (ks2 := 0) dX10_kneels_21 okX10_bad lX10_171 lo_49 sh_49 rfl rfl (Nat.le_of_ble_eq_true rfl) (Nat.le_of_ble_eq_true rfl) rfl (by omega) (by simp [jj_rk]) (by simp [jj_rk]) ?_
    refine sp_X10_bad0_10 rfl ?_
    show jj_R _ _ kc ks (jj_S, 782, (jj_rs h [(49, (upd (h 49) (0) 0))]), g) 24 [(0, .ref 49), (1, .int p)] [.int 0] Q
    refine rr_if_eq dX10_kneels_24 (fun _ => ?_) (fun c => absurd (by decide) c)
    refine rr_aload_n 0 rfl rfl dX10_kneels_29 ?_
    refine rr_callV (As := []) (rest := []) (kc2 := 0) (ks2 := 0) dX10_kneels_30 okX10_laysKneelers lX10_346 lo_49 sh_49 rfl rfl (Nat.le_of_ble_eq_true rfl) (Nat.le_of_ble_eq_true rfl) rfl (by omega) (by simp [jj_rk]) (by simp [jj_rk]) ?_
    refine sp_X10_laysKneelers (by first | exact hT | exact (congrFun (jj_eq.rf 53 (by decide)) 0).trans hT) hn (by first | exact hM | exact (congrFun (jj_eq.rf 49 (by decide)) 17).trans hM | assumption) hm2 (lw_to (jj_gd_rs (B := h) (L := [(49, (upd (h 49) (0) 0))]) (b := 75) (len := 160) rfl) (show (jj_rs h [(49, (upd (h 49) (0) 0))]) 8 = h 8 from rfl) hw) (fun h2 e3 => ?_)
    obtain ⟨h5, e4, rfl⟩ := jj_lo (X := [414, 415]) (jj_eq.rf (X := [414, 415])) e3 (by decide) (by simp [List.lookup])
    show jj_R _ _ kc ks (jj_S, 782, (jj_rs (jj_rs h5 [(49, (upd (h 49) (0) 0))]) [(49, (rX10_laysKneelers_49 (h 8) (upd (h 49) (0) 0) (h 73) (h 497) (h 777) (h 778) (jj_gd (jj_rs h [(49, (upd (h 49) (0) 0))]) 64 8) n m)), (777, (rX10_laysKneelers_777 (h 8) (upd (h 49) (0) 0) (h 73) (h 497) (h 777) (h 778) (jj_gd (jj_rs h [(49, (upd (h 49) (0) 0))]) 64 8) n m)), (778, (rX10_laysKneelers_778 (h 8) (upd (h 49) (0) 0) (h 73) (h 497) (h 777) (h 778) (jj_gd (jj_rs h [(49, (upd (h 49) (0) 0))]) 64 8) n m))]), g) 33 [(0, .ref 49), (1, .int p)] [] Q
    rw [jj_rs_rs (B := h5) (L := [(49, (upd (h 49) (0) 0))]) (M := [(49, (rX10_laysKneelers_49 (h 8) (upd (h 49) (0) 0) (h 73) (h 497) (h 777) (h 778) (jj_gd (jj_rs h [(49, (upd (h 49) (0) 0))]) 64 8) n m)), (777, (rX10_laysKneelers_777 (h 8) (upd (h 49) (0) 0) (h 73) (h 497) (h 777) (h 778) (jj_gd (jj_rs h [(49, (upd (h 49) (0) 0))]) 64 8) n m)), (778, (rX10_laysKneelers_778 (h 8) (upd (h 49) (0) 0) (h 73) (h 497) (h 777) (h 778) (jj_gd (jj_rs h [(49, (upd (h 49) (0) 0))]) 64 8) n m))]) (L2 := [(49, (rX10_laysKneelers_49 (h 8) (upd (h 49) (0) 0) (h 73) (h 497) (h 777) (h 778) (jj_gd (jj_rs h [(49, (upd (h 49) (0) 0))]) 64 8) n m)), (777, (rX10_laysKneelers_777 (h 8) (upd (h 49) (0) 0) (h 73) (h 497) (h 777) (h 778) (jj_gd (jj_rs h [(49, (upd (h 49) (0) 0))]) 64 8) n m)), (778, (rX10_laysKneelers_778 (h 8) (upd (h 49) (0) 0) (h 73) (h 497) (h 777) (h 778) (jj_gd (jj_rs h [(49, (upd (h 49) (0) 0))]) 64 8) n m))]) rfl]
    try rw [show jj_gd (jj_rs h [(49, (upd (h 49) (0) 0))]) 64 8 = jj_gd h 64 8 from (jj_gd_rs (B := h) (L := [(49, (upd (h 49) (0) 0))]) (b := 64) (len := 8) rfl)]
    refine rr_aload_n 0 rfl rfl dX10_kneels_33 ?_
    refine rr_getR dX10_kneels_34 fX10_79 lo_49 sh_49 rfl ?_
    refine rr_iload_n 1 rfl rfl dX10_kneels_37 ?_
    refine rr_iaload dX10_kneels_38 lo_778 sh_778 (by first | assumption | exact jj_pM hn (by assumption) | exact jj_pM hn (jj_two (by assumption)).1 | exact jj_pM hn (jj_two (by assumption)).2 | decide | omega) ?_
    rw [show (jj_rs h5 [(49, (rX10_laysKneelers_49 (h 8) (upd (h 49) (0) 0) (h 73) (h 497) (h 777) (h 778) (jj_gd h 64 8) n m)), (777, (rX10_laysKneelers_777 (h 8) (upd (h 49) (0) 0) (h 73) (h 497) (h 777) (h 778) (jj_gd h 64 8) n m)), (778, (rX10_laysKneelers_778 (h 8) (upd (h 49) (0) 0) (h 73) (h 497) (h 777) (h 778) (jj_gd h 64 8) n m))]) 778 = (rX10_laysKneelers_778 (h 8) (upd (h 49) (0) 0) (h 73) (h 497) (h 777) (h 778) (jj_gd h 64 8) n m) from rfl]
    refine rr_ireturn dX10_kneels_39 rfl ?_
    refine jj_Qh (jj_rs_add (B := h5) (L := [(49, (rX10_laysKneelers_49 (h 8) (upd (h 49) (0) 0) (h 73) (h 497) (h 777) (h 778) (jj_gd h 64 8) n m)), (777, (rX10_laysKneelers_777 (h 8) (upd (h 49) (0) 0) (h 73) (h 497) (h 777) (h 778) (jj_gd h 64 8) n m)), (778, (rX10_laysKneelers_778 (h 8) (upd (h 49) (0) 0) (h 73) (h 497) (h 777) (h 778) (jj_gd h 64 8) n m))]) (L2 := [(49, (rX10_laysKneelers_49 (h 8) (upd (h 49) (0) 0) (h 73) (h 497) (h 777) (h 778) (jj_gd h 64 8) n m)), (51, (h 51)), (777, (rX10_laysKneelers_777 (h 8) (upd (h 49) (0) 0) (h 73) (h 497) (h 777) (h 778) (jj_gd h 64 8) n m)), (778, (rX10_laysKneelers_778 (h 8) (upd (h 49) (0) 0) (h 73) (h 497) (h 777) (h 778) (jj_gd h 64 8) n m))]) (o := 51) (r := (h 51)) ((show jj_rs h5 [(49, (rX10_laysKneelers_49 (h 8) (upd (h 49) (0) 0) (h 73) (h 497) (h 777) (h 778) (jj_gd h 64 8) n m)), (777, (rX10_laysKneelers_777 (h 8) (upd (h 49) (0) 0) (h 73) (h 497) (h 777) (h 778) (jj_gd h 64 8) n m)), (778, (rX10_laysKneelers_778 (h 8) (upd (h 49) (0) 0) (h 73) (h 497) (h 777) (h 778) (jj_gd h 64 8) n m))] 51 = h5 51 from rfl).trans (e4 51 (by decide))) rfl) ?_
    simpa only [vX10_kneels, rX10_kneels_49, rX10_kneels_51, rX10_kneels_777, rX10_kneels_778, if_neg c1] using kq h5 e4
  · skip
    refine rr_iconst 1 rfl dX10_kneels_14 ?_
    refine rr_goto dX10_kneels_15 ?_
    refine rr_iconst 1 rfl dX10_kneels_19 ?_
    refine rr_iconst 0 rfl dX10_kneels_20 ?_
    refine rr_callV (As := [.int 1, .int 1, .int 0]) (rest := []) (kc2 := 0) (ks2 := 0) dX10_kneels_21 okX10_bad lX10_171 lo_49 sh_49 rfl rfl (Nat.le_of_ble_eq_true rfl) (Nat.le_of_ble_eq_true rfl) rfl (by omega) (by simp [jj_rk]) (by simp [jj_rk]) ?_
    refine sp_X10_bad1_10 rfl ?_
    show jj_R _ _ kc ks (jj_S, 782, (jj_rs (jj_rs h [(49, (upd (h 49) (0) 0))]) [(49, (upd (upd (h 49) (0) 0) (0) 1)), (51, (upd (h 51) (0) (((h 51) 0) + 1)))]), g) 24 [(0, .ref 49), (1, .int p)] [.int 1] Q
    rw [jj_rs_rs (B := h) (L := [(49, (upd (h 49) (0) 0))]) (M := [(49, (upd (upd (h 49) (0) 0) (0) 1)), (51, (upd (h 51) (0) (((h 51) 0) + 1)))]) (L2 := [(49, (upd (upd (h 49) (0) 0) (0) 1)), (51, (upd (h 51) (0) (((h 51) 0) + 1)))]) rfl]
    refine rr_if_eq dX10_kneels_24 (fun c => absurd c (by decide)) (fun _ => ?_)
    refine rr_iconst 0 rfl dX10_kneels_27 ?_
    refine rr_ireturn dX10_kneels_28 rfl ?_
    refine jj_Qh (jj_rs_add (B := h) (L := [(49, (upd (upd (h 49) (0) 0) (0) 1)), (51, (upd (h 51) (0) (((h 51) 0) + 1)))]) (L2 := [(49, (upd (upd (h 49) (0) 0) (0) 1)), (51, (upd (h 51) (0) (((h 51) 0) + 1))), (777, (h 777))]) (o := 777) (r := (h 777)) rfl rfl) ?_
    refine jj_Qh (jj_rs_add (B := h) (L := [(49, (upd (upd (h 49) (0) 0) (0) 1)), (51, (upd (h 51) (0) (((h 51) 0) + 1))), (777, (h 777))]) (L2 := [(49, (upd (upd (h 49) (0) 0) (0) 1)), (51, (upd (h 51) (0) (((h 51) 0) + 1))), (777, (h 777)), (778, (h 778))]) (o := 778) (r := (h 778)) rfl rfl) ?_
    simpa only [vX10_kneels, rX10_kneels_49, rX10_kneels_51, rX10_kneels_777, rX10_kneels_778, if_pos c1] using kq h jj_eq.rf
