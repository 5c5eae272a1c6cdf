/-! ===== the reference's WORK at work ===== -/
def mv (m k : Nat) (r49 : Nat → Int32) : Prop := r49 17 = nI m ∧ ∃ b : Nat, r49 36 = nI b ∧ k ≤ b ∧ b ≤ 200
def gov (m k F E : Nat) (row : Int32) (r49 : Nat → Int32) : Prop := (∃ p : Nat, row = nI p ∧ F ≤ p ∧ (p ≤ E ∨ p = F)) ∧ mv m k r49
def pmok (z : Nat) (g : Nat → Nat → Int32) : Prop := ∀ r, r < z → ((g r 0 = 0 ∨ g r 0 = 1 ∨ g r 0 = 2 ∨ g r 0 = 3 ∨ g r 0 = 4 → vp_in (g r 1) 8) ∧ (g r 0 = 0 ∨ g r 0 = 1 → vp_in (g r 2) 8)) ∧ (∃ e : Nat, g r 3 = nI e ∧ r < e ∧ e ≤ z) ∧ (g r 0 = 6 → (∃ q : Nat, g r 1 = nI q ∧ q ≤ 60) ∧ ∀ r2, r < r2 → r2 < (g r 3).toNatClampNeg → (g r2 3).toNatClampNeg ≤ (g r 3).toNatClampNeg)
def gook (h h2 : Nat → Nat → Int32) (n m : Nat) : Prop := h2 53 0 = nI n ∧ h2 8 = h 8 ∧ h2 73 = h 73 ∧ jj_gd h2 64 8 = jj_gd h 64 8 ∧ jj_gd h2 75 160 = jj_gd h 75 160 ∧ jj_gd h2 417 80 = jj_gd h 417 80 ∧ mv m 0 (h2 49)
theorem mv_0 {m k : Nat} {r : Nat → Int32} (h : mv m k r) : mv m 0 r := by
  obtain ⟨h2, b, h3, h4, h5⟩ := h
  exact ⟨h2, b, h3, Nat.zero_le _, h5⟩
theorem mv_le {m k j : Nat} {r : Nat → Int32} (h : mv m k r) (hj : j ≤ k) : mv m j r := by
  obtain ⟨h2, b, h3, h4, h5⟩ := h
  exact ⟨h2, b, h3, by omega, h5⟩
theorem mv_up {m k : Nat} {r : Nat → Int32} (h : mv m k r) (c : ¬ 200 ≤ r 36) : mv m (k + 1) (upd r 36 (r 36 + 1)) := by
  obtain ⟨h2, b, h3, h4, h5⟩ := h
  have : ¬ 200 ≤ b := fun q => c (by rw [h3]; exact (nI_leI (a := 200) (by decide) (by omega)).mpr q)
  refine ⟨h2, b + 1, ?_, by omega, by omega⟩
  show r 36 + 1 = nI (b + 1)
  rw [h3, nI_1]
theorem mv_cnt {m k : Nat} {r : Nat → Int32} {x y : Int32} (h : mv m k r) : mv m k (upd (upd r 37 x) 33 y) := h
theorem go_row {m k z F E : Nat} {row t : Int32} {r : Nat → Int32} (h : gov m k F E row r) (hE : t = nI E) (hz : E ≤ z) (hz8 : z ≤ 80) (hF : F ≤ 80) (c : ¬ t ≤ row) : ∃ p : Nat, row = nI p ∧ F ≤ p ∧ p < E := by
  obtain ⟨⟨p, e, h1, h2⟩, _⟩ := h
  refine ⟨p, e, h1, ?_⟩
  rw [hE, e, nI_leI (by omega) (by omega)] at c
  omega
theorem go_in {m k z F E : Nat} {row t : Int32} {r : Nat → Int32} (h : gov m k F E row r) (hE : t = nI E) (hz : E ≤ z) (hz8 : z ≤ 80) (hF : F ≤ 80) (c : ¬ t ≤ row) : vp_in row 80 := by
  obtain ⟨p, rfl, h1, h2⟩ := go_row h hE hz hz8 hF c
  exact vp_in_nI (by omega) (by decide)
theorem go_cl {m k z F E : Nat} {row t : Int32} {r : Nat → Int32} (h : gov m k F E row r) (hE : t = nI E) (hz : E ≤ z) (hz8 : z ≤ 80) (hF : F ≤ 80) (c : ¬ t ≤ row) : row.toNatClampNeg < z := by
  obtain ⟨p, rfl, h1, h2⟩ := go_row h hE hz hz8 hF c
  rw [nI_clamp (by omega)]; omega
theorem go_nx {m k z F E : Nat} {row t : Int32} {r s : Nat → Int32} {g : Nat → Nat → Int32} (hpm : pmok z g) (hn : ∀ r, F ≤ r → r < E → (g r 3).toNatClampNeg ≤ E) (h : gov m k F E row r) (hE : t = nI E) (hz : E ≤ z) (hz8 : z ≤ 80) (hF : F ≤ 80) (c : ¬ t ≤ row) (hs : mv m (k + 1) s) : gov m (k + 1) F E (g row.toNatClampNeg 3) s := by
  obtain ⟨p, rfl, h1, h2⟩ := go_row h hE hz hz8 hF c
  refine ⟨?_, hs⟩
  rw [nI_clamp (by omega)]
  obtain ⟨e, e1, e2, e3⟩ := (hpm p (by omega)).2.1
  have := hn p h1 h2
  rw [e1, nI_clamp (by omega)] at this
  exact ⟨e, e1, by omega, Or.inl this⟩
theorem go_dead {m F E : Nat} {row : Int32} {r : Nat → Int32} (h : gov m 201 F E row r) : False := by
  obtain ⟨_, _, b, _, h4, h5⟩ := h
  omega
theorem gm_a {g k : Nat → Nat → Int32} {s : Nat} (e : k = g) (h : g s 0 = 0 ∨ g s 0 = 1 ∨ g s 0 = 2 ∨ g s 0 = 3 ∨ g s 0 = 4 → vp_in (g s 1) 8) : k s 0 = 0 ∨ k s 0 = 1 ∨ k s 0 = 2 ∨ k s 0 = 3 ∨ k s 0 = 4 → vp_in (k s 1) 8 := by subst e; exact h
theorem gm_b {g k : Nat → Nat → Int32} {s : Nat} (e : k = g) (h : g s 0 = 0 ∨ g s 0 = 1 → vp_in (g s 2) 8) : k s 0 = 0 ∨ k s 0 = 1 → vp_in (k s 2) 8 := by subst e; exact h
theorem go_q {z : Nat} {s : Nat} {g : Nat → Nat → Int32} (hpm : pmok z g) (hs : s < z) (c6 : g s 0 = 6) : g s 1 = nI (g s 1).toNatClampNeg ∧ (g s 1).toNatClampNeg ≤ 60 := by
  obtain ⟨q, hq, hq2⟩ := ((hpm s hs).2.2 c6).1
  rw [hq, nI_clamp (by omega)]
  exact ⟨rfl, hq2⟩
/-- what a call for the repeated needs -/
theorem go_call {m k z F E J : Nat} {row t : Int32} {r : Nat → Int32} {g : Nat → Nat → Int32} (hpm : pmok z g) (hn : ∀ r, F ≤ r → r < E → (g r 3).toNatClampNeg ≤ E) (h : gov m k F E row r) (hE : t = nI E) (hz : E ≤ z) (hz8 : z ≤ 80) (hF : F ≤ 80) (hJ : E ≤ F + J + 1) (c : ¬ t ≤ row) (c6 : g row.toNatClampNeg 0 = 6) : ∃ F2 E2 : Nat, row + 1 = nI F2 ∧ F2 ≤ 80 ∧ g row.toNatClampNeg 3 = nI E2 ∧ E2 ≤ z ∧ E2 ≤ F2 + J ∧ ∀ r, F2 ≤ r → r < E2 → (g r 3).toNatClampNeg ≤ E2 := by
  obtain ⟨p, rfl, h1, h2⟩ := go_row h hE hz hz8 hF c
  rw [nI_clamp (by omega)] at c6 ⊢
  obtain ⟨e, e1, e2, e3⟩ := (hpm p (by omega)).2.1
  have h5 := hn p h1 h2
  rw [e1, nI_clamp (by omega)] at h5
  have h6 := ((hpm p (by omega)).2.2 c6).2
  rw [e1, nI_clamp (by omega)] at h6
  exact ⟨p + 1, e, nI_1 p, by omega, e1, e3, by omega, fun r hr1 hr2 => h6 r (by omega) hr2⟩
def fgo1_2 (g417 : Nat → Nat → Int32) (K : Int32 → Int32 → (Nat → Int32) → (Nat → Int32) → (Nat → Int32) × (Nat → Int32)) (a1 : Int32 × (Nat → Int32) × (Nat → Int32)) (k2 : Nat) (a2 : (Nat → Int32) × (Nat → Int32)) : Sum ((Nat → Int32) × (Nat → Int32)) ((Nat → Int32) × (Nat → Int32)) := (if 200 ≤ (a2.1 36) then (.inr (a2.1, a2.2)) else (.inl ((K (a1.1 + 1) (g417 (a1.1 : Int32).toNatClampNeg 3) a2.1 a2.2).1, (K (a1.1 + 1) (g417 (a1.1 : Int32).toNatClampNeg 3) a2.1 a2.2).2)))
def fgo1_1 (r8 : Nat → Int32) (r73 : Nat → Int32) (g64 : Nat → Nat → Int32) (g417 : Nat → Nat → Int32) (n : Nat) (m : Nat) (K : Int32 → Int32 → (Nat → Int32) → (Nat → Int32) → (Nat → Int32) × (Nat → Int32)) (t : Int32) (k1 : Nat) (a1 : Int32 × (Nat → Int32) × (Nat → Int32)) : Sum (Int32 × (Nat → Int32) × (Nat → Int32)) (Int32 × (Nat → Int32) × (Nat → Int32)) := (if t ≤ a1.1 then (.inr (a1.1, a1.2.1, a1.2.2)) else (if 200 ≤ (a1.2.1 36) then (.inr (a1.1, a1.2.1, a1.2.2)) else (if (g417 (a1.1 : Int32).toNatClampNeg 0) = 6 then (Sum.elim (fun a2 => (.inl ((g417 (a1.1 : Int32).toNatClampNeg 3), a2.1, a2.2))) (fun r2_ => (.inl ((g417 (a1.1 : Int32).toNatClampNeg 3), r2_.1, r2_.2))) (jj_fx (fgo1_2 g417 K a1) (((g417 (a1.1 : Int32).toNatClampNeg 1) : Int32).toNatClampNeg) ((upd a1.2.1 (36) ((a1.2.1 36) + 1)), a1.2.2))) else (if (vX10_does r8 r73 a1.2.2 g64 g417 n m a1.1) = 0 then (.inl ((g417 (a1.1 : Int32).toNatClampNeg 3), (upd (upd (upd a1.2.1 (36) ((a1.2.1 36) + 1)) (37) ((a1.2.1 37) + 0)) (33) ((a1.2.1 33) + 1)), (rX10_does_497 r8 r73 a1.2.2 g64 g417 n m a1.1))) else (.inl ((g417 (a1.1 : Int32).toNatClampNeg 3), (upd (upd (upd a1.2.1 (36) ((a1.2.1 36) + 1)) (37) ((a1.2.1 37) + 1)) (33) ((a1.2.1 33) + 0)), (rX10_does_497 r8 r73 a1.2.2 g64 g417 n m a1.1)))))))
def rgo1_49 (r8 : Nat → Int32) (r49 : Nat → Int32) (r73 : Nat → Int32) (r497 : Nat → Int32) (g64 : Nat → Nat → Int32) (g417 : Nat → Nat → Int32) (n : Nat) (m : Nat) (K : Int32 → Int32 → (Nat → Int32) → (Nat → Int32) → (Nat → Int32) × (Nat → Int32)) (f : Int32) (t : Int32) : Nat → Int32 := (Sum.elim (fun a1 => a1.2.1) (fun r1_ => r1_.2.1) (jj_fx (fgo1_1 r8 r73 g64 g417 n m K t) 201 (f, r49, r497)))
def rgo1_497 (r8 : Nat → Int32) (r49 : Nat → Int32) (r73 : Nat → Int32) (r497 : Nat → Int32) (g64 : Nat → Nat → Int32) (g417 : Nat → Nat → Int32) (n : Nat) (m : Nat) (K : Int32 → Int32 → (Nat → Int32) → (Nat → Int32) → (Nat → Int32) × (Nat → Int32)) (f : Int32) (t : Int32) : Nat → Int32 := (Sum.elim (fun a1 => a1.2.2) (fun r1_ => r1_.2.2) (jj_fx (fgo1_1 r8 r73 g64 g417 n m K t) 201 (f, r49, r497)))
set_option maxHeartbeats 1000000 in
theorem sp_go1 {d kc ks : Nat} {h : Nat → Nat → Int32} {g : Nat → Nat → Int64} {Q : jj_Rs → jj_St → Prop} {n : Nat} {m : Nat} {z : Nat} {F : Nat} {E : Nat} {J : Nat} {K : Int32 → Int32 → (Nat → Int32) → (Nat → Int32) → (Nat → Int32) × (Nat → Int32)} {f : Int32} {t : Int32} (hT : h 53 0 = nI n) (hn : n ≤ 8) (hm2 : m ≤ 150) (hw : lawok (h 8) (jj_gd h 75 160) m) (hF : F ≤ 80) (hf : f = nI F) (hE : t = nI E) (hEz : E ≤ z) (hz : z ≤ 80) (hJ : E ≤ F + J + 1) (hv : mv m 0 (h 49)) (hpm : pmok z (jj_gd h 417 80)) (hnst : ∀ r, F ≤ r → r < E → (jj_gd h 417 80 r 3).toNatClampNeg ≤ E) (hK : ∀ f t r49 r497 k, mv m k r49 → mv m k (K f t r49 r497).1) (ih : ∀ {kc ks : Nat} {h2 : Nat → Nat → Int32} {g : Nat → Nat → Int64} {Q : jj_Rs → jj_St → Prop} {f2 t2 : Int32} {F2 E2 : Nat}, gook h h2 n m → f2 = nI F2 → F2 ≤ 80 → t2 = nI E2 → E2 ≤ z → E2 ≤ F2 + J → (∀ r, F2 ≤ r → r < E2 → (jj_gd h 417 80 r 3).toNatClampNeg ≤ E2) → (∀ h9, jj_eq [414, 415] h2 h9 → Q (.inl none) (jj_S, 782, jj_rs h9 [(49, (K f2 t2 (h2 49) (h2 497)).1), (497, (K f2 t2 (h2 49) (h2 497)).2)], g)) → jj_R mX10_goes (d + 8) kc ks (jj_S, 782, h2, g) 0 [(0, .ref 49), (1, .int f2), (2, .int t2)] [] Q) (kq : ∀ h9, jj_eq [414, 415] h h9 → Q (.inl none) (jj_S, 782, (jj_rs h9 [(49, (rgo1_49 (h 8) (h 49) (h 73) (h 497) (jj_gd h 64 8) (jj_gd h 417 80) n m K f t)), (497, (rgo1_497 (h 8) (h 49) (h 73) (h 497) (jj_gd h 64 8) (jj_gd h 417 80) n m K f t))]), g)) : jj_R mX10_goes (d + 9) kc ks (jj_S, 782, h, g) 0 [(0, .ref 49), (1, .int f), (2, .int t)] [] Q := by
  refine rr_iload_n 1 rfl rfl dX10_goes_0 ?_
  refine rr_istore_n [(0, .ref 49), (1, .int f), (2, .int t), (3, .int f)] dX10_goes_1 rfl (by decide) rfl ?_
  refine jj_Rh (jj_addr (B := h) (o := 49) (r := (h 49)) rfl) ?_
  refine jj_Rh (jj_rs_add (B := h) (L := [(49, (h 49))]) (L2 := [(49, (h 49)), (497, (h 497))]) (o := 497) (r := (h 497)) rfl rfl) ?_
  refine jj_forx (fun k1 (a1 : Int32 × (Nat → Int32) × (Nat → Int32)) => (gov m k1 F E a1.1 a1.2.1) → ∀ hc1, jj_eq [414, 415] h hc1 → jj_R _ _ kc ks (jj_S, 782, (jj_rs hc1 [(49, a1.2.1), (497, a1.2.2)]), g) 2 [(0, .ref 49), (1, .int f), (2, .int t), (3, .int a1.1)] [] Q) (fgo1_1 (h 8) (h 73) (jj_gd h 64 8) (jj_gd h 417 80) n m K t) 201 (f, (h 49), (h 497)) (fun (r1_ : Int32 × (Nat → Int32) × (Nat → Int32)) => ∀ hc1, jj_eq [414, 415] h hc1 → jj_R mX10_goes (d + 9) kc ks (jj_S, 782, (jj_rs hc1 [(49, r1_.2.1), (497, r1_.2.2)]), g) 156 [(0, .ref 49), (1, .int f), (2, .int t), (3, .int r1_.1)] [] Q) ?_ ?_ ?_ ⟨⟨F, hf, Nat.le_refl _, Or.inr rfl⟩, hv⟩ h jj_eq.rf
  · intro k1 hk1 a1 ih1 ix1 hi1 hc1 ec1
    try dsimp only at ih1 ix1 ⊢
    refine rr_iload_n 3 rfl rfl dX10_goes_2 ?_
    refine rr_iload_n 2 rfl rfl dX10_goes_3 ?_
    refine rr_icmp_ge dX10_goes_4 (fun c1 => ?_) (fun c1 => ?_)
    · skip
      try simp only [(nI_clamp (show k1 < 2 ^ 31 by omega))] at c1
      simpa only [nI_1, (nI_clamp (show k1 < 2 ^ 31 by omega)), fgo1_1, if_pos c1] using ix1 (a1.1, a1.2.1, a1.2.2) (by simp only [(nI_clamp (show k1 < 2 ^ 31 by omega)), fgo1_1, if_pos c1]) hc1 ec1
    · skip
      refine rr_aload_n 0 rfl rfl dX10_goes_7 ?_
      refine rr_getI dX10_goes_8 fX10_291 lo_49 sh_49 rfl ?_
      rw [show (jj_rs hc1 [(49, a1.2.1), (497, a1.2.2)]) 49 = a1.2.1 from rfl]
      refine rr_sipush 200 rfl dX10_goes_11 ?_
      refine rr_icmp_ge dX10_goes_14 (fun c2 => ?_) (fun c2 => ?_)
      · skip
        try simp only [(nI_clamp (show k1 < 2 ^ 31 by omega))] at c1
        try simp only [(nI_clamp (show k1 < 2 ^ 31 by omega))] at c2
        simpa only [nI_1, (nI_clamp (show k1 < 2 ^ 31 by omega)), fgo1_1, if_neg c1, if_pos c2] using ix1 (a1.1, a1.2.1, a1.2.2) (by simp only [(nI_clamp (show k1 < 2 ^ 31 by omega)), fgo1_1, if_neg c1, if_pos c2]) hc1 ec1
      · skip
        refine rr_aload_n 0 rfl rfl dX10_goes_17 ?_
        refine rr_dup rfl dX10_goes_18 ?_
        refine rr_getI dX10_goes_19 fX10_291 lo_49 sh_49 rfl ?_
        rw [show (jj_rs hc1 [(49, a1.2.1), (497, a1.2.2)]) 49 = a1.2.1 from rfl]
        refine rr_iconst 1 rfl dX10_goes_22 ?_
        refine rr_iadd dX10_goes_23 ?_
        refine rr_putI dX10_goes_24 fX10_291 ni10_36 lo_49 sh_49 rfl ?_
        rw [jj_rs_set (B := hc1) (L := [(49, a1.2.1), (497, a1.2.2)]) (L2 := [(49, (upd a1.2.1 (36) ((a1.2.1 36) + 1))), (497, a1.2.2)]) (r := a1.2.1) rfl rfl]
        refine rr_aload_n 0 rfl rfl dX10_goes_27 ?_
        refine rr_getR dX10_goes_28 fX10_58 lo_49 sh_49 rfl ?_
        refine rr_iload_n 3 rfl rfl dX10_goes_31 ?_
        refine rr_aaload dX10_goes_32 lo_416 sh_416 (go_in hi1 hE hEz hz hF (by assumption)) ?_
        refine rr_iconst 0 rfl dX10_goes_33 ?_
        refine rr_iaload dX10_goes_34 (lr_416 (jj_ink (i := a1.1) (go_in hi1 hE hEz hz hF (by assumption)))) (sr_416 (jj_ink (i := a1.1) (go_in hi1 hE hEz hz hF (by assumption)))) (jj_inL rfl) ?_
        rw [show (jj_rs hc1 [(49, (upd a1.2.1 (36) ((a1.2.1 36) + 1))), (497, a1.2.2)]) (417 + (a1.1 : Int32).toNatClampNeg) = jj_gd h 417 80 (a1.1 : Int32).toNatClampNeg from ((jj_gd_at (jj_ink (i := a1.1) (go_in hi1 hE hEz hz hF (by assumption)))).trans (congrFun ((jj_gd_rs (B := hc1) (L := [(49, (upd a1.2.1 (36) ((a1.2.1 36) + 1))), (497, a1.2.2)]) (b := 417) (len := 80) rfl).trans (jj_gd_eq (b := 417) (len := 80) ec1 rfl)) _))]
        rw [show jj_gd h 417 80 (a1.1 : Int32).toNatClampNeg (0 : Int32).toNatClampNeg = jj_gd h 417 80 (a1.1 : Int32).toNatClampNeg 0 from rfl]
        refine rr_bipush 6 rfl dX10_goes_35 ?_
        refine rr_icmp_ne dX10_goes_37 (fun c3 => ?_) (fun c3 => ?_)
        · skip
          refine rr_aload_n 0 rfl rfl dX10_goes_90 ?_
          refine rr_aload_n 0 rfl rfl dX10_goes_91 ?_
          refine rr_getR dX10_goes_92 fX10_61 lo_49 sh_49 rfl ?_
          refine rr_aload_n 0 rfl rfl dX10_goes_95 ?_
          refine rr_getR dX10_goes_96 fX10_58 lo_49 sh_49 rfl ?_
          refine rr_iload_n 3 rfl rfl dX10_goes_99 ?_
          refine rr_aaload dX10_goes_100 lo_416 sh_416 (go_in hi1 hE hEz hz hF (by assumption)) ?_
          refine rr_callV (As := [.ref 497, .ref (417 + (a1.1 : Int32).toNatClampNeg)]) (rest := []) (kc2 := 0) (ks2 := 0) dX10_goes_101 okX10_does lX10_297 lo_49 sh_49 rfl rfl (Nat.le_of_ble_eq_true rfl) (Nat.le_of_ble_eq_true rfl) rfl (by omega) (by simp [jj_rk] <;> first | exact Or.inl (lr_416 (jj_ink (i := a1.1) (go_in hi1 hE hEz hz hF (by assumption))))) (by simp [jj_rk] <;> first | exact Or.inl (lr_416 (jj_ink (i := a1.1) (go_in hi1 hE hEz hz hF (by assumption))))) ?_
          refine sp_X10_does (go_in hi1 hE hEz hz hF (by assumption)) (gm_a ((jj_gd_rs (B := hc1) (L := [(49, (upd a1.2.1 (36) ((a1.2.1 36) + 1))), (497, a1.2.2)]) (b := 417) (len := 80) rfl).trans (jj_gd_eq (b := 417) (len := 80) ec1 rfl)) (hpm _ (go_cl hi1 hE hEz hz hF (by assumption))).1.1) (gm_b ((jj_gd_rs (B := hc1) (L := [(49, (upd a1.2.1 (36) ((a1.2.1 36) + 1))), (497, a1.2.2)]) (b := 417) (len := 80) rfl).trans (jj_gd_eq (b := 417) (len := 80) ec1 rfl)) (hpm _ (go_cl hi1 hE hEz hz hF (by assumption))).1.2) (by first | exact hT | exact (congrFun (ec1 53 (by decide)) 0).trans hT) hn (by exact hi1.2.1) hm2 (lw_to ((jj_gd_rs (B := hc1) (L := [(49, (upd a1.2.1 (36) ((a1.2.1 36) + 1))), (497, a1.2.2)]) (b := 75) (len := 160) rfl).trans (jj_gd_eq (b := 75) (len := 160) ec1 rfl)) (show (jj_rs hc1 [(49, (upd a1.2.1 (36) ((a1.2.1 36) + 1))), (497, a1.2.2)]) 8 = h 8 from ec1 8 (by decide)) hw) (fun h4 e5 => ?_)
          obtain ⟨h7, e6, rfl⟩ := jj_lo (X := [414, 415]) ec1 e5 (by decide) (by simp [List.lookup])
          show jj_R _ _ kc ks (jj_S, 782, (jj_rs (jj_rs h7 [(49, (upd a1.2.1 (36) ((a1.2.1 36) + 1))), (497, a1.2.2)]) [(497, (rX10_does_497 (hc1 8) (hc1 73) a1.2.2 (jj_gd (jj_rs hc1 [(49, (upd a1.2.1 (36) ((a1.2.1 36) + 1))), (497, a1.2.2)]) 64 8) (jj_gd (jj_rs hc1 [(49, (upd a1.2.1 (36) ((a1.2.1 36) + 1))), (497, a1.2.2)]) 417 80) n m a1.1))]), g) 104 [(0, .ref 49), (1, .int f), (2, .int t), (3, .int a1.1)] [.int (vX10_does (hc1 8) (hc1 73) a1.2.2 (jj_gd (jj_rs hc1 [(49, (upd a1.2.1 (36) ((a1.2.1 36) + 1))), (497, a1.2.2)]) 64 8) (jj_gd (jj_rs hc1 [(49, (upd a1.2.1 (36) ((a1.2.1 36) + 1))), (497, a1.2.2)]) 417 80) n m a1.1)] Q
          rw [jj_rs_rs (B := h7) (L := [(49, (upd a1.2.1 (36) ((a1.2.1 36) + 1))), (497, a1.2.2)]) (M := [(497, (rX10_does_497 (hc1 8) (hc1 73) a1.2.2 (jj_gd (jj_rs hc1 [(49, (upd a1.2.1 (36) ((a1.2.1 36) + 1))), (497, a1.2.2)]) 64 8) (jj_gd (jj_rs hc1 [(49, (upd a1.2.1 (36) ((a1.2.1 36) + 1))), (497, a1.2.2)]) 417 80) n m a1.1))]) (L2 := [(49, (upd a1.2.1 (36) ((a1.2.1 36) + 1))), (497, (rX10_does_497 (hc1 8) (hc1 73) a1.2.2 (jj_gd (jj_rs hc1 [(49, (upd a1.2.1 (36) ((a1.2.1 36) + 1))), (497, a1.2.2)]) 64 8) (jj_gd (jj_rs hc1 [(49, (upd a1.2.1 (36) ((a1.2.1 36) + 1))), (497, a1.2.2)]) 417 80) n m a1.1))]) rfl]
          try rw [ec1 8 (by decide)]
          try rw [ec1 73 (by decide)]
          try rw [show jj_gd (jj_rs hc1 [(49, (upd a1.2.1 (36) ((a1.2.1 36) + 1))), (497, a1.2.2)]) 64 8 = jj_gd h 64 8 from ((jj_gd_rs (B := hc1) (L := [(49, (upd a1.2.1 (36) ((a1.2.1 36) + 1))), (497, a1.2.2)]) (b := 64) (len := 8) rfl).trans (jj_gd_eq (b := 64) (len := 8) ec1 rfl))]
          try rw [show jj_gd (jj_rs hc1 [(49, (upd a1.2.1 (36) ((a1.2.1 36) + 1))), (497, a1.2.2)]) 417 80 = jj_gd h 417 80 from ((jj_gd_rs (B := hc1) (L := [(49, (upd a1.2.1 (36) ((a1.2.1 36) + 1))), (497, a1.2.2)]) (b := 417) (len := 80) rfl).trans (jj_gd_eq (b := 417) (len := 80) ec1 rfl))]
          refine rr_istore [(0, .ref 49), (1, .int f), (2, .int t), (3, .int a1.1), (4, .int (vX10_does (h 8) (h 73) a1.2.2 (jj_gd h 64 8) (jj_gd h 417 80) n m a1.1))] dX10_goes_104 (by decide) rfl ?_
          refine rr_aload_n 0 rfl rfl dX10_goes_106 ?_
          refine rr_dup rfl dX10_goes_107 ?_
          refine rr_getI dX10_goes_108 fX10_301 lo_49 sh_49 rfl ?_
          rw [show (jj_rs h7 [(49, (upd a1.2.1 (36) ((a1.2.1 36) + 1))), (497, (rX10_does_497 (h 8) (h 73) a1.2.2 (jj_gd h 64 8) (jj_gd h 417 80) n m a1.1))]) 49 = (upd a1.2.1 (36) ((a1.2.1 36) + 1)) from rfl]
          rw [show (upd a1.2.1 (36) ((a1.2.1 36) + 1)) 37 = a1.2.1 37 from rfl]
          refine rr_iload 4 rfl dX10_goes_111 ?_
          refine rr_if_eq dX10_goes_113 (fun c8 => ?_) (fun c8 => ?_)
          · skip
            refine rr_iconst 0 rfl dX10_goes_120 ?_
            refine rr_iadd dX10_goes_121 ?_
            refine rr_putI dX10_goes_122 fX10_301 ni10_37 lo_49 sh_49 rfl ?_
            rw [jj_rs_set (B := h7) (L := [(49, (upd a1.2.1 (36) ((a1.2.1 36) + 1))), (497, (rX10_does_497 (h 8) (h 73) a1.2.2 (jj_gd h 64 8) (jj_gd h 417 80) n m a1.1))]) (L2 := [(49, (upd (upd a1.2.1 (36) ((a1.2.1 36) + 1)) (37) ((a1.2.1 37) + 0))), (497, (rX10_does_497 (h 8) (h 73) a1.2.2 (jj_gd h 64 8) (jj_gd h 417 80) n m a1.1))]) (r := (upd a1.2.1 (36) ((a1.2.1 36) + 1))) rfl rfl]
            refine rr_aload_n 0 rfl rfl dX10_goes_125 ?_
            refine rr_dup rfl dX10_goes_126 ?_
            refine rr_getI dX10_goes_127 fX10_197 lo_49 sh_49 rfl ?_
            rw [show (jj_rs h7 [(49, (upd (upd a1.2.1 (36) ((a1.2.1 36) + 1)) (37) ((a1.2.1 37) + 0))), (497, (rX10_does_497 (h 8) (h 73) a1.2.2 (jj_gd h 64 8) (jj_gd h 417 80) n m a1.1))]) 49 = (upd (upd a1.2.1 (36) ((a1.2.1 36) + 1)) (37) ((a1.2.1 37) + 0)) from rfl]
            rw [show (upd (upd a1.2.1 (36) ((a1.2.1 36) + 1)) (37) ((a1.2.1 37) + 0)) 33 = a1.2.1 33 from rfl]
            refine rr_iload 4 rfl dX10_goes_130 ?_
            refine rr_if_eq dX10_goes_132 (fun _ => ?_) (fun c => absurd c8 c)
            refine rr_iconst 1 rfl dX10_goes_139 ?_
            refine rr_iadd dX10_goes_140 ?_
            refine rr_putI dX10_goes_141 fX10_197 ni10_33 lo_49 sh_49 rfl ?_
            rw [jj_rs_set (B := h7) (L := [(49, (upd (upd a1.2.1 (36) ((a1.2.1 36) + 1)) (37) ((a1.2.1 37) + 0))), (497, (rX10_does_497 (h 8) (h 73) a1.2.2 (jj_gd h 64 8) (jj_gd h 417 80) n m a1.1))]) (L2 := [(49, (upd (upd (upd a1.2.1 (36) ((a1.2.1 36) + 1)) (37) ((a1.2.1 37) + 0)) (33) ((a1.2.1 33) + 1))), (497, (rX10_does_497 (h 8) (h 73) a1.2.2 (jj_gd h 64 8) (jj_gd h 417 80) n m a1.1))]) (r := (upd (upd a1.2.1 (36) ((a1.2.1 36) + 1)) (37) ((a1.2.1 37) + 0))) rfl rfl]
            refine rr_aload_n 0 rfl rfl dX10_goes_144 ?_
            refine rr_getR dX10_goes_145 fX10_58 lo_49 sh_49 rfl ?_
            refine rr_iload_n 3 rfl rfl dX10_goes_148 ?_
            refine rr_aaload dX10_goes_149 lo_416 sh_416 (go_in hi1 hE hEz hz hF (by assumption)) ?_
            refine rr_iconst 3 rfl dX10_goes_150 ?_
            refine rr_iaload dX10_goes_151 (lr_416 (jj_ink (i := a1.1) (go_in hi1 hE hEz hz hF (by assumption)))) (sr_416 (jj_ink (i := a1.1) (go_in hi1 hE hEz hz hF (by assumption)))) (jj_inL rfl) ?_
            rw [show (jj_rs h7 [(49, (upd (upd (upd a1.2.1 (36) ((a1.2.1 36) + 1)) (37) ((a1.2.1 37) + 0)) (33) ((a1.2.1 33) + 1))), (497, (rX10_does_497 (h 8) (h 73) a1.2.2 (jj_gd h 64 8) (jj_gd h 417 80) n m a1.1))]) (417 + (a1.1 : Int32).toNatClampNeg) = jj_gd h 417 80 (a1.1 : Int32).toNatClampNeg from ((jj_gd_at (jj_ink (i := a1.1) (go_in hi1 hE hEz hz hF (by assumption)))).trans (congrFun ((jj_gd_rs (B := h7) (L := [(49, (upd (upd (upd a1.2.1 (36) ((a1.2.1 36) + 1)) (37) ((a1.2.1 37) + 0)) (33) ((a1.2.1 33) + 1))), (497, (rX10_does_497 (h 8) (h 73) a1.2.2 (jj_gd h 64 8) (jj_gd h 417 80) n m a1.1))]) (b := 417) (len := 80) rfl).trans (jj_gd_eq (b := 417) (len := 80) e6 rfl)) _))]
            rw [show jj_gd h 417 80 (a1.1 : Int32).toNatClampNeg (3 : Int32).toNatClampNeg = jj_gd h 417 80 (a1.1 : Int32).toNatClampNeg 3 from rfl]
            refine rr_istore_n [(0, .ref 49), (1, .int f), (2, .int t), (3, .int ((jj_gd h 417 80) (a1.1 : Int32).toNatClampNeg 3)), (4, .int (vX10_does (h 8) (h 73) a1.2.2 (jj_gd h 64 8) (jj_gd h 417 80) n m a1.1))] dX10_goes_152 rfl (by decide) rfl ?_
            refine rr_goto dX10_goes_153 ?_
            try simp only [(nI_clamp (show k1 < 2 ^ 31 by omega))] at c1
            try simp only [(nI_clamp (show k1 < 2 ^ 31 by omega))] at c2
            try simp only [(nI_clamp (show k1 < 2 ^ 31 by omega))] at c3
            try simp only [(nI_clamp (show k1 < 2 ^ 31 by omega))] at c8
            refine rr_drop (ls := [(0, .ref 49), (1, .int f), (2, .int t), (3, .int ((jj_gd h 417 80) (a1.1 : Int32).toNatClampNeg 3))]) [0, 1, 2, 3] rfl ?_
            simpa only [nI_1, (nI_clamp (show k1 < 2 ^ 31 by omega)), fgo1_1, if_neg c1, if_neg c2, if_neg c3, if_pos c8] using ih1 (((jj_gd h 417 80) (a1.1 : Int32).toNatClampNeg 3), (upd (upd (upd a1.2.1 (36) ((a1.2.1 36) + 1)) (37) ((a1.2.1 37) + 0)) (33) ((a1.2.1 33) + 1)), (rX10_does_497 (h 8) (h 73) a1.2.2 (jj_gd h 64 8) (jj_gd h 417 80) n m a1.1)) (by simp only [(nI_clamp (show k1 < 2 ^ 31 by omega)), fgo1_1, if_neg c1, if_neg c2, if_neg c3, if_pos c8]) (go_nx hpm hnst hi1 hE hEz hz hF (by assumption) (mv_cnt (mv_up hi1.2 (by assumption)))) h7 e6
          · skip
            refine rr_iconst 1 rfl dX10_goes_116 ?_
            refine rr_goto dX10_goes_117 ?_
            refine rr_iadd dX10_goes_121 ?_
            refine rr_putI dX10_goes_122 fX10_301 ni10_37 lo_49 sh_49 rfl ?_
            rw [jj_rs_set (B := h7) (L := [(49, (upd a1.2.1 (36) ((a1.2.1 36) + 1))), (497, (rX10_does_497 (h 8) (h 73) a1.2.2 (jj_gd h 64 8) (jj_gd h 417 80) n m a1.1))]) (L2 := [(49, (upd (upd a1.2.1 (36) ((a1.2.1 36) + 1)) (37) ((a1.2.1 37) + 1))), (497, (rX10_does_497 (h 8) (h 73) a1.2.2 (jj_gd h 64 8) (jj_gd h 417 80) n m a1.1))]) (r := (upd a1.2.1 (36) ((a1.2.1 36) + 1))) rfl rfl]
            refine rr_aload_n 0 rfl rfl dX10_goes_125 ?_
            refine rr_dup rfl dX10_goes_126 ?_
            refine rr_getI dX10_goes_127 fX10_197 lo_49 sh_49 rfl ?_
            rw [show (jj_rs h7 [(49, (upd (upd a1.2.1 (36) ((a1.2.1 36) + 1)) (37) ((a1.2.1 37) + 1))), (497, (rX10_does_497 (h 8) (h 73) a1.2.2 (jj_gd h 64 8) (jj_gd h 417 80) n m a1.1))]) 49 = (upd (upd a1.2.1 (36) ((a1.2.1 36) + 1)) (37) ((a1.2.1 37) + 1)) from rfl]
            rw [show (upd (upd a1.2.1 (36) ((a1.2.1 36) + 1)) (37) ((a1.2.1 37) + 1)) 33 = a1.2.1 33 from rfl]
            refine rr_iload 4 rfl dX10_goes_130 ?_
            refine rr_if_eq dX10_goes_132 (fun c => absurd c c8) (fun _ => ?_)
            refine rr_iconst 0 rfl dX10_goes_135 ?_
            refine rr_goto dX10_goes_136 ?_
            refine rr_iadd dX10_goes_140 ?_
            refine rr_putI dX10_goes_141 fX10_197 ni10_33 lo_49 sh_49 rfl ?_
            rw [jj_rs_set (B := h7) (L := [(49, (upd (upd a1.2.1 (36) ((a1.2.1 36) + 1)) (37) ((a1.2.1 37) + 1))), (497, (rX10_does_497 (h 8) (h 73) a1.2.2 (jj_gd h 64 8) (jj_gd h 417 80) n m a1.1))]) (L2 := [(49, (upd (upd (upd a1.2.1 (36) ((a1.2.1 36) + 1)) (37) ((a1.2.1 37) + 1)) (33) ((a1.2.1 33) + 0))), (497, (rX10_does_497 (h 8) (h 73) a1.2.2 (jj_gd h 64 8) (jj_gd h 417 80) n m a1.1))]) (r := (upd (upd a1.2.1 (36) ((a1.2.1 36) + 1)) (37) ((a1.2.1 37) + 1))) rfl rfl]
            refine rr_aload_n 0 rfl rfl dX10_goes_144 ?_
            refine rr_getR dX10_goes_145 fX10_58 lo_49 sh_49 rfl ?_
            refine rr_iload_n 3 rfl rfl dX10_goes_148 ?_
            refine rr_aaload dX10_goes_149 lo_416 sh_416 (go_in hi1 hE hEz hz hF (by assumption)) ?_
            refine rr_iconst 3 rfl dX10_goes_150 ?_
            refine rr_iaload dX10_goes_151 (lr_416 (jj_ink (i := a1.1) (go_in hi1 hE hEz hz hF (by assumption)))) (sr_416 (jj_ink (i := a1.1) (go_in hi1 hE hEz hz hF (by assumption)))) (jj_inL rfl) ?_
            rw [show (jj_rs h7 [(49, (upd (upd (upd a1.2.1 (36) ((a1.2.1 36) + 1)) (37) ((a1.2.1 37) + 1)) (33) ((a1.2.1 33) + 0))), (497, (rX10_does_497 (h 8) (h 73) a1.2.2 (jj_gd h 64 8) (jj_gd h 417 80) n m a1.1))]) (417 + (a1.1 : Int32).toNatClampNeg) = jj_gd h 417 80 (a1.1 : Int32).toNatClampNeg from ((jj_gd_at (jj_ink (i := a1.1) (go_in hi1 hE hEz hz hF (by assumption)))).trans (congrFun ((jj_gd_rs (B := h7) (L := [(49, (upd (upd (upd a1.2.1 (36) ((a1.2.1 36) + 1)) (37) ((a1.2.1 37) + 1)) (33) ((a1.2.1 33) + 0))), (497, (rX10_does_497 (h 8) (h 73) a1.2.2 (jj_gd h 64 8) (jj_gd h 417 80) n m a1.1))]) (b := 417) (len := 80) rfl).trans (jj_gd_eq (b := 417) (len := 80) e6 rfl)) _))]
            rw [show jj_gd h 417 80 (a1.1 : Int32).toNatClampNeg (3 : Int32).toNatClampNeg = jj_gd h 417 80 (a1.1 : Int32).toNatClampNeg 3 from rfl]
            refine rr_istore_n [(0, .ref 49), (1, .int f), (2, .int t), (3, .int ((jj_gd h 417 80) (a1.1 : Int32).toNatClampNeg 3)), (4, .int (vX10_does (h 8) (h 73) a1.2.2 (jj_gd h 64 8) (jj_gd h 417 80) n m a1.1))] dX10_goes_152 rfl (by decide) rfl ?_
            refine rr_goto dX10_goes_153 ?_
            try simp only [(nI_clamp (show k1 < 2 ^ 31 by omega))] at c1
            try simp only [(nI_clamp (show k1 < 2 ^ 31 by omega))] at c2
            try simp only [(nI_clamp (show k1 < 2 ^ 31 by omega))] at c3
            try simp only [(nI_clamp (show k1 < 2 ^ 31 by omega))] at c8
            refine rr_drop (ls := [(0, .ref 49), (1, .int f), (2, .int t), (3, .int ((jj_gd h 417 80) (a1.1 : Int32).toNatClampNeg 3))]) [0, 1, 2, 3] rfl ?_
            simpa only [nI_1, (nI_clamp (show k1 < 2 ^ 31 by omega)), fgo1_1, if_neg c1, if_neg c2, if_neg c3, if_neg c8] using ih1 (((jj_gd h 417 80) (a1.1 : Int32).toNatClampNeg 3), (upd (upd (upd a1.2.1 (36) ((a1.2.1 36) + 1)) (37) ((a1.2.1 37) + 1)) (33) ((a1.2.1 33) + 0)), (rX10_does_497 (h 8) (h 73) a1.2.2 (jj_gd h 64 8) (jj_gd h 417 80) n m a1.1)) (by simp only [(nI_clamp (show k1 < 2 ^ 31 by omega)), fgo1_1, if_neg c1, if_neg c2, if_neg c3, if_neg c8]) (go_nx hpm hnst hi1 hE hEz hz hF (by assumption) (mv_cnt (mv_up hi1.2 (by assumption)))) h7 e6
        · skip
          have hq1 := go_q hpm (go_cl hi1 hE hEz hz hF (by assumption)) (by assumption)
          obtain ⟨F2, E2, hg1, hg2, hg3, hg4, hg5, hg6⟩ := go_call hpm hnst hi1 hE hEz hz hF hJ (by assumption) (by assumption)
          refine rr_iconst 0 rfl dX10_goes_40 ?_
          refine rr_istore [(0, .ref 49), (1, .int f), (2, .int t), (3, .int a1.1), (4, .int 0)] dX10_goes_41 (by decide) rfl ?_
          refine jj_forx (fun k2 (a2 : (Nat → Int32) × (Nat → Int32)) => (mv m (k1 + 1) a2.1) → ∀ hc2, jj_eq [414, 415] h hc2 → jj_R _ _ kc ks (jj_S, 782, (jj_rs hc2 [(49, a2.1), (497, a2.2)]), g) 43 [(0, .ref 49), (1, .int f), (2, .int t), (3, .int a1.1), (4, .int (nI k2))] [] Q) (fgo1_2 (jj_gd h 417 80) K a1) ((((jj_gd h 417 80) (a1.1 : Int32).toNatClampNeg 1) : Int32).toNatClampNeg) ((upd a1.2.1 (36) ((a1.2.1 36) + 1)), a1.2.2) (fun (r2_ : (Nat → Int32) × (Nat → Int32)) => (mv m (k1 + 1) r2_.1) → ∀ hc2, jj_eq [414, 415] h hc2 → jj_R mX10_goes (d + 9) kc ks (jj_S, 782, (jj_rs hc2 [(49, r2_.1), (497, r2_.2)]), g) 87 [(0, .ref 49), (1, .int f), (2, .int t), (3, .int a1.1)] [] Q) ?_ ?_ ?_ (mv_up hi1.2 (by assumption)) hc1 ec1
          · intro k2 hk2 a2 ih2 ix2 hi2 hc2 ec2
            try dsimp only at ih2 ix2 ⊢
            refine rr_iload 4 rfl dX10_goes_43 ?_
            refine rr_aload_n 0 rfl rfl dX10_goes_45 ?_
            refine rr_getR dX10_goes_46 fX10_58 lo_49 sh_49 rfl ?_
            refine rr_iload_n 3 rfl rfl dX10_goes_49 ?_
            refine rr_aaload dX10_goes_50 lo_416 sh_416 (go_in hi1 hE hEz hz hF (by assumption)) ?_
            refine rr_iconst 1 rfl dX10_goes_51 ?_
            refine rr_iaload dX10_goes_52 (lr_416 (jj_ink (i := a1.1) (go_in hi1 hE hEz hz hF (by assumption)))) (sr_416 (jj_ink (i := a1.1) (go_in hi1 hE hEz hz hF (by assumption)))) (jj_inL rfl) ?_
            rw [show (jj_rs hc2 [(49, a2.1), (497, a2.2)]) (417 + (a1.1 : Int32).toNatClampNeg) = jj_gd h 417 80 (a1.1 : Int32).toNatClampNeg from ((jj_gd_at (jj_ink (i := a1.1) (go_in hi1 hE hEz hz hF (by assumption)))).trans (congrFun ((jj_gd_rs (B := hc2) (L := [(49, a2.1), (497, a2.2)]) (b := 417) (len := 80) rfl).trans (jj_gd_eq (b := 417) (len := 80) ec2 rfl)) _))]
            rw [show jj_gd h 417 80 (a1.1 : Int32).toNatClampNeg (1 : Int32).toNatClampNeg = jj_gd h 417 80 (a1.1 : Int32).toNatClampNeg 1 from rfl]
            refine rr_icmp_ge dX10_goes_53 (fun c => absurd c (by rw [hq1.1]; exact nI_ge (a := k2) (b := (((jj_gd h 417 80) (a1.1 : Int32).toNatClampNeg 1) : Int32).toNatClampNeg) (by omega) (by omega))) (fun _ => ?_)
            refine rr_aload_n 0 rfl rfl dX10_goes_56 ?_
            refine rr_getI dX10_goes_57 fX10_291 lo_49 sh_49 rfl ?_
            rw [show (jj_rs hc2 [(49, a2.1), (497, a2.2)]) 49 = a2.1 from rfl]
            refine rr_sipush 200 rfl dX10_goes_60 ?_
            refine rr_icmp_ge dX10_goes_63 (fun c9 => ?_) (fun c9 => ?_)
            · skip
              try simp only [(nI_clamp (show k2 < 2 ^ 31 by omega))] at c9
              refine rr_drop (ls := [(0, .ref 49), (1, .int f), (2, .int t), (3, .int a1.1)]) [0, 1, 2, 3] rfl ?_
              simpa only [nI_1, (nI_clamp (show k2 < 2 ^ 31 by omega)), fgo1_2, if_pos c9] using ix2 (a2.1, a2.2) (by simp only [(nI_clamp (show k2 < 2 ^ 31 by omega)), fgo1_2, if_pos c9]) hi2 hc2 ec2
            · skip
              refine rr_aload_n 0 rfl rfl dX10_goes_66 ?_
              refine rr_iload_n 3 rfl rfl dX10_goes_67 ?_
              refine rr_iconst 1 rfl dX10_goes_68 ?_
              refine rr_iadd dX10_goes_69 ?_
              refine rr_aload_n 0 rfl rfl dX10_goes_70 ?_
              refine rr_getR dX10_goes_71 fX10_58 lo_49 sh_49 rfl ?_
              refine rr_iload_n 3 rfl rfl dX10_goes_74 ?_
              refine rr_aaload dX10_goes_75 lo_416 sh_416 (go_in hi1 hE hEz hz hF (by assumption)) ?_
              refine rr_iconst 3 rfl dX10_goes_76 ?_
              refine rr_iaload dX10_goes_77 (lr_416 (jj_ink (i := a1.1) (go_in hi1 hE hEz hz hF (by assumption)))) (sr_416 (jj_ink (i := a1.1) (go_in hi1 hE hEz hz hF (by assumption)))) (jj_inL rfl) ?_
              rw [show (jj_rs hc2 [(49, a2.1), (497, a2.2)]) (417 + (a1.1 : Int32).toNatClampNeg) = jj_gd h 417 80 (a1.1 : Int32).toNatClampNeg from ((jj_gd_at (jj_ink (i := a1.1) (go_in hi1 hE hEz hz hF (by assumption)))).trans (congrFun ((jj_gd_rs (B := hc2) (L := [(49, a2.1), (497, a2.2)]) (b := 417) (len := 80) rfl).trans (jj_gd_eq (b := 417) (len := 80) ec2 rfl)) _))]
              rw [show jj_gd h 417 80 (a1.1 : Int32).toNatClampNeg (3 : Int32).toNatClampNeg = jj_gd h 417 80 (a1.1 : Int32).toNatClampNeg 3 from rfl]
              refine rr_callV (As := [.int (a1.1 + 1), .int ((jj_gd h 417 80) (a1.1 : Int32).toNatClampNeg 3)]) (rest := []) (kc2 := 0) (ks2 := 0) dX10_goes_78 okX10_goes lX10_294 lo_49 sh_49 rfl rfl (Nat.le_of_ble_eq_true rfl) (Nat.le_of_ble_eq_true rfl) rfl (by omega) (by simp [jj_rk]) (by simp [jj_rk]) ?_
              refine ih ⟨(by first | exact hT | exact (congrFun (ec2 53 (by decide)) 0).trans hT), (show (jj_rs hc2 [(49, a2.1), (497, a2.2)]) 8 = h 8 from ec2 8 (by decide)), (show (jj_rs hc2 [(49, a2.1), (497, a2.2)]) 73 = h 73 from ec2 73 (by decide)), ((jj_gd_rs (B := hc2) (L := [(49, a2.1), (497, a2.2)]) (b := 64) (len := 8) rfl).trans (jj_gd_eq (b := 64) (len := 8) ec2 rfl)), ((jj_gd_rs (B := hc2) (L := [(49, a2.1), (497, a2.2)]) (b := 75) (len := 160) rfl).trans (jj_gd_eq (b := 75) (len := 160) ec2 rfl)), ((jj_gd_rs (B := hc2) (L := [(49, a2.1), (497, a2.2)]) (b := 417) (len := 80) rfl).trans (jj_gd_eq (b := 417) (len := 80) ec2 rfl)), (mv_0 hi2)⟩ hg1 hg2 hg3 hg4 hg5 hg6 (fun h10 e11 => ?_)
              obtain ⟨h13, e12, rfl⟩ := jj_lo (X := [414, 415]) ec2 e11 (by decide) (by simp [List.lookup])
              show jj_R _ _ kc ks (jj_S, 782, (jj_rs (jj_rs h13 [(49, a2.1), (497, a2.2)]) [(49, (K (a1.1 + 1) ((jj_gd h 417 80) (a1.1 : Int32).toNatClampNeg 3) a2.1 a2.2).1), (497, (K (a1.1 + 1) ((jj_gd h 417 80) (a1.1 : Int32).toNatClampNeg 3) a2.1 a2.2).2)]), g) 81 [(0, .ref 49), (1, .int f), (2, .int t), (3, .int a1.1), (4, .int (nI k2))] [] Q
              rw [jj_rs_rs (B := h13) (L := [(49, a2.1), (497, a2.2)]) (M := [(49, (K (a1.1 + 1) ((jj_gd h 417 80) (a1.1 : Int32).toNatClampNeg 3) a2.1 a2.2).1), (497, (K (a1.1 + 1) ((jj_gd h 417 80) (a1.1 : Int32).toNatClampNeg 3) a2.1 a2.2).2)]) (L2 := [(49, (K (a1.1 + 1) ((jj_gd h 417 80) (a1.1 : Int32).toNatClampNeg 3) a2.1 a2.2).1), (497, (K (a1.1 + 1) ((jj_gd h 417 80) (a1.1 : Int32).toNatClampNeg 3) a2.1 a2.2).2)]) rfl]
              refine rr_iinc 4 1 [(0, .ref 49), (1, .int f), (2, .int t), (3, .int a1.1), (4, .int ((nI k2) + 1))] dX10_goes_81 rfl rfl (by decide) rfl ?_
              refine rr_goto dX10_goes_84 ?_
              try simp only [(nI_clamp (show k2 < 2 ^ 31 by omega))] at c9
              simpa only [nI_1, (nI_clamp (show k2 < 2 ^ 31 by omega)), fgo1_2, if_neg c9] using ih2 ((K (a1.1 + 1) ((jj_gd h 417 80) (a1.1 : Int32).toNatClampNeg 3) a2.1 a2.2).1, (K (a1.1 + 1) ((jj_gd h 417 80) (a1.1 : Int32).toNatClampNeg 3) a2.1 a2.2).2) (by simp only [(nI_clamp (show k2 < 2 ^ 31 by omega)), fgo1_2, if_neg c9]) (hK _ _ _ _ _ hi2) h13 e12
          · intro a2 hx2 hi2 hc2 ec2
            try dsimp only
            refine rr_iload 4 rfl dX10_goes_43 ?_
            refine rr_aload_n 0 rfl rfl dX10_goes_45 ?_
            refine rr_getR dX10_goes_46 fX10_58 lo_49 sh_49 rfl ?_
            refine rr_iload_n 3 rfl rfl dX10_goes_49 ?_
            refine rr_aaload dX10_goes_50 lo_416 sh_416 (go_in hi1 hE hEz hz hF (by assumption)) ?_
            refine rr_iconst 1 rfl dX10_goes_51 ?_
            refine rr_iaload dX10_goes_52 (lr_416 (jj_ink (i := a1.1) (go_in hi1 hE hEz hz hF (by assumption)))) (sr_416 (jj_ink (i := a1.1) (go_in hi1 hE hEz hz hF (by assumption)))) (jj_inL rfl) ?_
            rw [show (jj_rs hc2 [(49, a2.1), (497, a2.2)]) (417 + (a1.1 : Int32).toNatClampNeg) = jj_gd h 417 80 (a1.1 : Int32).toNatClampNeg from ((jj_gd_at (jj_ink (i := a1.1) (go_in hi1 hE hEz hz hF (by assumption)))).trans (congrFun ((jj_gd_rs (B := hc2) (L := [(49, a2.1), (497, a2.2)]) (b := 417) (len := 80) rfl).trans (jj_gd_eq (b := 417) (len := 80) ec2 rfl)) _))]
            rw [show jj_gd h 417 80 (a1.1 : Int32).toNatClampNeg (1 : Int32).toNatClampNeg = jj_gd h 417 80 (a1.1 : Int32).toNatClampNeg 1 from rfl]
            refine rr_icmp_ge dX10_goes_53 (fun _ => ?_) (fun c => absurd (by rw [← hq1.1]; exact jj_le_rf _) c)
            refine rr_goto dX10_goes_87 ?_
            refine rr_aload_n 0 rfl rfl dX10_goes_144 ?_
            refine rr_getR dX10_goes_145 fX10_58 lo_49 sh_49 rfl ?_
            refine rr_iload_n 3 rfl rfl dX10_goes_148 ?_
            refine rr_aaload dX10_goes_149 lo_416 sh_416 (go_in hi1 hE hEz hz hF (by assumption)) ?_
            refine rr_iconst 3 rfl dX10_goes_150 ?_
            refine rr_iaload dX10_goes_151 (lr_416 (jj_ink (i := a1.1) (go_in hi1 hE hEz hz hF (by assumption)))) (sr_416 (jj_ink (i := a1.1) (go_in hi1 hE hEz hz hF (by assumption)))) (jj_inL rfl) ?_
            rw [show (jj_rs hc2 [(49, a2.1), (497, a2.2)]) (417 + (a1.1 : Int32).toNatClampNeg) = jj_gd h 417 80 (a1.1 : Int32).toNatClampNeg from ((jj_gd_at (jj_ink (i := a1.1) (go_in hi1 hE hEz hz hF (by assumption)))).trans (congrFun ((jj_gd_rs (B := hc2) (L := [(49, a2.1), (497, a2.2)]) (b := 417) (len := 80) rfl).trans (jj_gd_eq (b := 417) (len := 80) ec2 rfl)) _))]
            rw [show jj_gd h 417 80 (a1.1 : Int32).toNatClampNeg (3 : Int32).toNatClampNeg = jj_gd h 417 80 (a1.1 : Int32).toNatClampNeg 3 from rfl]
            refine rr_istore_n [(0, .ref 49), (1, .int f), (2, .int t), (3, .int ((jj_gd h 417 80) (a1.1 : Int32).toNatClampNeg 3)), (4, .int (nI (((jj_gd h 417 80) (a1.1 : Int32).toNatClampNeg 1) : Int32).toNatClampNeg))] dX10_goes_152 rfl (by decide) rfl ?_
            refine rr_goto dX10_goes_153 ?_
            try simp only [(nI_clamp (show k1 < 2 ^ 31 by omega))] at c1
            try simp only [(nI_clamp (show k1 < 2 ^ 31 by omega))] at c2
            try simp only [(nI_clamp (show k1 < 2 ^ 31 by omega))] at c3
            try simp only [(nI_clamp (show k1 < 2 ^ 31 by omega))] at hx2
            refine rr_drop (ls := [(0, .ref 49), (1, .int f), (2, .int t), (3, .int ((jj_gd h 417 80) (a1.1 : Int32).toNatClampNeg 3))]) [0, 1, 2, 3] rfl ?_
            simpa only [nI_1, (nI_clamp (show k1 < 2 ^ 31 by omega)), fgo1_1, if_neg c1, if_neg c2, if_pos c3, hx2, Sum.elim_inl, Sum.elim_inr] using ih1 (((jj_gd h 417 80) (a1.1 : Int32).toNatClampNeg 3), a2.1, a2.2) (by simp only [(nI_clamp (show k1 < 2 ^ 31 by omega)), fgo1_1, if_neg c1, if_neg c2, if_pos c3, hx2, Sum.elim_inl, Sum.elim_inr]) (by first | exact go_nx hpm hnst hi1 hE hEz hz hF (by assumption) hi2 | exact go_nx hpm hnst hi1 hE hEz hz hF (by assumption) hj2) hc2 ec2
          · intro r2_ hx2 hj2 hc2 ec2
            try dsimp only
            refine rr_goto dX10_goes_87 ?_
            refine rr_aload_n 0 rfl rfl dX10_goes_144 ?_
            refine rr_getR dX10_goes_145 fX10_58 lo_49 sh_49 rfl ?_
            refine rr_iload_n 3 rfl rfl dX10_goes_148 ?_
            refine rr_aaload dX10_goes_149 lo_416 sh_416 (go_in hi1 hE hEz hz hF (by assumption)) ?_
            refine rr_iconst 3 rfl dX10_goes_150 ?_
            refine rr_iaload dX10_goes_151 (lr_416 (jj_ink (i := a1.1) (go_in hi1 hE hEz hz hF (by assumption)))) (sr_416 (jj_ink (i := a1.1) (go_in hi1 hE hEz hz hF (by assumption)))) (jj_inL rfl) ?_
            rw [show (jj_rs hc2 [(49, r2_.1), (497, r2_.2)]) (417 + (a1.1 : Int32).toNatClampNeg) = jj_gd h 417 80 (a1.1 : Int32).toNatClampNeg from ((jj_gd_at (jj_ink (i := a1.1) (go_in hi1 hE hEz hz hF (by assumption)))).trans (congrFun ((jj_gd_rs (B := hc2) (L := [(49, r2_.1), (497, r2_.2)]) (b := 417) (len := 80) rfl).trans (jj_gd_eq (b := 417) (len := 80) ec2 rfl)) _))]
            rw [show jj_gd h 417 80 (a1.1 : Int32).toNatClampNeg (3 : Int32).toNatClampNeg = jj_gd h 417 80 (a1.1 : Int32).toNatClampNeg 3 from rfl]
            refine rr_istore_n [(0, .ref 49), (1, .int f), (2, .int t), (3, .int ((jj_gd h 417 80) (a1.1 : Int32).toNatClampNeg 3))] dX10_goes_152 rfl (by decide) rfl ?_
            refine rr_goto dX10_goes_153 ?_
            try simp only [(nI_clamp (show k1 < 2 ^ 31 by omega))] at c1
            try simp only [(nI_clamp (show k1 < 2 ^ 31 by omega))] at c2
            try simp only [(nI_clamp (show k1 < 2 ^ 31 by omega))] at c3
            try simp only [(nI_clamp (show k1 < 2 ^ 31 by omega))] at hx2
            simpa only [nI_1, (nI_clamp (show k1 < 2 ^ 31 by omega)), fgo1_1, if_neg c1, if_neg c2, if_pos c3, hx2, Sum.elim_inl, Sum.elim_inr] using ih1 (((jj_gd h 417 80) (a1.1 : Int32).toNatClampNeg 3), r2_.1, r2_.2) (by simp only [(nI_clamp (show k1 < 2 ^ 31 by omega)), fgo1_1, if_neg c1, if_neg c2, if_pos c3, hx2, Sum.elim_inl, Sum.elim_inr]) (by first | exact go_nx hpm hnst hi1 hE hEz hz hF (by assumption) hi2 | exact go_nx hpm hnst hi1 hE hEz hz hF (by assumption) hj2) hc2 ec2
  · intro a1 hx1 hi1 hc1 ec1
    try dsimp only
    refine rr_iload_n 3 rfl rfl dX10_goes_2 ?_
    refine rr_iload_n 2 rfl rfl dX10_goes_3 ?_
    refine rr_icmp_ge dX10_goes_4 (fun c14 => ?_) (fun c14 => ?_)
    · skip
      refine rr_return dX10_goes_156 rfl ?_
      simpa only [rgo1_49, rgo1_497, hx1, Sum.elim_inl, Sum.elim_inr] using kq hc1 ec1
    · skip
      exact (go_dead hi1).elim
  · intro r1_ hx1 hc1 ec1
    try dsimp only
    refine rr_return dX10_goes_156 rfl ?_
    simpa only [rgo1_49, rgo1_497, hx1, Sum.elim_inl, Sum.elim_inr] using kq hc1 ec1
def go (r8 r73 : Nat → Int32) (g64 g417 : Nat → Nat → Int32) (n m : Nat) : Nat → Int32 → Int32 → (Nat → Int32) → (Nat → Int32) → (Nat → Int32) × (Nat → Int32)
  | 0 => fun _ _ r49 r497 => (r49, r497)
  | j + 1 => fun f t r49 r497 => (rgo1_49 r8 r49 r73 r497 g64 g417 n m (go r8 r73 g64 g417 n m j) f t, rgo1_497 r8 r49 r73 r497 g64 g417 n m (go r8 r73 g64 g417 n m j) f t)
theorem go_S {r8 r73 : Nat → Int32} {g64 g417 : Nat → Nat → Int32} {n m j : Nat} {f t : Int32} {r49 r497 : Nat → Int32} : go r8 r73 g64 g417 n m (j + 1) f t r49 r497 = (rgo1_49 r8 r49 r73 r497 g64 g417 n m (go r8 r73 g64 g417 n m j) f t, rgo1_497 r8 r49 r73 r497 g64 g417 n m (go r8 r73 g64 g417 n m j) f t) := by rw [go]
theorem go_mv {r8 r73 : Nat → Int32} {g64 g417 : Nat → Nat → Int32} {n m : Nat} : ∀ (j : Nat) (f t : Int32) (r49 r497 : Nat → Int32) (k : Nat), mv m k r49 → mv m k (go r8 r73 g64 g417 n m j f t r49 r497).1
  | 0, f, t, r49, r497, k, h => h
  | j + 1, f, t, r49, r497, k, h => by
    have hK := go_mv (r8 := r8) (r73 := r73) (g64 := g64) (g417 := g417) (n := n) (m := m) j
    rw [go_S]
    dsimp only
    unfold rgo1_49
    generalize go r8 r73 g64 g417 n m j = K at hK
    generalize (201 : Nat) = N
    have h1 := jj_fx_inv (P := fun (x : Int32 × (Nat → Int32) × (Nat → Int32)) => mv m k x.2.1) (R := fun (x : Int32 × (Nat → Int32) × (Nat → Int32)) => mv m k x.2.1) (F := fgo1_1 r8 r73 g64 g417 n m K t) (a := (f, r49, r497)) h (fun i x hx => ?_) N
    · generalize jj_fx (fgo1_1 r8 r73 g64 g417 n m K t) N (f, r49, r497) = z at h1 ⊢
      rcases z with z | z <;> exact h1
    · unfold fgo1_1
      split
      · exact hx
      · split
        · exact hx
        · rename_i c3
          have hu : mv m k (upd x.2.1 36 (x.2.1 36 + 1)) := mv_le (mv_up hx c3) (by omega)
          split
          · have h2 := jj_fx_inv (P := fun (y : (Nat → Int32) × (Nat → Int32)) => mv m k y.1) (R := fun (y : (Nat → Int32) × (Nat → Int32)) => mv m k y.1) (F := fgo1_2 g417 K x) (a := (upd x.2.1 36 (x.2.1 36 + 1), x.2.2)) hu (fun i y hy => ?_) (g417 x.1.toNatClampNeg 1).toNatClampNeg
            · generalize jj_fx (fgo1_2 g417 K x) (g417 x.1.toNatClampNeg 1).toNatClampNeg (upd x.2.1 36 (x.2.1 36 + 1), x.2.2) = z at h2 ⊢
              rcases z with z | z <;> exact h2
            · unfold fgo1_2
              split
              · exact hy
              · exact hK _ _ _ _ _ hy
          · (repeat' split) <;> exact hu
theorem sp_go {n m z : Nat} (hn : n ≤ 8) (hm2 : m ≤ 150) (hz : z ≤ 80) : ∀ (j : Nat) {F E d kc ks : Nat} {h : Nat → Nat → Int32} {g : Nat → Nat → Int64} {Q : jj_Rs → jj_St → Prop} {f t : Int32}, h 53 0 = nI n → lawok (h 8) (jj_gd h 75 160) m → F ≤ 80 → f = nI F → t = nI E → E ≤ z → E ≤ F + j → mv m 0 (h 49) → pmok z (jj_gd h 417 80) → (∀ r, F ≤ r → r < E → (jj_gd h 417 80 r 3).toNatClampNeg ≤ E) → (∀ h9, jj_eq [414, 415] h h9 → Q (.inl none) (jj_S, 782, jj_rs h9 [(49, (go (h 8) (h 73) (jj_gd h 64 8) (jj_gd h 417 80) n m j f t (h 49) (h 497)).1), (497, (go (h 8) (h 73) (jj_gd h 64 8) (jj_gd h 417 80) n m j f t (h 49) (h 497)).2)], g)) → jj_R mX10_goes (d + j + 8) kc ks (jj_S, 782, h, g) 0 [(0, .ref 49), (1, .int f), (2, .int t)] [] Q
  | 0, F, E, d, kc, ks, h, g, Q, f, t, hT, hw, hF, hf, hE, hEz, hj, hv, hpm, hnst, kq => by
    refine rr_iload_n 1 rfl rfl dX10_goes_0 ?_
    refine rr_istore_n [(0, .ref 49), (1, .int f), (2, .int t), (3, .int f)] dX10_goes_1 rfl (by decide) rfl ?_
    refine rr_iload_n 3 rfl rfl dX10_goes_2 ?_
    refine rr_iload_n 2 rfl rfl dX10_goes_3 ?_
    refine rr_icmp_ge dX10_goes_4 (fun _ => ?_) (fun c => absurd (by rw [hf, hE, nI_leI (by omega) (by omega)]; omega) c)
    refine rr_return dX10_goes_156 rfl ?_
    refine jj_Qh ?_ (kq h jj_eq.rf)
    exact (jj_addr (B := h) (o := 49) (r := h 49) rfl).trans (jj_rs_add (B := h) (L := [(49, h 49)]) (L2 := [(49, h 49), (497, h 497)]) (o := 497) (r := h 497) rfl rfl)
  | j + 1, F, E, d, kc, ks, h, g, Q, f, t, hT, hw, hF, hf, hE, hEz, hj, hv, hpm, hnst, kq => by
    have e2 : d + (j + 1) + 8 = d + j + 9 := by omega
    rw [e2]
    simp only [go_S] at kq
    refine sp_go1 (d := d + j) (J := j) (K := go (h 8) (h 73) (jj_gd h 64 8) (jj_gd h 417 80) n m j) hT hn hm2 hw hF hf hE hEz hz (by omega) hv hpm hnst (fun _ _ _ _ _ hw => go_mv _ _ _ _ _ _ hw) (fun {kc ks h2 g Q f2 t2 F2 E2} hg q1 q2 q3 q4 q5 q6 kq2 => ?_) kq
    obtain ⟨g1, g2, g3, g4, g5, g6, g7⟩ := hg
    refine sp_go hn hm2 hz j g1 (by rw [g2, g5]; exact hw) q2 q1 q3 q4 q5 g7 (by rw [g6]; exact hpm) (by rw [g6]; exact q6) ?_
    rw [g2, g3, g4, g6]
    exact kq2
