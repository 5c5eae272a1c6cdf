/-- the Reader stands well: next ≤ end ≤ 600 -/
def rdok (r : Nat → Int32) : Prop := ∃ e x : Nat, r 2 = nI e ∧ r 3 = nI x ∧ x ≤ e ∧ e ≤ 600
def rdl (r : Nat → Int32) : Nat := (r 2).toNatClampNeg - (r 3).toNatClampNeg
theorem rd_u {r : Nat → Int32} {i : Nat} {v : Int32} (h2 : (2 == i) = false) (h3 : (3 == i) = false) (h : rdok r) : rdok (upd r i v) := by
  obtain ⟨e, x, he, hx, h1, h4⟩ := h
  have n2 : ¬ 2 = i := by simpa using h2
  have n3 : ¬ 3 = i := by simpa using h3
  exact ⟨e, x, by simp [upd, n2, he], by simp [upd, n3, hx], h1, h4⟩
theorem rd_u2 {r : Nat → Int32} {i k N : Nat} {v : Int32} (h2 : (2 == i) = false) (h3 : (3 == i) = false) (h : rdok r ∧ rdl r + k = N) : rdok (upd r i v) ∧ rdl (upd r i v) + k = N := by
  have n2 : ¬ 2 = i := by simpa using h2
  have n3 : ¬ 3 = i := by simpa using h3
  exact ⟨rd_u h2 h3 h.1, by rw [← h.2]; simp [rdl, upd, n2, n3]⟩
theorem rd_in2 {r : Nat → Int32} (h : rdok r) (c : r 3 < r 2) : vp_in (r 3) 600 := by
  obtain ⟨e, x, he, hx, h1, h4⟩ := h
  rw [hx, he, nI_ltI (by omega) (by omega)] at c
  rw [hx]; exact vp_in_nI (by omega) (by decide)
theorem rd_lt {r : Nat → Int32} (h : rdok r) (c : ¬ r 2 ≤ r 3) : r 3 < r 2 := by
  obtain ⟨e, x, he, hx, h1, h4⟩ := h
  rw [hx, he, nI_leI (by omega) (by omega)] at c
  rw [hx, he, nI_ltI (by omega) (by omega)]; omega
theorem rd_in {r : Nat → Int32} (h : rdok r) (c : ¬ r 2 ≤ r 3) : vp_in (r 3) 600 := rd_in2 h (rd_lt h c)
theorem rd_nx {r : Nat → Int32} (h : rdok r) (c : r 3 < r 2) : rdok (upd r 3 (r 3 + 1)) := by
  obtain ⟨e, x, he, hx, h1, h4⟩ := h
  rw [hx, he, nI_ltI (by omega) (by omega)] at c
  exact ⟨e, x + 1, by simp [upd, he], by simp [upd, hx, nI_1], by omega, h4⟩
theorem rd_step {r : Nat → Int32} {k N : Nat} (h : rdok r ∧ rdl r + k = N) (c : ¬ r 2 ≤ r 3) : rdok (upd r 3 (r 3 + 1)) ∧ rdl (upd r 3 (r 3 + 1)) + (k + 1) = N := by
  refine ⟨rd_nx h.1 (rd_lt h.1 c), ?_⟩
  obtain ⟨⟨e, x, he, hx, h1, h4⟩, hN⟩ := h
  rw [hx, he, nI_leI (by omega) (by omega)] at c
  rw [rdl, he, hx, nI_clamp (by omega), nI_clamp (by omega)] at hN
  rw [rdl, show upd r 3 (r 3 + 1) 2 = nI e from by simp [upd, he], show upd r 3 (r 3 + 1) 3 = nI (x + 1) from by simp [upd, hx, nI_1], nI_clamp (by omega), nI_clamp (by omega)]
  omega
theorem rd_open {r : Nat → Int32} {n : Int32} (c1 : ¬ n < 0) (c2 : ¬ nI 600 < n) : rdok (upd (upd r 2 n) 3 0) := by
  obtain ⟨N, hN, rfl⟩ := jj_get0 (b := 600) (by decide) c1 c2
  exact ⟨N, 0, by simp [upd], by simp [upd]; rfl, by omega, hN⟩
theorem rd_open0 {r : Nat → Int32} : rdok (upd (upd r 2 0) 3 0) := ⟨0, 0, by simp [upd]; rfl, by simp [upd]; rfl, by omega, by omega⟩
theorem rd_dead {r : Nat → Int32} {N : Nat} (h : rdok r ∧ rdl r + N = N) (c : ¬ r 2 ≤ r 3) : False := by
  obtain ⟨⟨e, x, he, hx, h1, h4⟩, hN⟩ := h
  rw [hx, he, nI_leI (by omega) (by omega)] at c
  rw [rdl, he, hx, nI_clamp (by omega), nI_clamp (by omega)] at hN
  omega
def fX5_advance_1 (r14 : Nat → Int32) (k1 : Nat) (a1 : (Nat → Int32)) : Sum ((Nat → Int32)) ((Nat → Int32)) := (if (a1 2) ≤ (a1 3) then (.inr a1) else (if (r14 ((a1 3) : Int32).toNatClampNeg) = 32 then (.inl (upd a1 (3) ((a1 3) + 1))) else (.inr a1)))
def fX5_advance_2 (r14 : Nat → Int32) (k2 : Nat) (a2 : (Nat → Int32)) : Sum ((Nat → Int32)) ((Nat → Int32)) := (if (a2 2) ≤ (a2 3) then (.inr a2) else (if (r14 ((a2 3) : Int32).toNatClampNeg) < 97 then (.inr a2) else (if 122 < (r14 ((a2 3) : Int32).toNatClampNeg) then (.inr a2) else (.inl (upd a2 (3) ((a2 3) + 1))))))
def fX5_advance_3 (r14 : Nat → Int32) (k3 : Nat) (a3 : (Nat → Int32)) : Sum ((Nat → Int32)) ((Nat → Int32)) := (if (a3 2) ≤ (a3 3) then (.inr a3) else (if (r14 ((a3 3) : Int32).toNatClampNeg) < 97 then (.inr a3) else (if 122 < (r14 ((a3 3) : Int32).toNatClampNeg) then (.inr a3) else (.inl (upd a3 (3) ((a3 3) + 1))))))
def fX5_advance_4 (r14 : Nat → Int32) (k4 : Nat) (a4 : (Nat → Int32)) : Sum ((Nat → Int32)) ((Nat → Int32)) := (if (a4 2) ≤ (a4 3) then (.inr a4) else (if (r14 ((a4 3) : Int32).toNatClampNeg) < 48 then (.inr a4) else (if 57 < (r14 ((a4 3) : Int32).toNatClampNeg) then (.inr a4) else (if (a4 5) < 100000 then (.inl (upd (upd a4 (5) ((((10 : Int32) * (a4 5)) + (r14 ((a4 3) : Int32).toNatClampNeg)) - 48)) (3) (((upd a4 (5) ((((10 : Int32) * (a4 5)) + (r14 ((a4 3) : Int32).toNatClampNeg)) - 48)) 3) + 1))) else (.inl (upd (upd a4 (5) 100000) (3) (((upd a4 (5) 100000) 3) + 1)))))))
def fX5_advance_5 (r14 : Nat → Int32) (k5 : Nat) (a5 : (Nat → Int32)) : Sum ((Nat → Int32)) ((Nat → Int32)) := (if (a5 2) ≤ (a5 3) then (.inr a5) else (if (r14 ((a5 3) : Int32).toNatClampNeg) < 97 then (.inr a5) else (if 122 < (r14 ((a5 3) : Int32).toNatClampNeg) then (.inr a5) else (.inl (upd a5 (3) ((a5 3) + 1))))))
def fX5_advance_6 (r14 : Nat → Int32) (k6 : Nat) (a6 : (Nat → Int32)) : Sum ((Nat → Int32)) ((Nat → Int32)) := (if (a6 2) ≤ (a6 3) then (.inr a6) else (if (r14 ((a6 3) : Int32).toNatClampNeg) < 97 then (.inr a6) else (if 122 < (r14 ((a6 3) : Int32).toNatClampNeg) then (.inr a6) else (.inl (upd a6 (3) ((a6 3) + 1))))))
def fX5_advance_7 (r14 : Nat → Int32) (k7 : Nat) (a7 : (Nat → Int32)) : Sum ((Nat → Int32)) ((Nat → Int32)) := (if (a7 2) ≤ (a7 3) then (.inr a7) else (if (r14 ((a7 3) : Int32).toNatClampNeg) < 48 then (.inr a7) else (if 57 < (r14 ((a7 3) : Int32).toNatClampNeg) then (.inr a7) else (if (a7 5) < 100000 then (.inl (upd (upd a7 (5) ((((10 : Int32) * (a7 5)) + (r14 ((a7 3) : Int32).toNatClampNeg)) - 48)) (3) (((upd a7 (5) ((((10 : Int32) * (a7 5)) + (r14 ((a7 3) : Int32).toNatClampNeg)) - 48)) 3) + 1))) else (.inl (upd (upd a7 (5) 100000) (3) (((upd a7 (5) 100000) 3) + 1)))))))
def rX5_advance_13 (r13 : Nat → Int32) (r14 : Nat → Int32) : Nat → Int32 := (Sum.elim (fun a1 => (if ((upd a1 (6) (a1 3)) 3) < ((upd a1 (6) (a1 3)) 2) then (if (r14 (((upd a1 (6) (a1 3)) 3) : Int32).toNatClampNeg) < 48 then (if (r14 (((upd a1 (6) (a1 3)) 3) : Int32).toNatClampNeg) < 97 then (upd (upd (upd (upd a1 (6) (a1 3)) (4) 3) (5) (r14 (((upd (upd a1 (6) (a1 3)) (4) 3) 3) : Int32).toNatClampNeg)) (3) (((upd (upd (upd a1 (6) (a1 3)) (4) 3) (5) (r14 (((upd (upd a1 (6) (a1 3)) (4) 3) 3) : Int32).toNatClampNeg)) 3) + 1)) else (if 122 < (r14 (((upd a1 (6) (a1 3)) 3) : Int32).toNatClampNeg) then (upd (upd (upd (upd a1 (6) (a1 3)) (4) 3) (5) (r14 (((upd (upd a1 (6) (a1 3)) (4) 3) 3) : Int32).toNatClampNeg)) (3) (((upd (upd (upd a1 (6) (a1 3)) (4) 3) (5) (r14 (((upd (upd a1 (6) (a1 3)) (4) 3) 3) : Int32).toNatClampNeg)) 3) + 1)) else (Sum.elim (fun a2 => a2) (fun r2_ => r2_) (jj_fx (fX5_advance_2 r14) ((rdl (upd (upd a1 (6) (a1 3)) (4) 2))) (upd (upd a1 (6) (a1 3)) (4) 2))))) else (if 57 < (r14 (((upd a1 (6) (a1 3)) 3) : Int32).toNatClampNeg) then (if (r14 (((upd a1 (6) (a1 3)) 3) : Int32).toNatClampNeg) < 97 then (upd (upd (upd (upd a1 (6) (a1 3)) (4) 3) (5) (r14 (((upd (upd a1 (6) (a1 3)) (4) 3) 3) : Int32).toNatClampNeg)) (3) (((upd (upd (upd a1 (6) (a1 3)) (4) 3) (5) (r14 (((upd (upd a1 (6) (a1 3)) (4) 3) 3) : Int32).toNatClampNeg)) 3) + 1)) else (if 122 < (r14 (((upd a1 (6) (a1 3)) 3) : Int32).toNatClampNeg) then (upd (upd (upd (upd a1 (6) (a1 3)) (4) 3) (5) (r14 (((upd (upd a1 (6) (a1 3)) (4) 3) 3) : Int32).toNatClampNeg)) (3) (((upd (upd (upd a1 (6) (a1 3)) (4) 3) (5) (r14 (((upd (upd a1 (6) (a1 3)) (4) 3) 3) : Int32).toNatClampNeg)) 3) + 1)) else (Sum.elim (fun a3 => a3) (fun r3_ => r3_) (jj_fx (fX5_advance_3 r14) ((rdl (upd (upd a1 (6) (a1 3)) (4) 2))) (upd (upd a1 (6) (a1 3)) (4) 2))))) else (Sum.elim (fun a4 => a4) (fun r4_ => r4_) (jj_fx (fX5_advance_4 r14) ((rdl (upd (upd (upd a1 (6) (a1 3)) (4) 1) (5) 0))) (upd (upd (upd a1 (6) (a1 3)) (4) 1) (5) 0))))) else (upd (upd a1 (6) (a1 3)) (4) 0))) (fun r1_ => (if ((upd r1_ (6) (r1_ 3)) 3) < ((upd r1_ (6) (r1_ 3)) 2) then (if (r14 (((upd r1_ (6) (r1_ 3)) 3) : Int32).toNatClampNeg) < 48 then (if (r14 (((upd r1_ (6) (r1_ 3)) 3) : Int32).toNatClampNeg) < 97 then (upd (upd (upd (upd r1_ (6) (r1_ 3)) (4) 3) (5) (r14 (((upd (upd r1_ (6) (r1_ 3)) (4) 3) 3) : Int32).toNatClampNeg)) (3) (((upd (upd (upd r1_ (6) (r1_ 3)) (4) 3) (5) (r14 (((upd (upd r1_ (6) (r1_ 3)) (4) 3) 3) : Int32).toNatClampNeg)) 3) + 1)) else (if 122 < (r14 (((upd r1_ (6) (r1_ 3)) 3) : Int32).toNatClampNeg) then (upd (upd (upd (upd r1_ (6) (r1_ 3)) (4) 3) (5) (r14 (((upd (upd r1_ (6) (r1_ 3)) (4) 3) 3) : Int32).toNatClampNeg)) (3) (((upd (upd (upd r1_ (6) (r1_ 3)) (4) 3) (5) (r14 (((upd (upd r1_ (6) (r1_ 3)) (4) 3) 3) : Int32).toNatClampNeg)) 3) + 1)) else (Sum.elim (fun a5 => a5) (fun r5_ => r5_) (jj_fx (fX5_advance_5 r14) ((rdl (upd (upd r1_ (6) (r1_ 3)) (4) 2))) (upd (upd r1_ (6) (r1_ 3)) (4) 2))))) else (if 57 < (r14 (((upd r1_ (6) (r1_ 3)) 3) : Int32).toNatClampNeg) then (if (r14 (((upd r1_ (6) (r1_ 3)) 3) : Int32).toNatClampNeg) < 97 then (upd (upd (upd (upd r1_ (6) (r1_ 3)) (4) 3) (5) (r14 (((upd (upd r1_ (6) (r1_ 3)) (4) 3) 3) : Int32).toNatClampNeg)) (3) (((upd (upd (upd r1_ (6) (r1_ 3)) (4) 3) (5) (r14 (((upd (upd r1_ (6) (r1_ 3)) (4) 3) 3) : Int32).toNatClampNeg)) 3) + 1)) else (if 122 < (r14 (((upd r1_ (6) (r1_ 3)) 3) : Int32).toNatClampNeg) then (upd (upd (upd (upd r1_ (6) (r1_ 3)) (4) 3) (5) (r14 (((upd (upd r1_ (6) (r1_ 3)) (4) 3) 3) : Int32).toNatClampNeg)) (3) (((upd (upd (upd r1_ (6) (r1_ 3)) (4) 3) (5) (r14 (((upd (upd r1_ (6) (r1_ 3)) (4) 3) 3) : Int32).toNatClampNeg)) 3) + 1)) else (Sum.elim (fun a6 => a6) (fun r6_ => r6_) (jj_fx (fX5_advance_6 r14) ((rdl (upd (upd r1_ (6) (r1_ 3)) (4) 2))) (upd (upd r1_ (6) (r1_ 3)) (4) 2))))) else (Sum.elim (fun a7 => a7) (fun r7_ => r7_) (jj_fx (fX5_advance_7 r14) ((rdl (upd (upd (upd r1_ (6) (r1_ 3)) (4) 1) (5) 0))) (upd (upd (upd r1_ (6) (r1_ 3)) (4) 1) (5) 0))))) else (upd (upd r1_ (6) (r1_ 3)) (4) 0))) (jj_fx (fX5_advance_1 r14) ((rdl r13)) r13))
set_option maxHeartbeats 1000000 in
theorem sp_X5_advance {d kc ks : Nat} {h : Nat → Nat → Int32} {g : Nat → Nat → Int64} {Q : jj_Rs → jj_St → Prop}  (ho : rdok (h 13)) (kq : Q (.inl none) (jj_S, 782, (jj_rs h [(13, (rX5_advance_13 (h 13) (h 14)))]), g)) : jj_R mX5_advance (d + 0) kc ks (jj_S, 782, h, g) 0 [(0, .ref 13)] [] Q := by
  refine jj_Rh (jj_addr (B := h) (o := 13) (r := (h 13)) rfl) ?_
  refine jj_forx (fun k1 (a1 : (Nat → Int32)) => (rdok a1 ∧ rdl a1 + k1 = (rdl (h 13))) → jj_R _ _ kc ks (jj_S, 782, (jj_rs h [(13, a1)]), g) 0 [(0, .ref 13)] [] Q) (fX5_advance_1 (h 14)) ((rdl (h 13))) (h 13) (fun (r1_ : (Nat → Int32)) => (rdok r1_) → jj_R mX5_advance (d + 0) kc ks (jj_S, 782, (jj_rs h [(13, r1_)]), g) 38 [(0, .ref 13)] [] Q) ?_ ?_ ?_ ⟨(by repeat (first | assumption | exact ho | exact hi1.1 | exact hi2.1 | exact hi3.1 | exact hi4.1 | exact hi5.1 | exact hi6.1 | exact hi7.1 | exact hi8.1 | exact hi9.1 | exact hi10.1 | exact hi11.1 | exact hi12.1 | exact hj1 | exact hj2 | exact hj3 | exact hj4 | exact hj5 | exact hj6 | exact hj7 | exact hj8 | exact hj9 | exact hj10 | exact hj11 | exact hj12 | refine rd_u rfl rfl ?_)), rfl⟩
  · intro k1 hk1 a1 ih1 ix1 hi1
    try dsimp only at ih1 ix1 ⊢
    refine rr_aload_n 0 rfl rfl dX5_advance_0 ?_
    refine rr_getI dX5_advance_1 fX5_25 lo_13 sh_13 rfl ?_
    rw [show (jj_rs h [(13, a1)]) 13 = a1 from rfl]
    refine rr_aload_n 0 rfl rfl dX5_advance_4 ?_
    refine rr_getI dX5_advance_5 fX5_22 lo_13 sh_13 rfl ?_
    rw [show (jj_rs h [(13, a1)]) 13 = a1 from rfl]
    refine rr_icmp_ge dX5_advance_8 (fun c1 => ?_) (fun c1 => ?_)
    · skip
      simpa only [fX5_advance_1, if_pos c1] using ix1 a1 (by simp only [fX5_advance_1, if_pos c1]) (by first | exact hi1.1 | (refine rd_u rfl rfl ?_; exact hi1.1))
    · skip
      refine rr_aload_n 0 rfl rfl dX5_advance_11 ?_
      refine rr_getR dX5_advance_12 fX5_9 lo_13 sh_13 rfl ?_
      refine rr_aload_n 0 rfl rfl dX5_advance_15 ?_
      refine rr_getI dX5_advance_16 fX5_25 lo_13 sh_13 rfl ?_
      rw [show (jj_rs h [(13, a1)]) 13 = a1 from rfl]
      refine rr_baload dX5_advance_19 lo_14 sh_14 (by first | exact rd_in2 (by repeat (first | assumption | exact ho | exact hi1.1 | exact hi2.1 | exact hi3.1 | exact hi4.1 | exact hi5.1 | exact hi6.1 | exact hi7.1 | exact hi8.1 | exact hi9.1 | exact hi10.1 | exact hi11.1 | exact hi12.1 | exact hj1 | exact hj2 | exact hj3 | exact hj4 | exact hj5 | exact hj6 | exact hj7 | exact hj8 | exact hj9 | exact hj10 | exact hj11 | exact hj12 | refine rd_u rfl rfl ?_)) (by assumption) | exact rd_in (by repeat (first | assumption | exact ho | exact hi1.1 | exact hi2.1 | exact hi3.1 | exact hi4.1 | exact hi5.1 | exact hi6.1 | exact hi7.1 | exact hi8.1 | exact hi9.1 | exact hi10.1 | exact hi11.1 | exact hi12.1 | exact hj1 | exact hj2 | exact hj3 | exact hj4 | exact hj5 | exact hj6 | exact hj7 | exact hj8 | exact hj9 | exact hj10 | exact hj11 | exact hj12 | refine rd_u rfl rfl ?_)) (by assumption) | decide | omega) ?_
      rw [show (jj_rs h [(13, a1)]) 14 = h 14 from rfl]
      refine rr_bipush 32 rfl dX5_advance_20 ?_
      refine rr_icmp_ne dX5_advance_22 (fun c2 => ?_) (fun c2 => ?_)
      · skip
        simpa only [fX5_advance_1, if_neg c1, if_neg c2] using ix1 a1 (by simp only [fX5_advance_1, if_neg c1, if_neg c2]) (by first | exact hi1.1 | (refine rd_u rfl rfl ?_; exact hi1.1))
      · skip
        refine rr_aload_n 0 rfl rfl dX5_advance_25 ?_
        refine rr_dup rfl dX5_advance_26 ?_
        refine rr_getI dX5_advance_27 fX5_25 lo_13 sh_13 rfl ?_
        rw [show (jj_rs h [(13, a1)]) 13 = a1 from rfl]
        refine rr_iconst 1 rfl dX5_advance_30 ?_
        refine rr_iadd dX5_advance_31 ?_
        refine rr_putI dX5_advance_32 fX5_25 ni5_3 lo_13 sh_13 rfl ?_
        rw [jj_rs_set (B := h) (L := [(13, a1)]) (L2 := [(13, (upd a1 (3) ((a1 3) + 1)))]) (r := a1) rfl rfl]
        refine rr_goto dX5_advance_35 ?_
        simpa only [fX5_advance_1, if_neg c1, if_pos c2] using ih1 (upd a1 (3) ((a1 3) + 1)) (by simp only [fX5_advance_1, if_neg c1, if_pos c2]) (by first | exact rd_step hi1 (by assumption) | exact rd_step (rd_u2 rfl rfl hi1) (by assumption))
  · intro a1 hx1 hi1
    try dsimp only
    refine rr_aload_n 0 rfl rfl dX5_advance_0 ?_
    refine rr_getI dX5_advance_1 fX5_25 lo_13 sh_13 rfl ?_
    rw [show (jj_rs h [(13, a1)]) 13 = a1 from rfl]
    refine rr_aload_n 0 rfl rfl dX5_advance_4 ?_
    refine rr_getI dX5_advance_5 fX5_22 lo_13 sh_13 rfl ?_
    rw [show (jj_rs h [(13, a1)]) 13 = a1 from rfl]
    refine rr_icmp_ge dX5_advance_8 (fun c3 => ?_) (fun c3 => ?_)
    · skip
      refine rr_aload_n 0 rfl rfl dX5_advance_38 ?_
      refine rr_aload_n 0 rfl rfl dX5_advance_39 ?_
      refine rr_getI dX5_advance_40 fX5_25 lo_13 sh_13 rfl ?_
      rw [show (jj_rs h [(13, a1)]) 13 = a1 from rfl]
      refine rr_putI dX5_advance_43 fX5_34 ni5_6 lo_13 sh_13 rfl ?_
      rw [jj_rs_set (B := h) (L := [(13, a1)]) (L2 := [(13, (upd a1 (6) (a1 3)))]) (r := a1) rfl rfl]
      refine rr_aload_n 0 rfl rfl dX5_advance_46 ?_
      refine rr_getI dX5_advance_47 fX5_25 lo_13 sh_13 rfl ?_
      rw [show (jj_rs h [(13, (upd a1 (6) (a1 3)))]) 13 = (upd a1 (6) (a1 3)) from rfl]
      refine rr_aload_n 0 rfl rfl dX5_advance_50 ?_
      refine rr_getI dX5_advance_51 fX5_22 lo_13 sh_13 rfl ?_
      rw [show (jj_rs h [(13, (upd a1 (6) (a1 3)))]) 13 = (upd a1 (6) (a1 3)) from rfl]
      refine rr_icmp_lt dX5_advance_54 (fun c4 => ?_) (fun c4 => ?_)
      · skip
        refine rr_aload_n 0 rfl rfl dX5_advance_65 ?_
        refine rr_getR dX5_advance_66 fX5_9 lo_13 sh_13 rfl ?_
        refine rr_aload_n 0 rfl rfl dX5_advance_69 ?_
        refine rr_getI dX5_advance_70 fX5_25 lo_13 sh_13 rfl ?_
        rw [show (jj_rs h [(13, (upd a1 (6) (a1 3)))]) 13 = (upd a1 (6) (a1 3)) from rfl]
        refine rr_baload dX5_advance_73 lo_14 sh_14 (by first | exact rd_in2 (by repeat (first | assumption | exact ho | exact hi1.1 | exact hi2.1 | exact hi3.1 | exact hi4.1 | exact hi5.1 | exact hi6.1 | exact hi7.1 | exact hi8.1 | exact hi9.1 | exact hi10.1 | exact hi11.1 | exact hi12.1 | exact hj1 | exact hj2 | exact hj3 | exact hj4 | exact hj5 | exact hj6 | exact hj7 | exact hj8 | exact hj9 | exact hj10 | exact hj11 | exact hj12 | refine rd_u rfl rfl ?_)) (by assumption) | exact rd_in (by repeat (first | assumption | exact ho | exact hi1.1 | exact hi2.1 | exact hi3.1 | exact hi4.1 | exact hi5.1 | exact hi6.1 | exact hi7.1 | exact hi8.1 | exact hi9.1 | exact hi10.1 | exact hi11.1 | exact hi12.1 | exact hj1 | exact hj2 | exact hj3 | exact hj4 | exact hj5 | exact hj6 | exact hj7 | exact hj8 | exact hj9 | exact hj10 | exact hj11 | exact hj12 | refine rd_u rfl rfl ?_)) (by assumption) | decide | omega) ?_
        rw [show (jj_rs h [(13, (upd a1 (6) (a1 3)))]) 14 = h 14 from rfl]
        refine rr_bipush 48 rfl dX5_advance_74 ?_
        refine rr_icmp_lt dX5_advance_76 (fun c5 => ?_) (fun c5 => ?_)
        · skip
          refine rr_aload_n 0 rfl rfl dX5_advance_193 ?_
          refine rr_getR dX5_advance_194 fX5_9 lo_13 sh_13 rfl ?_
          refine rr_aload_n 0 rfl rfl dX5_advance_197 ?_
          refine rr_getI dX5_advance_198 fX5_25 lo_13 sh_13 rfl ?_
          rw [show (jj_rs h [(13, (upd a1 (6) (a1 3)))]) 13 = (upd a1 (6) (a1 3)) from rfl]
          refine rr_baload dX5_advance_201 lo_14 sh_14 (by first | exact rd_in2 (by repeat (first | assumption | exact ho | exact hi1.1 | exact hi2.1 | exact hi3.1 | exact hi4.1 | exact hi5.1 | exact hi6.1 | exact hi7.1 | exact hi8.1 | exact hi9.1 | exact hi10.1 | exact hi11.1 | exact hi12.1 | exact hj1 | exact hj2 | exact hj3 | exact hj4 | exact hj5 | exact hj6 | exact hj7 | exact hj8 | exact hj9 | exact hj10 | exact hj11 | exact hj12 | refine rd_u rfl rfl ?_)) (by assumption) | exact rd_in (by repeat (first | assumption | exact ho | exact hi1.1 | exact hi2.1 | exact hi3.1 | exact hi4.1 | exact hi5.1 | exact hi6.1 | exact hi7.1 | exact hi8.1 | exact hi9.1 | exact hi10.1 | exact hi11.1 | exact hi12.1 | exact hj1 | exact hj2 | exact hj3 | exact hj4 | exact hj5 | exact hj6 | exact hj7 | exact hj8 | exact hj9 | exact hj10 | exact hj11 | exact hj12 | refine rd_u rfl rfl ?_)) (by assumption) | decide | omega) ?_
          rw [show (jj_rs h [(13, (upd a1 (6) (a1 3)))]) 14 = h 14 from rfl]
          refine rr_bipush 97 rfl dX5_advance_202 ?_
          refine rr_icmp_lt dX5_advance_204 (fun c6 => ?_) (fun c6 => ?_)
          · skip
            refine rr_aload_n 0 rfl rfl dX5_advance_278 ?_
            refine rr_iconst 3 rfl dX5_advance_279 ?_
            refine rr_putI dX5_advance_280 fX5_37 ni5_4 lo_13 sh_13 rfl ?_
            rw [jj_rs_set (B := h) (L := [(13, (upd a1 (6) (a1 3)))]) (L2 := [(13, (upd (upd a1 (6) (a1 3)) (4) 3))]) (r := (upd a1 (6) (a1 3))) rfl rfl]
            refine rr_aload_n 0 rfl rfl dX5_advance_283 ?_
            refine rr_aload_n 0 rfl rfl dX5_advance_284 ?_
            refine rr_getR dX5_advance_285 fX5_9 lo_13 sh_13 rfl ?_
            refine rr_aload_n 0 rfl rfl dX5_advance_288 ?_
            refine rr_getI dX5_advance_289 fX5_25 lo_13 sh_13 rfl ?_
            rw [show (jj_rs h [(13, (upd (upd a1 (6) (a1 3)) (4) 3))]) 13 = (upd (upd a1 (6) (a1 3)) (4) 3) from rfl]
            refine rr_baload dX5_advance_292 lo_14 sh_14 (by first | exact rd_in2 (by repeat (first | assumption | exact ho | exact hi1.1 | exact hi2.1 | exact hi3.1 | exact hi4.1 | exact hi5.1 | exact hi6.1 | exact hi7.1 | exact hi8.1 | exact hi9.1 | exact hi10.1 | exact hi11.1 | exact hi12.1 | exact hj1 | exact hj2 | exact hj3 | exact hj4 | exact hj5 | exact hj6 | exact hj7 | exact hj8 | exact hj9 | exact hj10 | exact hj11 | exact hj12 | refine rd_u rfl rfl ?_)) (by assumption) | exact rd_in (by repeat (first | assumption | exact ho | exact hi1.1 | exact hi2.1 | exact hi3.1 | exact hi4.1 | exact hi5.1 | exact hi6.1 | exact hi7.1 | exact hi8.1 | exact hi9.1 | exact hi10.1 | exact hi11.1 | exact hi12.1 | exact hj1 | exact hj2 | exact hj3 | exact hj4 | exact hj5 | exact hj6 | exact hj7 | exact hj8 | exact hj9 | exact hj10 | exact hj11 | exact hj12 | refine rd_u rfl rfl ?_)) (by assumption) | decide | omega) ?_
            rw [show (jj_rs h [(13, (upd (upd a1 (6) (a1 3)) (4) 3))]) 14 = h 14 from rfl]
            refine rr_putI dX5_advance_293 fX5_40 ni5_5 lo_13 sh_13 rfl ?_
            rw [jj_rs_set (B := h) (L := [(13, (upd (upd a1 (6) (a1 3)) (4) 3))]) (L2 := [(13, (upd (upd (upd a1 (6) (a1 3)) (4) 3) (5) ((h 14) (((upd (upd a1 (6) (a1 3)) (4) 3) 3) : Int32).toNatClampNeg)))]) (r := (upd (upd a1 (6) (a1 3)) (4) 3)) rfl rfl]
            refine rr_aload_n 0 rfl rfl dX5_advance_296 ?_
            refine rr_dup rfl dX5_advance_297 ?_
            refine rr_getI dX5_advance_298 fX5_25 lo_13 sh_13 rfl ?_
            rw [show (jj_rs h [(13, (upd (upd (upd a1 (6) (a1 3)) (4) 3) (5) ((h 14) (((upd (upd a1 (6) (a1 3)) (4) 3) 3) : Int32).toNatClampNeg)))]) 13 = (upd (upd (upd a1 (6) (a1 3)) (4) 3) (5) ((h 14) (((upd (upd a1 (6) (a1 3)) (4) 3) 3) : Int32).toNatClampNeg)) from rfl]
            refine rr_iconst 1 rfl dX5_advance_301 ?_
            refine rr_iadd dX5_advance_302 ?_
            refine rr_putI dX5_advance_303 fX5_25 ni5_3 lo_13 sh_13 rfl ?_
            rw [jj_rs_set (B := h) (L := [(13, (upd (upd (upd a1 (6) (a1 3)) (4) 3) (5) ((h 14) (((upd (upd a1 (6) (a1 3)) (4) 3) 3) : Int32).toNatClampNeg)))]) (L2 := [(13, (upd (upd (upd (upd a1 (6) (a1 3)) (4) 3) (5) ((h 14) (((upd (upd a1 (6) (a1 3)) (4) 3) 3) : Int32).toNatClampNeg)) (3) (((upd (upd (upd a1 (6) (a1 3)) (4) 3) (5) ((h 14) (((upd (upd a1 (6) (a1 3)) (4) 3) 3) : Int32).toNatClampNeg)) 3) + 1)))]) (r := (upd (upd (upd a1 (6) (a1 3)) (4) 3) (5) ((h 14) (((upd (upd a1 (6) (a1 3)) (4) 3) 3) : Int32).toNatClampNeg))) rfl rfl]
            refine rr_return dX5_advance_306 rfl ?_
            simpa only [rX5_advance_13, hx1, if_pos c4, if_pos c5, if_pos c6, Sum.elim_inl, Sum.elim_inr] using kq
          · skip
            refine rr_aload_n 0 rfl rfl dX5_advance_207 ?_
            refine rr_getR dX5_advance_208 fX5_9 lo_13 sh_13 rfl ?_
            refine rr_aload_n 0 rfl rfl dX5_advance_211 ?_
            refine rr_getI dX5_advance_212 fX5_25 lo_13 sh_13 rfl ?_
            rw [show (jj_rs h [(13, (upd a1 (6) (a1 3)))]) 13 = (upd a1 (6) (a1 3)) from rfl]
            refine rr_baload dX5_advance_215 lo_14 sh_14 (by first | exact rd_in2 (by repeat (first | assumption | exact ho | exact hi1.1 | exact hi2.1 | exact hi3.1 | exact hi4.1 | exact hi5.1 | exact hi6.1 | exact hi7.1 | exact hi8.1 | exact hi9.1 | exact hi10.1 | exact hi11.1 | exact hi12.1 | exact hj1 | exact hj2 | exact hj3 | exact hj4 | exact hj5 | exact hj6 | exact hj7 | exact hj8 | exact hj9 | exact hj10 | exact hj11 | exact hj12 | refine rd_u rfl rfl ?_)) (by assumption) | exact rd_in (by repeat (first | assumption | exact ho | exact hi1.1 | exact hi2.1 | exact hi3.1 | exact hi4.1 | exact hi5.1 | exact hi6.1 | exact hi7.1 | exact hi8.1 | exact hi9.1 | exact hi10.1 | exact hi11.1 | exact hi12.1 | exact hj1 | exact hj2 | exact hj3 | exact hj4 | exact hj5 | exact hj6 | exact hj7 | exact hj8 | exact hj9 | exact hj10 | exact hj11 | exact hj12 | refine rd_u rfl rfl ?_)) (by assumption) | decide | omega) ?_
            rw [show (jj_rs h [(13, (upd a1 (6) (a1 3)))]) 14 = h 14 from rfl]
            refine rr_bipush 122 rfl dX5_advance_216 ?_
            refine rr_icmp_gt dX5_advance_218 (fun c7 => ?_) (fun c7 => ?_)
            · skip
              refine rr_aload_n 0 rfl rfl dX5_advance_278 ?_
              refine rr_iconst 3 rfl dX5_advance_279 ?_
              refine rr_putI dX5_advance_280 fX5_37 ni5_4 lo_13 sh_13 rfl ?_
              rw [jj_rs_set (B := h) (L := [(13, (upd a1 (6) (a1 3)))]) (L2 := [(13, (upd (upd a1 (6) (a1 3)) (4) 3))]) (r := (upd a1 (6) (a1 3))) rfl rfl]
              refine rr_aload_n 0 rfl rfl dX5_advance_283 ?_
              refine rr_aload_n 0 rfl rfl dX5_advance_284 ?_
              refine rr_getR dX5_advance_285 fX5_9 lo_13 sh_13 rfl ?_
              refine rr_aload_n 0 rfl rfl dX5_advance_288 ?_
              refine rr_getI dX5_advance_289 fX5_25 lo_13 sh_13 rfl ?_
              rw [show (jj_rs h [(13, (upd (upd a1 (6) (a1 3)) (4) 3))]) 13 = (upd (upd a1 (6) (a1 3)) (4) 3) from rfl]
              refine rr_baload dX5_advance_292 lo_14 sh_14 (by first | exact rd_in2 (by repeat (first | assumption | exact ho | exact hi1.1 | exact hi2.1 | exact hi3.1 | exact hi4.1 | exact hi5.1 | exact hi6.1 | exact hi7.1 | exact hi8.1 | exact hi9.1 | exact hi10.1 | exact hi11.1 | exact hi12.1 | exact hj1 | exact hj2 | exact hj3 | exact hj4 | exact hj5 | exact hj6 | exact hj7 | exact hj8 | exact hj9 | exact hj10 | exact hj11 | exact hj12 | refine rd_u rfl rfl ?_)) (by assumption) | exact rd_in (by repeat (first | assumption | exact ho | exact hi1.1 | exact hi2.1 | exact hi3.1 | exact hi4.1 | exact hi5.1 | exact hi6.1 | exact hi7.1 | exact hi8.1 | exact hi9.1 | exact hi10.1 | exact hi11.1 | exact hi12.1 | exact hj1 | exact hj2 | exact hj3 | exact hj4 | exact hj5 | exact hj6 | exact hj7 | exact hj8 | exact hj9 | exact hj10 | exact hj11 | exact hj12 | refine rd_u rfl rfl ?_)) (by assumption) | decide | omega) ?_
              rw [show (jj_rs h [(13, (upd (upd a1 (6) (a1 3)) (4) 3))]) 14 = h 14 from rfl]
              refine rr_putI dX5_advance_293 fX5_40 ni5_5 lo_13 sh_13 rfl ?_
              rw [jj_rs_set (B := h) (L := [(13, (upd (upd a1 (6) (a1 3)) (4) 3))]) (L2 := [(13, (upd (upd (upd a1 (6) (a1 3)) (4) 3) (5) ((h 14) (((upd (upd a1 (6) (a1 3)) (4) 3) 3) : Int32).toNatClampNeg)))]) (r := (upd (upd a1 (6) (a1 3)) (4) 3)) rfl rfl]
              refine rr_aload_n 0 rfl rfl dX5_advance_296 ?_
              refine rr_dup rfl dX5_advance_297 ?_
              refine rr_getI dX5_advance_298 fX5_25 lo_13 sh_13 rfl ?_
              rw [show (jj_rs h [(13, (upd (upd (upd a1 (6) (a1 3)) (4) 3) (5) ((h 14) (((upd (upd a1 (6) (a1 3)) (4) 3) 3) : Int32).toNatClampNeg)))]) 13 = (upd (upd (upd a1 (6) (a1 3)) (4) 3) (5) ((h 14) (((upd (upd a1 (6) (a1 3)) (4) 3) 3) : Int32).toNatClampNeg)) from rfl]
              refine rr_iconst 1 rfl dX5_advance_301 ?_
              refine rr_iadd dX5_advance_302 ?_
              refine rr_putI dX5_advance_303 fX5_25 ni5_3 lo_13 sh_13 rfl ?_
              rw [jj_rs_set (B := h) (L := [(13, (upd (upd (upd a1 (6) (a1 3)) (4) 3) (5) ((h 14) (((upd (upd a1 (6) (a1 3)) (4) 3) 3) : Int32).toNatClampNeg)))]) (L2 := [(13, (upd (upd (upd (upd a1 (6) (a1 3)) (4) 3) (5) ((h 14) (((upd (upd a1 (6) (a1 3)) (4) 3) 3) : Int32).toNatClampNeg)) (3) (((upd (upd (upd a1 (6) (a1 3)) (4) 3) (5) ((h 14) (((upd (upd a1 (6) (a1 3)) (4) 3) 3) : Int32).toNatClampNeg)) 3) + 1)))]) (r := (upd (upd (upd a1 (6) (a1 3)) (4) 3) (5) ((h 14) (((upd (upd a1 (6) (a1 3)) (4) 3) 3) : Int32).toNatClampNeg))) rfl rfl]
              refine rr_return dX5_advance_306 rfl ?_
              simpa only [rX5_advance_13, hx1, if_pos c4, if_pos c5, if_neg c6, if_pos c7, Sum.elim_inl, Sum.elim_inr] using kq
            · skip
              refine rr_aload_n 0 rfl rfl dX5_advance_221 ?_
              refine rr_iconst 2 rfl dX5_advance_222 ?_
              refine rr_putI dX5_advance_223 fX5_37 ni5_4 lo_13 sh_13 rfl ?_
              rw [jj_rs_set (B := h) (L := [(13, (upd a1 (6) (a1 3)))]) (L2 := [(13, (upd (upd a1 (6) (a1 3)) (4) 2))]) (r := (upd a1 (6) (a1 3))) rfl rfl]
              refine jj_forx (fun k2 (a2 : (Nat → Int32)) => (rdok a2 ∧ rdl a2 + k2 = (rdl (upd (upd a1 (6) (a1 3)) (4) 2))) → jj_R _ _ kc ks (jj_S, 782, (jj_rs h [(13, a2)]), g) 226 [(0, .ref 13)] [] Q) (fX5_advance_2 (h 14)) ((rdl (upd (upd a1 (6) (a1 3)) (4) 2))) (upd (upd a1 (6) (a1 3)) (4) 2) (fun (r2_ : (Nat → Int32)) => (rdok r2_) → jj_R mX5_advance (d + 0) kc ks (jj_S, 782, (jj_rs h [(13, r2_)]), g) 306 [(0, .ref 13)] [] Q) ?_ ?_ ?_ ⟨(by repeat (first | assumption | exact ho | exact hi1.1 | exact hi2.1 | exact hi3.1 | exact hi4.1 | exact hi5.1 | exact hi6.1 | exact hi7.1 | exact hi8.1 | exact hi9.1 | exact hi10.1 | exact hi11.1 | exact hi12.1 | exact hj1 | exact hj2 | exact hj3 | exact hj4 | exact hj5 | exact hj6 | exact hj7 | exact hj8 | exact hj9 | exact hj10 | exact hj11 | exact hj12 | refine rd_u rfl rfl ?_)), rfl⟩
              · intro k2 hk2 a2 ih2 ix2 hi2
                try dsimp only at ih2 ix2 ⊢
                refine rr_aload_n 0 rfl rfl dX5_advance_226 ?_
                refine rr_getI dX5_advance_227 fX5_25 lo_13 sh_13 rfl ?_
                rw [show (jj_rs h [(13, a2)]) 13 = a2 from rfl]
                refine rr_aload_n 0 rfl rfl dX5_advance_230 ?_
                refine rr_getI dX5_advance_231 fX5_22 lo_13 sh_13 rfl ?_
                rw [show (jj_rs h [(13, a2)]) 13 = a2 from rfl]
                refine rr_icmp_ge dX5_advance_234 (fun c8 => ?_) (fun c8 => ?_)
                · skip
                  simpa only [fX5_advance_2, if_pos c8] using ix2 a2 (by simp only [fX5_advance_2, if_pos c8]) (by first | exact hi2.1 | (refine rd_u rfl rfl ?_; exact hi2.1))
                · skip
                  refine rr_aload_n 0 rfl rfl dX5_advance_237 ?_
                  refine rr_getR dX5_advance_238 fX5_9 lo_13 sh_13 rfl ?_
                  refine rr_aload_n 0 rfl rfl dX5_advance_241 ?_
                  refine rr_getI dX5_advance_242 fX5_25 lo_13 sh_13 rfl ?_
                  rw [show (jj_rs h [(13, a2)]) 13 = a2 from rfl]
                  refine rr_baload dX5_advance_245 lo_14 sh_14 (by first | exact rd_in2 (by repeat (first | assumption | exact ho | exact hi1.1 | exact hi2.1 | exact hi3.1 | exact hi4.1 | exact hi5.1 | exact hi6.1 | exact hi7.1 | exact hi8.1 | exact hi9.1 | exact hi10.1 | exact hi11.1 | exact hi12.1 | exact hj1 | exact hj2 | exact hj3 | exact hj4 | exact hj5 | exact hj6 | exact hj7 | exact hj8 | exact hj9 | exact hj10 | exact hj11 | exact hj12 | refine rd_u rfl rfl ?_)) (by assumption) | exact rd_in (by repeat (first | assumption | exact ho | exact hi1.1 | exact hi2.1 | exact hi3.1 | exact hi4.1 | exact hi5.1 | exact hi6.1 | exact hi7.1 | exact hi8.1 | exact hi9.1 | exact hi10.1 | exact hi11.1 | exact hi12.1 | exact hj1 | exact hj2 | exact hj3 | exact hj4 | exact hj5 | exact hj6 | exact hj7 | exact hj8 | exact hj9 | exact hj10 | exact hj11 | exact hj12 | refine rd_u rfl rfl ?_)) (by assumption) | decide | omega) ?_
                  rw [show (jj_rs h [(13, a2)]) 14 = h 14 from rfl]
                  refine rr_bipush 97 rfl dX5_advance_246 ?_
                  refine rr_icmp_lt dX5_advance_248 (fun c9 => ?_) (fun c9 => ?_)
                  · skip
                    simpa only [fX5_advance_2, if_neg c8, if_pos c9] using ix2 a2 (by simp only [fX5_advance_2, if_neg c8, if_pos c9]) (by first | exact hi2.1 | (refine rd_u rfl rfl ?_; exact hi2.1))
                  · skip
                    refine rr_aload_n 0 rfl rfl dX5_advance_251 ?_
                    refine rr_getR dX5_advance_252 fX5_9 lo_13 sh_13 rfl ?_
                    refine rr_aload_n 0 rfl rfl dX5_advance_255 ?_
                    refine rr_getI dX5_advance_256 fX5_25 lo_13 sh_13 rfl ?_
                    rw [show (jj_rs h [(13, a2)]) 13 = a2 from rfl]
                    refine rr_baload dX5_advance_259 lo_14 sh_14 (by first | exact rd_in2 (by repeat (first | assumption | exact ho | exact hi1.1 | exact hi2.1 | exact hi3.1 | exact hi4.1 | exact hi5.1 | exact hi6.1 | exact hi7.1 | exact hi8.1 | exact hi9.1 | exact hi10.1 | exact hi11.1 | exact hi12.1 | exact hj1 | exact hj2 | exact hj3 | exact hj4 | exact hj5 | exact hj6 | exact hj7 | exact hj8 | exact hj9 | exact hj10 | exact hj11 | exact hj12 | refine rd_u rfl rfl ?_)) (by assumption) | exact rd_in (by repeat (first | assumption | exact ho | exact hi1.1 | exact hi2.1 | exact hi3.1 | exact hi4.1 | exact hi5.1 | exact hi6.1 | exact hi7.1 | exact hi8.1 | exact hi9.1 | exact hi10.1 | exact hi11.1 | exact hi12.1 | exact hj1 | exact hj2 | exact hj3 | exact hj4 | exact hj5 | exact hj6 | exact hj7 | exact hj8 | exact hj9 | exact hj10 | exact hj11 | exact hj12 | refine rd_u rfl rfl ?_)) (by assumption) | decide | omega) ?_
                    rw [show (jj_rs h [(13, a2)]) 14 = h 14 from rfl]
                    refine rr_bipush 122 rfl dX5_advance_260 ?_
                    refine rr_icmp_gt dX5_advance_262 (fun c10 => ?_) (fun c10 => ?_)
                    · skip
                      simpa only [fX5_advance_2, if_neg c8, if_neg c9, if_pos c10] using ix2 a2 (by simp only [fX5_advance_2, if_neg c8, if_neg c9, if_pos c10]) (by first | exact hi2.1 | (refine rd_u rfl rfl ?_; exact hi2.1))
                    · skip
                      refine rr_aload_n 0 rfl rfl dX5_advance_265 ?_
                      refine rr_dup rfl dX5_advance_266 ?_
                      refine rr_getI dX5_advance_267 fX5_25 lo_13 sh_13 rfl ?_
                      rw [show (jj_rs h [(13, a2)]) 13 = a2 from rfl]
                      refine rr_iconst 1 rfl dX5_advance_270 ?_
                      refine rr_iadd dX5_advance_271 ?_
                      refine rr_putI dX5_advance_272 fX5_25 ni5_3 lo_13 sh_13 rfl ?_
                      rw [jj_rs_set (B := h) (L := [(13, a2)]) (L2 := [(13, (upd a2 (3) ((a2 3) + 1)))]) (r := a2) rfl rfl]
                      refine rr_goto dX5_advance_275 ?_
                      simpa only [fX5_advance_2, if_neg c8, if_neg c9, if_neg c10] using ih2 (upd a2 (3) ((a2 3) + 1)) (by simp only [fX5_advance_2, if_neg c8, if_neg c9, if_neg c10]) (by first | exact rd_step hi2 (by assumption) | exact rd_step (rd_u2 rfl rfl hi2) (by assumption))
              · intro a2 hx2 hi2
                try dsimp only
                refine rr_aload_n 0 rfl rfl dX5_advance_226 ?_
                refine rr_getI dX5_advance_227 fX5_25 lo_13 sh_13 rfl ?_
                rw [show (jj_rs h [(13, a2)]) 13 = a2 from rfl]
                refine rr_aload_n 0 rfl rfl dX5_advance_230 ?_
                refine rr_getI dX5_advance_231 fX5_22 lo_13 sh_13 rfl ?_
                rw [show (jj_rs h [(13, a2)]) 13 = a2 from rfl]
                refine rr_icmp_ge dX5_advance_234 (fun c11 => ?_) (fun c11 => ?_)
                · skip
                  refine rr_return dX5_advance_306 rfl ?_
                  simpa only [rX5_advance_13, hx1, if_pos c4, if_pos c5, if_neg c6, if_neg c7, hx2, Sum.elim_inl, Sum.elim_inr] using kq
                · skip
                  exact (rd_dead hi2 (by assumption)).elim
              · intro r2_ hx2 hj2
                try dsimp only
                refine rr_return dX5_advance_306 rfl ?_
                simpa only [rX5_advance_13, hx1, if_pos c4, if_pos c5, if_neg c6, if_neg c7, hx2, Sum.elim_inl, Sum.elim_inr] using kq
        · skip
          refine rr_aload_n 0 rfl rfl dX5_advance_79 ?_
          refine rr_getR dX5_advance_80 fX5_9 lo_13 sh_13 rfl ?_
          refine rr_aload_n 0 rfl rfl dX5_advance_83 ?_
          refine rr_getI dX5_advance_84 fX5_25 lo_13 sh_13 rfl ?_
          rw [show (jj_rs h [(13, (upd a1 (6) (a1 3)))]) 13 = (upd a1 (6) (a1 3)) from rfl]
          refine rr_baload dX5_advance_87 lo_14 sh_14 (by first | exact rd_in2 (by repeat (first | assumption | exact ho | exact hi1.1 | exact hi2.1 | exact hi3.1 | exact hi4.1 | exact hi5.1 | exact hi6.1 | exact hi7.1 | exact hi8.1 | exact hi9.1 | exact hi10.1 | exact hi11.1 | exact hi12.1 | exact hj1 | exact hj2 | exact hj3 | exact hj4 | exact hj5 | exact hj6 | exact hj7 | exact hj8 | exact hj9 | exact hj10 | exact hj11 | exact hj12 | refine rd_u rfl rfl ?_)) (by assumption) | exact rd_in (by repeat (first | assumption | exact ho | exact hi1.1 | exact hi2.1 | exact hi3.1 | exact hi4.1 | exact hi5.1 | exact hi6.1 | exact hi7.1 | exact hi8.1 | exact hi9.1 | exact hi10.1 | exact hi11.1 | exact hi12.1 | exact hj1 | exact hj2 | exact hj3 | exact hj4 | exact hj5 | exact hj6 | exact hj7 | exact hj8 | exact hj9 | exact hj10 | exact hj11 | exact hj12 | refine rd_u rfl rfl ?_)) (by assumption) | decide | omega) ?_
          rw [show (jj_rs h [(13, (upd a1 (6) (a1 3)))]) 14 = h 14 from rfl]
          refine rr_bipush 57 rfl dX5_advance_88 ?_
          refine rr_icmp_gt dX5_advance_90 (fun c12 => ?_) (fun c12 => ?_)
          · skip
            refine rr_aload_n 0 rfl rfl dX5_advance_193 ?_
            refine rr_getR dX5_advance_194 fX5_9 lo_13 sh_13 rfl ?_
            refine rr_aload_n 0 rfl rfl dX5_advance_197 ?_
            refine rr_getI dX5_advance_198 fX5_25 lo_13 sh_13 rfl ?_
            rw [show (jj_rs h [(13, (upd a1 (6) (a1 3)))]) 13 = (upd a1 (6) (a1 3)) from rfl]
            refine rr_baload dX5_advance_201 lo_14 sh_14 (by first | exact rd_in2 (by repeat (first | assumption | exact ho | exact hi1.1 | exact hi2.1 | exact hi3.1 | exact hi4.1 | exact hi5.1 | exact hi6.1 | exact hi7.1 | exact hi8.1 | exact hi9.1 | exact hi10.1 | exact hi11.1 | exact hi12.1 | exact hj1 | exact hj2 | exact hj3 | exact hj4 | exact hj5 | exact hj6 | exact hj7 | exact hj8 | exact hj9 | exact hj10 | exact hj11 | exact hj12 | refine rd_u rfl rfl ?_)) (by assumption) | exact rd_in (by repeat (first | assumption | exact ho | exact hi1.1 | exact hi2.1 | exact hi3.1 | exact hi4.1 | exact hi5.1 | exact hi6.1 | exact hi7.1 | exact hi8.1 | exact hi9.1 | exact hi10.1 | exact hi11.1 | exact hi12.1 | exact hj1 | exact hj2 | exact hj3 | exact hj4 | exact hj5 | exact hj6 | exact hj7 | exact hj8 | exact hj9 | exact hj10 | exact hj11 | exact hj12 | refine rd_u rfl rfl ?_)) (by assumption) | decide | omega) ?_
            rw [show (jj_rs h [(13, (upd a1 (6) (a1 3)))]) 14 = h 14 from rfl]
            refine rr_bipush 97 rfl dX5_advance_202 ?_
            refine rr_icmp_lt dX5_advance_204 (fun c13 => ?_) (fun c13 => ?_)
            · skip
              refine rr_aload_n 0 rfl rfl dX5_advance_278 ?_
              refine rr_iconst 3 rfl dX5_advance_279 ?_
              refine rr_putI dX5_advance_280 fX5_37 ni5_4 lo_13 sh_13 rfl ?_
              rw [jj_rs_set (B := h) (L := [(13, (upd a1 (6) (a1 3)))]) (L2 := [(13, (upd (upd a1 (6) (a1 3)) (4) 3))]) (r := (upd a1 (6) (a1 3))) rfl rfl]
              refine rr_aload_n 0 rfl rfl dX5_advance_283 ?_
              refine rr_aload_n 0 rfl rfl dX5_advance_284 ?_
              refine rr_getR dX5_advance_285 fX5_9 lo_13 sh_13 rfl ?_
              refine rr_aload_n 0 rfl rfl dX5_advance_288 ?_
              refine rr_getI dX5_advance_289 fX5_25 lo_13 sh_13 rfl ?_
              rw [show (jj_rs h [(13, (upd (upd a1 (6) (a1 3)) (4) 3))]) 13 = (upd (upd a1 (6) (a1 3)) (4) 3) from rfl]
              refine rr_baload dX5_advance_292 lo_14 sh_14 (by first | exact rd_in2 (by repeat (first | assumption | exact ho | exact hi1.1 | exact hi2.1 | exact hi3.1 | exact hi4.1 | exact hi5.1 | exact hi6.1 | exact hi7.1 | exact hi8.1 | exact hi9.1 | exact hi10.1 | exact hi11.1 | exact hi12.1 | exact hj1 | exact hj2 | exact hj3 | exact hj4 | exact hj5 | exact hj6 | exact hj7 | exact hj8 | exact hj9 | exact hj10 | exact hj11 | exact hj12 | refine rd_u rfl rfl ?_)) (by assumption) | exact rd_in (by repeat (first | assumption | exact ho | exact hi1.1 | exact hi2.1 | exact hi3.1 | exact hi4.1 | exact hi5.1 | exact hi6.1 | exact hi7.1 | exact hi8.1 | exact hi9.1 | exact hi10.1 | exact hi11.1 | exact hi12.1 | exact hj1 | exact hj2 | exact hj3 | exact hj4 | exact hj5 | exact hj6 | exact hj7 | exact hj8 | exact hj9 | exact hj10 | exact hj11 | exact hj12 | refine rd_u rfl rfl ?_)) (by assumption) | decide | omega) ?_
              rw [show (jj_rs h [(13, (upd (upd a1 (6) (a1 3)) (4) 3))]) 14 = h 14 from rfl]
              refine rr_putI dX5_advance_293 fX5_40 ni5_5 lo_13 sh_13 rfl ?_
              rw [jj_rs_set (B := h) (L := [(13, (upd (upd a1 (6) (a1 3)) (4) 3))]) (L2 := [(13, (upd (upd (upd a1 (6) (a1 3)) (4) 3) (5) ((h 14) (((upd (upd a1 (6) (a1 3)) (4) 3) 3) : Int32).toNatClampNeg)))]) (r := (upd (upd a1 (6) (a1 3)) (4) 3)) rfl rfl]
              refine rr_aload_n 0 rfl rfl dX5_advance_296 ?_
              refine rr_dup rfl dX5_advance_297 ?_
              refine rr_getI dX5_advance_298 fX5_25 lo_13 sh_13 rfl ?_
              rw [show (jj_rs h [(13, (upd (upd (upd a1 (6) (a1 3)) (4) 3) (5) ((h 14) (((upd (upd a1 (6) (a1 3)) (4) 3) 3) : Int32).toNatClampNeg)))]) 13 = (upd (upd (upd a1 (6) (a1 3)) (4) 3) (5) ((h 14) (((upd (upd a1 (6) (a1 3)) (4) 3) 3) : Int32).toNatClampNeg)) from rfl]
              refine rr_iconst 1 rfl dX5_advance_301 ?_
              refine rr_iadd dX5_advance_302 ?_
              refine rr_putI dX5_advance_303 fX5_25 ni5_3 lo_13 sh_13 rfl ?_
              rw [jj_rs_set (B := h) (L := [(13, (upd (upd (upd a1 (6) (a1 3)) (4) 3) (5) ((h 14) (((upd (upd a1 (6) (a1 3)) (4) 3) 3) : Int32).toNatClampNeg)))]) (L2 := [(13, (upd (upd (upd (upd a1 (6) (a1 3)) (4) 3) (5) ((h 14) (((upd (upd a1 (6) (a1 3)) (4) 3) 3) : Int32).toNatClampNeg)) (3) (((upd (upd (upd a1 (6) (a1 3)) (4) 3) (5) ((h 14) (((upd (upd a1 (6) (a1 3)) (4) 3) 3) : Int32).toNatClampNeg)) 3) + 1)))]) (r := (upd (upd (upd a1 (6) (a1 3)) (4) 3) (5) ((h 14) (((upd (upd a1 (6) (a1 3)) (4) 3) 3) : Int32).toNatClampNeg))) rfl rfl]
              refine rr_return dX5_advance_306 rfl ?_
              simpa only [rX5_advance_13, hx1, if_pos c4, if_neg c5, if_pos c12, if_pos c13, Sum.elim_inl, Sum.elim_inr] using kq
            · skip
              refine rr_aload_n 0 rfl rfl dX5_advance_207 ?_
              refine rr_getR dX5_advance_208 fX5_9 lo_13 sh_13 rfl ?_
              refine rr_aload_n 0 rfl rfl dX5_advance_211 ?_
              refine rr_getI dX5_advance_212 fX5_25 lo_13 sh_13 rfl ?_
              rw [show (jj_rs h [(13, (upd a1 (6) (a1 3)))]) 13 = (upd a1 (6) (a1 3)) from rfl]
              refine rr_baload dX5_advance_215 lo_14 sh_14 (by first | exact rd_in2 (by repeat (first | assumption | exact ho | exact hi1.1 | exact hi2.1 | exact hi3.1 | exact hi4.1 | exact hi5.1 | exact hi6.1 | exact hi7.1 | exact hi8.1 | exact hi9.1 | exact hi10.1 | exact hi11.1 | exact hi12.1 | exact hj1 | exact hj2 | exact hj3 | exact hj4 | exact hj5 | exact hj6 | exact hj7 | exact hj8 | exact hj9 | exact hj10 | exact hj11 | exact hj12 | refine rd_u rfl rfl ?_)) (by assumption) | exact rd_in (by repeat (first | assumption | exact ho | exact hi1.1 | exact hi2.1 | exact hi3.1 | exact hi4.1 | exact hi5.1 | exact hi6.1 | exact hi7.1 | exact hi8.1 | exact hi9.1 | exact hi10.1 | exact hi11.1 | exact hi12.1 | exact hj1 | exact hj2 | exact hj3 | exact hj4 | exact hj5 | exact hj6 | exact hj7 | exact hj8 | exact hj9 | exact hj10 | exact hj11 | exact hj12 | refine rd_u rfl rfl ?_)) (by assumption) | decide | omega) ?_
              rw [show (jj_rs h [(13, (upd a1 (6) (a1 3)))]) 14 = h 14 from rfl]
              refine rr_bipush 122 rfl dX5_advance_216 ?_
              refine rr_icmp_gt dX5_advance_218 (fun c14 => ?_) (fun c14 => ?_)
              · skip
                refine rr_aload_n 0 rfl rfl dX5_advance_278 ?_
                refine rr_iconst 3 rfl dX5_advance_279 ?_
                refine rr_putI dX5_advance_280 fX5_37 ni5_4 lo_13 sh_13 rfl ?_
                rw [jj_rs_set (B := h) (L := [(13, (upd a1 (6) (a1 3)))]) (L2 := [(13, (upd (upd a1 (6) (a1 3)) (4) 3))]) (r := (upd a1 (6) (a1 3))) rfl rfl]
                refine rr_aload_n 0 rfl rfl dX5_advance_283 ?_
                refine rr_aload_n 0 rfl rfl dX5_advance_284 ?_
                refine rr_getR dX5_advance_285 fX5_9 lo_13 sh_13 rfl ?_
                refine rr_aload_n 0 rfl rfl dX5_advance_288 ?_
                refine rr_getI dX5_advance_289 fX5_25 lo_13 sh_13 rfl ?_
                rw [show (jj_rs h [(13, (upd (upd a1 (6) (a1 3)) (4) 3))]) 13 = (upd (upd a1 (6) (a1 3)) (4) 3) from rfl]
                refine rr_baload dX5_advance_292 lo_14 sh_14 (by first | exact rd_in2 (by repeat (first | assumption | exact ho | exact hi1.1 | exact hi2.1 | exact hi3.1 | exact hi4.1 | exact hi5.1 | exact hi6.1 | exact hi7.1 | exact hi8.1 | exact hi9.1 | exact hi10.1 | exact hi11.1 | exact hi12.1 | exact hj1 | exact hj2 | exact hj3 | exact hj4 | exact hj5 | exact hj6 | exact hj7 | exact hj8 | exact hj9 | exact hj10 | exact hj11 | exact hj12 | refine rd_u rfl rfl ?_)) (by assumption) | exact rd_in (by repeat (first | assumption | exact ho | exact hi1.1 | exact hi2.1 | exact hi3.1 | exact hi4.1 | exact hi5.1 | exact hi6.1 | exact hi7.1 | exact hi8.1 | exact hi9.1 | exact hi10.1 | exact hi11.1 | exact hi12.1 | exact hj1 | exact hj2 | exact hj3 | exact hj4 | exact hj5 | exact hj6 | exact hj7 | exact hj8 | exact hj9 | exact hj10 | exact hj11 | exact hj12 | refine rd_u rfl rfl ?_)) (by assumption) | decide | omega) ?_
                rw [show (jj_rs h [(13, (upd (upd a1 (6) (a1 3)) (4) 3))]) 14 = h 14 from rfl]
                refine rr_putI dX5_advance_293 fX5_40 ni5_5 lo_13 sh_13 rfl ?_
                rw [jj_rs_set (B := h) (L := [(13, (upd (upd a1 (6) (a1 3)) (4) 3))]) (L2 := [(13, (upd (upd (upd a1 (6) (a1 3)) (4) 3) (5) ((h 14) (((upd (upd a1 (6) (a1 3)) (4) 3) 3) : Int32).toNatClampNeg)))]) (r := (upd (upd a1 (6) (a1 3)) (4) 3)) rfl rfl]
                refine rr_aload_n 0 rfl rfl dX5_advance_296 ?_
                refine rr_dup rfl dX5_advance_297 ?_
                refine rr_getI dX5_advance_298 fX5_25 lo_13 sh_13 rfl ?_
                rw [show (jj_rs h [(13, (upd (upd (upd a1 (6) (a1 3)) (4) 3) (5) ((h 14) (((upd (upd a1 (6) (a1 3)) (4) 3) 3) : Int32).toNatClampNeg)))]) 13 = (upd (upd (upd a1 (6) (a1 3)) (4) 3) (5) ((h 14) (((upd (upd a1 (6) (a1 3)) (4) 3) 3) : Int32).toNatClampNeg)) from rfl]
                refine rr_iconst 1 rfl dX5_advance_301 ?_
                refine rr_iadd dX5_advance_302 ?_
                refine rr_putI dX5_advance_303 fX5_25 ni5_3 lo_13 sh_13 rfl ?_
                rw [jj_rs_set (B := h) (L := [(13, (upd (upd (upd a1 (6) (a1 3)) (4) 3) (5) ((h 14) (((upd (upd a1 (6) (a1 3)) (4) 3) 3) : Int32).toNatClampNeg)))]) (L2 := [(13, (upd (upd (upd (upd a1 (6) (a1 3)) (4) 3) (5) ((h 14) (((upd (upd a1 (6) (a1 3)) (4) 3) 3) : Int32).toNatClampNeg)) (3) (((upd (upd (upd a1 (6) (a1 3)) (4) 3) (5) ((h 14) (((upd (upd a1 (6) (a1 3)) (4) 3) 3) : Int32).toNatClampNeg)) 3) + 1)))]) (r := (upd (upd (upd a1 (6) (a1 3)) (4) 3) (5) ((h 14) (((upd (upd a1 (6) (a1 3)) (4) 3) 3) : Int32).toNatClampNeg))) rfl rfl]
                refine rr_return dX5_advance_306 rfl ?_
                simpa only [rX5_advance_13, hx1, if_pos c4, if_neg c5, if_pos c12, if_neg c13, if_pos c14, Sum.elim_inl, Sum.elim_inr] using kq
              · skip
                refine rr_aload_n 0 rfl rfl dX5_advance_221 ?_
                refine rr_iconst 2 rfl dX5_advance_222 ?_
                refine rr_putI dX5_advance_223 fX5_37 ni5_4 lo_13 sh_13 rfl ?_
                rw [jj_rs_set (B := h) (L := [(13, (upd a1 (6) (a1 3)))]) (L2 := [(13, (upd (upd a1 (6) (a1 3)) (4) 2))]) (r := (upd a1 (6) (a1 3))) rfl rfl]
                refine jj_forx (fun k3 (a3 : (Nat → Int32)) => (rdok a3 ∧ rdl a3 + k3 = (rdl (upd (upd a1 (6) (a1 3)) (4) 2))) → jj_R _ _ kc ks (jj_S, 782, (jj_rs h [(13, a3)]), g) 226 [(0, .ref 13)] [] Q) (fX5_advance_3 (h 14)) ((rdl (upd (upd a1 (6) (a1 3)) (4) 2))) (upd (upd a1 (6) (a1 3)) (4) 2) (fun (r3_ : (Nat → Int32)) => (rdok r3_) → jj_R mX5_advance (d + 0) kc ks (jj_S, 782, (jj_rs h [(13, r3_)]), g) 306 [(0, .ref 13)] [] Q) ?_ ?_ ?_ ⟨(by repeat (first | assumption | exact ho | exact hi1.1 | exact hi2.1 | exact hi3.1 | exact hi4.1 | exact hi5.1 | exact hi6.1 | exact hi7.1 | exact hi8.1 | exact hi9.1 | exact hi10.1 | exact hi11.1 | exact hi12.1 | exact hj1 | exact hj2 | exact hj3 | exact hj4 | exact hj5 | exact hj6 | exact hj7 | exact hj8 | exact hj9 | exact hj10 | exact hj11 | exact hj12 | refine rd_u rfl rfl ?_)), rfl⟩
                · intro k3 hk3 a3 ih3 ix3 hi3
                  try dsimp only at ih3 ix3 ⊢
                  refine rr_aload_n 0 rfl rfl dX5_advance_226 ?_
                  refine rr_getI dX5_advance_227 fX5_25 lo_13 sh_13 rfl ?_
                  rw [show (jj_rs h [(13, a3)]) 13 = a3 from rfl]
                  refine rr_aload_n 0 rfl rfl dX5_advance_230 ?_
                  refine rr_getI dX5_advance_231 fX5_22 lo_13 sh_13 rfl ?_
                  rw [show (jj_rs h [(13, a3)]) 13 = a3 from rfl]
                  refine rr_icmp_ge dX5_advance_234 (fun c15 => ?_) (fun c15 => ?_)
                  · skip
                    simpa only [fX5_advance_3, if_pos c15] using ix3 a3 (by simp only [fX5_advance_3, if_pos c15]) (by first | exact hi3.1 | (refine rd_u rfl rfl ?_; exact hi3.1))
                  · skip
                    refine rr_aload_n 0 rfl rfl dX5_advance_237 ?_
                    refine rr_getR dX5_advance_238 fX5_9 lo_13 sh_13 rfl ?_
                    refine rr_aload_n 0 rfl rfl dX5_advance_241 ?_
                    refine rr_getI dX5_advance_242 fX5_25 lo_13 sh_13 rfl ?_
                    rw [show (jj_rs h [(13, a3)]) 13 = a3 from rfl]
                    refine rr_baload dX5_advance_245 lo_14 sh_14 (by first | exact rd_in2 (by repeat (first | assumption | exact ho | exact hi1.1 | exact hi2.1 | exact hi3.1 | exact hi4.1 | exact hi5.1 | exact hi6.1 | exact hi7.1 | exact hi8.1 | exact hi9.1 | exact hi10.1 | exact hi11.1 | exact hi12.1 | exact hj1 | exact hj2 | exact hj3 | exact hj4 | exact hj5 | exact hj6 | exact hj7 | exact hj8 | exact hj9 | exact hj10 | exact hj11 | exact hj12 | refine rd_u rfl rfl ?_)) (by assumption) | exact rd_in (by repeat (first | assumption | exact ho | exact hi1.1 | exact hi2.1 | exact hi3.1 | exact hi4.1 | exact hi5.1 | exact hi6.1 | exact hi7.1 | exact hi8.1 | exact hi9.1 | exact hi10.1 | exact hi11.1 | exact hi12.1 | exact hj1 | exact hj2 | exact hj3 | exact hj4 | exact hj5 | exact hj6 | exact hj7 | exact hj8 | exact hj9 | exact hj10 | exact hj11 | exact hj12 | refine rd_u rfl rfl ?_)) (by assumption) | decide | omega) ?_
                    rw [show (jj_rs h [(13, a3)]) 14 = h 14 from rfl]
                    refine rr_bipush 97 rfl dX5_advance_246 ?_
                    refine rr_icmp_lt dX5_advance_248 (fun c16 => ?_) (fun c16 => ?_)
                    · skip
                      simpa only [fX5_advance_3, if_neg c15, if_pos c16] using ix3 a3 (by simp only [fX5_advance_3, if_neg c15, if_pos c16]) (by first | exact hi3.1 | (refine rd_u rfl rfl ?_; exact hi3.1))
                    · skip
                      refine rr_aload_n 0 rfl rfl dX5_advance_251 ?_
                      refine rr_getR dX5_advance_252 fX5_9 lo_13 sh_13 rfl ?_
                      refine rr_aload_n 0 rfl rfl dX5_advance_255 ?_
                      refine rr_getI dX5_advance_256 fX5_25 lo_13 sh_13 rfl ?_
                      rw [show (jj_rs h [(13, a3)]) 13 = a3 from rfl]
                      refine rr_baload dX5_advance_259 lo_14 sh_14 (by first | exact rd_in2 (by repeat (first | assumption | exact ho | exact hi1.1 | exact hi2.1 | exact hi3.1 | exact hi4.1 | exact hi5.1 | exact hi6.1 | exact hi7.1 | exact hi8.1 | exact hi9.1 | exact hi10.1 | exact hi11.1 | exact hi12.1 | exact hj1 | exact hj2 | exact hj3 | exact hj4 | exact hj5 | exact hj6 | exact hj7 | exact hj8 | exact hj9 | exact hj10 | exact hj11 | exact hj12 | refine rd_u rfl rfl ?_)) (by assumption) | exact rd_in (by repeat (first | assumption | exact ho | exact hi1.1 | exact hi2.1 | exact hi3.1 | exact hi4.1 | exact hi5.1 | exact hi6.1 | exact hi7.1 | exact hi8.1 | exact hi9.1 | exact hi10.1 | exact hi11.1 | exact hi12.1 | exact hj1 | exact hj2 | exact hj3 | exact hj4 | exact hj5 | exact hj6 | exact hj7 | exact hj8 | exact hj9 | exact hj10 | exact hj11 | exact hj12 | refine rd_u rfl rfl ?_)) (by assumption) | decide | omega) ?_
                      rw [show (jj_rs h [(13, a3)]) 14 = h 14 from rfl]
                      refine rr_bipush 122 rfl dX5_advance_260 ?_
                      refine rr_icmp_gt dX5_advance_262 (fun c17 => ?_) (fun c17 => ?_)
                      · skip
                        simpa only [fX5_advance_3, if_neg c15, if_neg c16, if_pos c17] using ix3 a3 (by simp only [fX5_advance_3, if_neg c15, if_neg c16, if_pos c17]) (by first | exact hi3.1 | (refine rd_u rfl rfl ?_; exact hi3.1))
                      · skip
                        refine rr_aload_n 0 rfl rfl dX5_advance_265 ?_
                        refine rr_dup rfl dX5_advance_266 ?_
                        refine rr_getI dX5_advance_267 fX5_25 lo_13 sh_13 rfl ?_
                        rw [show (jj_rs h [(13, a3)]) 13 = a3 from rfl]
                        refine rr_iconst 1 rfl dX5_advance_270 ?_
                        refine rr_iadd dX5_advance_271 ?_
                        refine rr_putI dX5_advance_272 fX5_25 ni5_3 lo_13 sh_13 rfl ?_
                        rw [jj_rs_set (B := h) (L := [(13, a3)]) (L2 := [(13, (upd a3 (3) ((a3 3) + 1)))]) (r := a3) rfl rfl]
                        refine rr_goto dX5_advance_275 ?_
                        simpa only [fX5_advance_3, if_neg c15, if_neg c16, if_neg c17] using ih3 (upd a3 (3) ((a3 3) + 1)) (by simp only [fX5_advance_3, if_neg c15, if_neg c16, if_neg c17]) (by first | exact rd_step hi3 (by assumption) | exact rd_step (rd_u2 rfl rfl hi3) (by assumption))
                · intro a3 hx3 hi3
                  try dsimp only
                  refine rr_aload_n 0 rfl rfl dX5_advance_226 ?_
                  refine rr_getI dX5_advance_227 fX5_25 lo_13 sh_13 rfl ?_
                  rw [show (jj_rs h [(13, a3)]) 13 = a3 from rfl]
                  refine rr_aload_n 0 rfl rfl dX5_advance_230 ?_
                  refine rr_getI dX5_advance_231 fX5_22 lo_13 sh_13 rfl ?_
                  rw [show (jj_rs h [(13, a3)]) 13 = a3 from rfl]
                  refine rr_icmp_ge dX5_advance_234 (fun c18 => ?_) (fun c18 => ?_)
                  · skip
                    refine rr_return dX5_advance_306 rfl ?_
                    simpa only [rX5_advance_13, hx1, if_pos c4, if_neg c5, if_pos c12, if_neg c13, if_neg c14, hx3, Sum.elim_inl, Sum.elim_inr] using kq
                  · skip
                    exact (rd_dead hi3 (by assumption)).elim
                · intro r3_ hx3 hj3
                  try dsimp only
                  refine rr_return dX5_advance_306 rfl ?_
                  simpa only [rX5_advance_13, hx1, if_pos c4, if_neg c5, if_pos c12, if_neg c13, if_neg c14, hx3, Sum.elim_inl, Sum.elim_inr] using kq
          · skip
            refine rr_aload_n 0 rfl rfl dX5_advance_93 ?_
            refine rr_iconst 1 rfl dX5_advance_94 ?_
            refine rr_putI dX5_advance_95 fX5_37 ni5_4 lo_13 sh_13 rfl ?_
            rw [jj_rs_set (B := h) (L := [(13, (upd a1 (6) (a1 3)))]) (L2 := [(13, (upd (upd a1 (6) (a1 3)) (4) 1))]) (r := (upd a1 (6) (a1 3))) rfl rfl]
            refine rr_aload_n 0 rfl rfl dX5_advance_98 ?_
            refine rr_iconst 0 rfl dX5_advance_99 ?_
            refine rr_putI dX5_advance_100 fX5_40 ni5_5 lo_13 sh_13 rfl ?_
            rw [jj_rs_set (B := h) (L := [(13, (upd (upd a1 (6) (a1 3)) (4) 1))]) (L2 := [(13, (upd (upd (upd a1 (6) (a1 3)) (4) 1) (5) 0))]) (r := (upd (upd a1 (6) (a1 3)) (4) 1)) rfl rfl]
            refine jj_forx (fun k4 (a4 : (Nat → Int32)) => (rdok a4 ∧ rdl a4 + k4 = (rdl (upd (upd (upd a1 (6) (a1 3)) (4) 1) (5) 0))) → jj_R _ _ kc ks (jj_S, 782, (jj_rs h [(13, a4)]), g) 103 [(0, .ref 13)] [] Q) (fX5_advance_4 (h 14)) ((rdl (upd (upd (upd a1 (6) (a1 3)) (4) 1) (5) 0))) (upd (upd (upd a1 (6) (a1 3)) (4) 1) (5) 0) (fun (r4_ : (Nat → Int32)) => (rdok r4_) → jj_R mX5_advance (d + 0) kc ks (jj_S, 782, (jj_rs h [(13, r4_)]), g) 306 [(0, .ref 13)] [] Q) ?_ ?_ ?_ ⟨(by repeat (first | assumption | exact ho | exact hi1.1 | exact hi2.1 | exact hi3.1 | exact hi4.1 | exact hi5.1 | exact hi6.1 | exact hi7.1 | exact hi8.1 | exact hi9.1 | exact hi10.1 | exact hi11.1 | exact hi12.1 | exact hj1 | exact hj2 | exact hj3 | exact hj4 | exact hj5 | exact hj6 | exact hj7 | exact hj8 | exact hj9 | exact hj10 | exact hj11 | exact hj12 | refine rd_u rfl rfl ?_)), rfl⟩
            · intro k4 hk4 a4 ih4 ix4 hi4
              try dsimp only at ih4 ix4 ⊢
              refine rr_aload_n 0 rfl rfl dX5_advance_103 ?_
              refine rr_getI dX5_advance_104 fX5_25 lo_13 sh_13 rfl ?_
              rw [show (jj_rs h [(13, a4)]) 13 = a4 from rfl]
              refine rr_aload_n 0 rfl rfl dX5_advance_107 ?_
              refine rr_getI dX5_advance_108 fX5_22 lo_13 sh_13 rfl ?_
              rw [show (jj_rs h [(13, a4)]) 13 = a4 from rfl]
              refine rr_icmp_ge dX5_advance_111 (fun c19 => ?_) (fun c19 => ?_)
              · skip
                simpa only [fX5_advance_4, if_pos c19] using ix4 a4 (by simp only [fX5_advance_4, if_pos c19]) (by first | exact hi4.1 | (refine rd_u rfl rfl ?_; exact hi4.1))
              · skip
                refine rr_aload_n 0 rfl rfl dX5_advance_114 ?_
                refine rr_getR dX5_advance_115 fX5_9 lo_13 sh_13 rfl ?_
                refine rr_aload_n 0 rfl rfl dX5_advance_118 ?_
                refine rr_getI dX5_advance_119 fX5_25 lo_13 sh_13 rfl ?_
                rw [show (jj_rs h [(13, a4)]) 13 = a4 from rfl]
                refine rr_baload dX5_advance_122 lo_14 sh_14 (by first | exact rd_in2 (by repeat (first | assumption | exact ho | exact hi1.1 | exact hi2.1 | exact hi3.1 | exact hi4.1 | exact hi5.1 | exact hi6.1 | exact hi7.1 | exact hi8.1 | exact hi9.1 | exact hi10.1 | exact hi11.1 | exact hi12.1 | exact hj1 | exact hj2 | exact hj3 | exact hj4 | exact hj5 | exact hj6 | exact hj7 | exact hj8 | exact hj9 | exact hj10 | exact hj11 | exact hj12 | refine rd_u rfl rfl ?_)) (by assumption) | exact rd_in (by repeat (first | assumption | exact ho | exact hi1.1 | exact hi2.1 | exact hi3.1 | exact hi4.1 | exact hi5.1 | exact hi6.1 | exact hi7.1 | exact hi8.1 | exact hi9.1 | exact hi10.1 | exact hi11.1 | exact hi12.1 | exact hj1 | exact hj2 | exact hj3 | exact hj4 | exact hj5 | exact hj6 | exact hj7 | exact hj8 | exact hj9 | exact hj10 | exact hj11 | exact hj12 | refine rd_u rfl rfl ?_)) (by assumption) | decide | omega) ?_
                rw [show (jj_rs h [(13, a4)]) 14 = h 14 from rfl]
                refine rr_bipush 48 rfl dX5_advance_123 ?_
                refine rr_icmp_lt dX5_advance_125 (fun c20 => ?_) (fun c20 => ?_)
                · skip
                  simpa only [fX5_advance_4, if_neg c19, if_pos c20] using ix4 a4 (by simp only [fX5_advance_4, if_neg c19, if_pos c20]) (by first | exact hi4.1 | (refine rd_u rfl rfl ?_; exact hi4.1))
                · skip
                  refine rr_aload_n 0 rfl rfl dX5_advance_128 ?_
                  refine rr_getR dX5_advance_129 fX5_9 lo_13 sh_13 rfl ?_
                  refine rr_aload_n 0 rfl rfl dX5_advance_132 ?_
                  refine rr_getI dX5_advance_133 fX5_25 lo_13 sh_13 rfl ?_
                  rw [show (jj_rs h [(13, a4)]) 13 = a4 from rfl]
                  refine rr_baload dX5_advance_136 lo_14 sh_14 (by first | exact rd_in2 (by repeat (first | assumption | exact ho | exact hi1.1 | exact hi2.1 | exact hi3.1 | exact hi4.1 | exact hi5.1 | exact hi6.1 | exact hi7.1 | exact hi8.1 | exact hi9.1 | exact hi10.1 | exact hi11.1 | exact hi12.1 | exact hj1 | exact hj2 | exact hj3 | exact hj4 | exact hj5 | exact hj6 | exact hj7 | exact hj8 | exact hj9 | exact hj10 | exact hj11 | exact hj12 | refine rd_u rfl rfl ?_)) (by assumption) | exact rd_in (by repeat (first | assumption | exact ho | exact hi1.1 | exact hi2.1 | exact hi3.1 | exact hi4.1 | exact hi5.1 | exact hi6.1 | exact hi7.1 | exact hi8.1 | exact hi9.1 | exact hi10.1 | exact hi11.1 | exact hi12.1 | exact hj1 | exact hj2 | exact hj3 | exact hj4 | exact hj5 | exact hj6 | exact hj7 | exact hj8 | exact hj9 | exact hj10 | exact hj11 | exact hj12 | refine rd_u rfl rfl ?_)) (by assumption) | decide | omega) ?_
                  rw [show (jj_rs h [(13, a4)]) 14 = h 14 from rfl]
                  refine rr_bipush 57 rfl dX5_advance_137 ?_
                  refine rr_icmp_gt dX5_advance_139 (fun c21 => ?_) (fun c21 => ?_)
                  · skip
                    simpa only [fX5_advance_4, if_neg c19, if_neg c20, if_pos c21] using ix4 a4 (by simp only [fX5_advance_4, if_neg c19, if_neg c20, if_pos c21]) (by first | exact hi4.1 | (refine rd_u rfl rfl ?_; exact hi4.1))
                  · skip
                    refine rr_aload_n 0 rfl rfl dX5_advance_142 ?_
                    refine rr_aload_n 0 rfl rfl dX5_advance_143 ?_
                    refine rr_getI dX5_advance_144 fX5_40 lo_13 sh_13 rfl ?_
                    rw [show (jj_rs h [(13, a4)]) 13 = a4 from rfl]
                    refine rr_ldc kX5_43 dX5_advance_147 ?_
                    refine rr_icmp_lt dX5_advance_149 (fun c22 => ?_) (fun c22 => ?_)
                    · skip
                      refine rr_bipush 10 rfl dX5_advance_157 ?_
                      refine rr_aload_n 0 rfl rfl dX5_advance_159 ?_
                      refine rr_getI dX5_advance_160 fX5_40 lo_13 sh_13 rfl ?_
                      rw [show (jj_rs h [(13, a4)]) 13 = a4 from rfl]
                      refine rr_imul dX5_advance_163 ?_
                      refine rr_aload_n 0 rfl rfl dX5_advance_164 ?_
                      refine rr_getR dX5_advance_165 fX5_9 lo_13 sh_13 rfl ?_
                      refine rr_aload_n 0 rfl rfl dX5_advance_168 ?_
                      refine rr_getI dX5_advance_169 fX5_25 lo_13 sh_13 rfl ?_
                      rw [show (jj_rs h [(13, a4)]) 13 = a4 from rfl]
                      refine rr_baload dX5_advance_172 lo_14 sh_14 (by first | exact rd_in2 (by repeat (first | assumption | exact ho | exact hi1.1 | exact hi2.1 | exact hi3.1 | exact hi4.1 | exact hi5.1 | exact hi6.1 | exact hi7.1 | exact hi8.1 | exact hi9.1 | exact hi10.1 | exact hi11.1 | exact hi12.1 | exact hj1 | exact hj2 | exact hj3 | exact hj4 | exact hj5 | exact hj6 | exact hj7 | exact hj8 | exact hj9 | exact hj10 | exact hj11 | exact hj12 | refine rd_u rfl rfl ?_)) (by assumption) | exact rd_in (by repeat (first | assumption | exact ho | exact hi1.1 | exact hi2.1 | exact hi3.1 | exact hi4.1 | exact hi5.1 | exact hi6.1 | exact hi7.1 | exact hi8.1 | exact hi9.1 | exact hi10.1 | exact hi11.1 | exact hi12.1 | exact hj1 | exact hj2 | exact hj3 | exact hj4 | exact hj5 | exact hj6 | exact hj7 | exact hj8 | exact hj9 | exact hj10 | exact hj11 | exact hj12 | refine rd_u rfl rfl ?_)) (by assumption) | decide | omega) ?_
                      rw [show (jj_rs h [(13, a4)]) 14 = h 14 from rfl]
                      refine rr_iadd dX5_advance_173 ?_
                      refine rr_bipush 48 rfl dX5_advance_174 ?_
                      refine rr_isub dX5_advance_176 ?_
                      refine rr_putI dX5_advance_177 fX5_40 ni5_5 lo_13 sh_13 rfl ?_
                      rw [jj_rs_set (B := h) (L := [(13, a4)]) (L2 := [(13, (upd a4 (5) ((((10 : Int32) * (a4 5)) + ((h 14) ((a4 3) : Int32).toNatClampNeg)) - 48)))]) (r := a4) rfl rfl]
                      refine rr_aload_n 0 rfl rfl dX5_advance_180 ?_
                      refine rr_dup rfl dX5_advance_181 ?_
                      refine rr_getI dX5_advance_182 fX5_25 lo_13 sh_13 rfl ?_
                      rw [show (jj_rs h [(13, (upd a4 (5) ((((10 : Int32) * (a4 5)) + ((h 14) ((a4 3) : Int32).toNatClampNeg)) - 48)))]) 13 = (upd a4 (5) ((((10 : Int32) * (a4 5)) + ((h 14) ((a4 3) : Int32).toNatClampNeg)) - 48)) from rfl]
                      refine rr_iconst 1 rfl dX5_advance_185 ?_
                      refine rr_iadd dX5_advance_186 ?_
                      refine rr_putI dX5_advance_187 fX5_25 ni5_3 lo_13 sh_13 rfl ?_
                      rw [jj_rs_set (B := h) (L := [(13, (upd a4 (5) ((((10 : Int32) * (a4 5)) + ((h 14) ((a4 3) : Int32).toNatClampNeg)) - 48)))]) (L2 := [(13, (upd (upd a4 (5) ((((10 : Int32) * (a4 5)) + ((h 14) ((a4 3) : Int32).toNatClampNeg)) - 48)) (3) (((upd a4 (5) ((((10 : Int32) * (a4 5)) + ((h 14) ((a4 3) : Int32).toNatClampNeg)) - 48)) 3) + 1)))]) (r := (upd a4 (5) ((((10 : Int32) * (a4 5)) + ((h 14) ((a4 3) : Int32).toNatClampNeg)) - 48))) rfl rfl]
                      refine rr_goto dX5_advance_190 ?_
                      simpa only [fX5_advance_4, if_neg c19, if_neg c20, if_neg c21, if_pos c22] using ih4 (upd (upd a4 (5) ((((10 : Int32) * (a4 5)) + ((h 14) ((a4 3) : Int32).toNatClampNeg)) - 48)) (3) (((upd a4 (5) ((((10 : Int32) * (a4 5)) + ((h 14) ((a4 3) : Int32).toNatClampNeg)) - 48)) 3) + 1)) (by simp only [fX5_advance_4, if_neg c19, if_neg c20, if_neg c21, if_pos c22]) (by first | exact rd_step hi4 (by assumption) | exact rd_step (rd_u2 rfl rfl hi4) (by assumption))
                    · skip
                      refine rr_ldc kX5_43 dX5_advance_152 ?_
                      refine rr_goto dX5_advance_154 ?_
                      refine rr_putI dX5_advance_177 fX5_40 ni5_5 lo_13 sh_13 rfl ?_
                      rw [jj_rs_set (B := h) (L := [(13, a4)]) (L2 := [(13, (upd a4 (5) 100000))]) (r := a4) rfl rfl]
                      refine rr_aload_n 0 rfl rfl dX5_advance_180 ?_
                      refine rr_dup rfl dX5_advance_181 ?_
                      refine rr_getI dX5_advance_182 fX5_25 lo_13 sh_13 rfl ?_
                      rw [show (jj_rs h [(13, (upd a4 (5) 100000))]) 13 = (upd a4 (5) 100000) from rfl]
                      refine rr_iconst 1 rfl dX5_advance_185 ?_
                      refine rr_iadd dX5_advance_186 ?_
                      refine rr_putI dX5_advance_187 fX5_25 ni5_3 lo_13 sh_13 rfl ?_
                      rw [jj_rs_set (B := h) (L := [(13, (upd a4 (5) 100000))]) (L2 := [(13, (upd (upd a4 (5) 100000) (3) (((upd a4 (5) 100000) 3) + 1)))]) (r := (upd a4 (5) 100000)) rfl rfl]
                      refine rr_goto dX5_advance_190 ?_
                      simpa only [fX5_advance_4, if_neg c19, if_neg c20, if_neg c21, if_neg c22] using ih4 (upd (upd a4 (5) 100000) (3) (((upd a4 (5) 100000) 3) + 1)) (by simp only [fX5_advance_4, if_neg c19, if_neg c20, if_neg c21, if_neg c22]) (by first | exact rd_step hi4 (by assumption) | exact rd_step (rd_u2 rfl rfl hi4) (by assumption))
            · intro a4 hx4 hi4
              try dsimp only
              refine rr_aload_n 0 rfl rfl dX5_advance_103 ?_
              refine rr_getI dX5_advance_104 fX5_25 lo_13 sh_13 rfl ?_
              rw [show (jj_rs h [(13, a4)]) 13 = a4 from rfl]
              refine rr_aload_n 0 rfl rfl dX5_advance_107 ?_
              refine rr_getI dX5_advance_108 fX5_22 lo_13 sh_13 rfl ?_
              rw [show (jj_rs h [(13, a4)]) 13 = a4 from rfl]
              refine rr_icmp_ge dX5_advance_111 (fun c23 => ?_) (fun c23 => ?_)
              · skip
                refine rr_return dX5_advance_306 rfl ?_
                simpa only [rX5_advance_13, hx1, if_pos c4, if_neg c5, if_neg c12, hx4, Sum.elim_inl, Sum.elim_inr] using kq
              · skip
                exact (rd_dead hi4 (by assumption)).elim
            · intro r4_ hx4 hj4
              try dsimp only
              refine rr_return dX5_advance_306 rfl ?_
              simpa only [rX5_advance_13, hx1, if_pos c4, if_neg c5, if_neg c12, hx4, Sum.elim_inl, Sum.elim_inr] using kq
      · skip
        refine rr_aload_n 0 rfl rfl dX5_advance_57 ?_
        refine rr_iconst 0 rfl dX5_advance_58 ?_
        refine rr_putI dX5_advance_59 fX5_37 ni5_4 lo_13 sh_13 rfl ?_
        rw [jj_rs_set (B := h) (L := [(13, (upd a1 (6) (a1 3)))]) (L2 := [(13, (upd (upd a1 (6) (a1 3)) (4) 0))]) (r := (upd a1 (6) (a1 3))) rfl rfl]
        refine rr_goto dX5_advance_62 ?_
        refine rr_return dX5_advance_306 rfl ?_
        simpa only [rX5_advance_13, hx1, if_neg c4, Sum.elim_inl, Sum.elim_inr] using kq
    · skip
      exact (rd_dead hi1 (by assumption)).elim
  · intro r1_ hx1 hj1
    try dsimp only
    refine rr_aload_n 0 rfl rfl dX5_advance_38 ?_
    refine rr_aload_n 0 rfl rfl dX5_advance_39 ?_
    refine rr_getI dX5_advance_40 fX5_25 lo_13 sh_13 rfl ?_
    rw [show (jj_rs h [(13, r1_)]) 13 = r1_ from rfl]
    refine rr_putI dX5_advance_43 fX5_34 ni5_6 lo_13 sh_13 rfl ?_
    rw [jj_rs_set (B := h) (L := [(13, r1_)]) (L2 := [(13, (upd r1_ (6) (r1_ 3)))]) (r := r1_) rfl rfl]
    refine rr_aload_n 0 rfl rfl dX5_advance_46 ?_
    refine rr_getI dX5_advance_47 fX5_25 lo_13 sh_13 rfl ?_
    rw [show (jj_rs h [(13, (upd r1_ (6) (r1_ 3)))]) 13 = (upd r1_ (6) (r1_ 3)) from rfl]
    refine rr_aload_n 0 rfl rfl dX5_advance_50 ?_
    refine rr_getI dX5_advance_51 fX5_22 lo_13 sh_13 rfl ?_
    rw [show (jj_rs h [(13, (upd r1_ (6) (r1_ 3)))]) 13 = (upd r1_ (6) (r1_ 3)) from rfl]
    refine rr_icmp_lt dX5_advance_54 (fun c24 => ?_) (fun c24 => ?_)
    · skip
      refine rr_aload_n 0 rfl rfl dX5_advance_65 ?_
      refine rr_getR dX5_advance_66 fX5_9 lo_13 sh_13 rfl ?_
      refine rr_aload_n 0 rfl rfl dX5_advance_69 ?_
      refine rr_getI dX5_advance_70 fX5_25 lo_13 sh_13 rfl ?_
      rw [show (jj_rs h [(13, (upd r1_ (6) (r1_ 3)))]) 13 = (upd r1_ (6) (r1_ 3)) from rfl]
      refine rr_baload dX5_advance_73 lo_14 sh_14 (by first | exact rd_in2 (by repeat (first | assumption | exact ho | exact hi1.1 | exact hi2.1 | exact hi3.1 | exact hi4.1 | exact hi5.1 | exact hi6.1 | exact hi7.1 | exact hi8.1 | exact hi9.1 | exact hi10.1 | exact hi11.1 | exact hi12.1 | exact hj1 | exact hj2 | exact hj3 | exact hj4 | exact hj5 | exact hj6 | exact hj7 | exact hj8 | exact hj9 | exact hj10 | exact hj11 | exact hj12 | refine rd_u rfl rfl ?_)) (by assumption) | exact rd_in (by repeat (first | assumption | exact ho | exact hi1.1 | exact hi2.1 | exact hi3.1 | exact hi4.1 | exact hi5.1 | exact hi6.1 | exact hi7.1 | exact hi8.1 | exact hi9.1 | exact hi10.1 | exact hi11.1 | exact hi12.1 | exact hj1 | exact hj2 | exact hj3 | exact hj4 | exact hj5 | exact hj6 | exact hj7 | exact hj8 | exact hj9 | exact hj10 | exact hj11 | exact hj12 | refine rd_u rfl rfl ?_)) (by assumption) | decide | omega) ?_
      rw [show (jj_rs h [(13, (upd r1_ (6) (r1_ 3)))]) 14 = h 14 from rfl]
      refine rr_bipush 48 rfl dX5_advance_74 ?_
      refine rr_icmp_lt dX5_advance_76 (fun c25 => ?_) (fun c25 => ?_)
      · skip
        refine rr_aload_n 0 rfl rfl dX5_advance_193 ?_
        refine rr_getR dX5_advance_194 fX5_9 lo_13 sh_13 rfl ?_
        refine rr_aload_n 0 rfl rfl dX5_advance_197 ?_
        refine rr_getI dX5_advance_198 fX5_25 lo_13 sh_13 rfl ?_
        rw [show (jj_rs h [(13, (upd r1_ (6) (r1_ 3)))]) 13 = (upd r1_ (6) (r1_ 3)) from rfl]
        refine rr_baload dX5_advance_201 lo_14 sh_14 (by first | exact rd_in2 (by repeat (first | assumption | exact ho | exact hi1.1 | exact hi2.1 | exact hi3.1 | exact hi4.1 | exact hi5.1 | exact hi6.1 | exact hi7.1 | exact hi8.1 | exact hi9.1 | exact hi10.1 | exact hi11.1 | exact hi12.1 | exact hj1 | exact hj2 | exact hj3 | exact hj4 | exact hj5 | exact hj6 | exact hj7 | exact hj8 | exact hj9 | exact hj10 | exact hj11 | exact hj12 | refine rd_u rfl rfl ?_)) (by assumption) | exact rd_in (by repeat (first | assumption | exact ho | exact hi1.1 | exact hi2.1 | exact hi3.1 | exact hi4.1 | exact hi5.1 | exact hi6.1 | exact hi7.1 | exact hi8.1 | exact hi9.1 | exact hi10.1 | exact hi11.1 | exact hi12.1 | exact hj1 | exact hj2 | exact hj3 | exact hj4 | exact hj5 | exact hj6 | exact hj7 | exact hj8 | exact hj9 | exact hj10 | exact hj11 | exact hj12 | refine rd_u rfl rfl ?_)) (by assumption) | decide | omega) ?_
        rw [show (jj_rs h [(13, (upd r1_ (6) (r1_ 3)))]) 14 = h 14 from rfl]
        refine rr_bipush 97 rfl dX5_advance_202 ?_
        refine rr_icmp_lt dX5_advance_204 (fun c26 => ?_) (fun c26 => ?_)
        · skip
          refine rr_aload_n 0 rfl rfl dX5_advance_278 ?_
          refine rr_iconst 3 rfl dX5_advance_279 ?_
          refine rr_putI dX5_advance_280 fX5_37 ni5_4 lo_13 sh_13 rfl ?_
          rw [jj_rs_set (B := h) (L := [(13, (upd r1_ (6) (r1_ 3)))]) (L2 := [(13, (upd (upd r1_ (6) (r1_ 3)) (4) 3))]) (r := (upd r1_ (6) (r1_ 3))) rfl rfl]
          refine rr_aload_n 0 rfl rfl dX5_advance_283 ?_
          refine rr_aload_n 0 rfl rfl dX5_advance_284 ?_
          refine rr_getR dX5_advance_285 fX5_9 lo_13 sh_13 rfl ?_
          refine rr_aload_n 0 rfl rfl dX5_advance_288 ?_
          refine rr_getI dX5_advance_289 fX5_25 lo_13 sh_13 rfl ?_
          rw [show (jj_rs h [(13, (upd (upd r1_ (6) (r1_ 3)) (4) 3))]) 13 = (upd (upd r1_ (6) (r1_ 3)) (4) 3) from rfl]
          refine rr_baload dX5_advance_292 lo_14 sh_14 (by first | exact rd_in2 (by repeat (first | assumption | exact ho | exact hi1.1 | exact hi2.1 | exact hi3.1 | exact hi4.1 | exact hi5.1 | exact hi6.1 | exact hi7.1 | exact hi8.1 | exact hi9.1 | exact hi10.1 | exact hi11.1 | exact hi12.1 | exact hj1 | exact hj2 | exact hj3 | exact hj4 | exact hj5 | exact hj6 | exact hj7 | exact hj8 | exact hj9 | exact hj10 | exact hj11 | exact hj12 | refine rd_u rfl rfl ?_)) (by assumption) | exact rd_in (by repeat (first | assumption | exact ho | exact hi1.1 | exact hi2.1 | exact hi3.1 | exact hi4.1 | exact hi5.1 | exact hi6.1 | exact hi7.1 | exact hi8.1 | exact hi9.1 | exact hi10.1 | exact hi11.1 | exact hi12.1 | exact hj1 | exact hj2 | exact hj3 | exact hj4 | exact hj5 | exact hj6 | exact hj7 | exact hj8 | exact hj9 | exact hj10 | exact hj11 | exact hj12 | refine rd_u rfl rfl ?_)) (by assumption) | decide | omega) ?_
          rw [show (jj_rs h [(13, (upd (upd r1_ (6) (r1_ 3)) (4) 3))]) 14 = h 14 from rfl]
          refine rr_putI dX5_advance_293 fX5_40 ni5_5 lo_13 sh_13 rfl ?_
          rw [jj_rs_set (B := h) (L := [(13, (upd (upd r1_ (6) (r1_ 3)) (4) 3))]) (L2 := [(13, (upd (upd (upd r1_ (6) (r1_ 3)) (4) 3) (5) ((h 14) (((upd (upd r1_ (6) (r1_ 3)) (4) 3) 3) : Int32).toNatClampNeg)))]) (r := (upd (upd r1_ (6) (r1_ 3)) (4) 3)) rfl rfl]
          refine rr_aload_n 0 rfl rfl dX5_advance_296 ?_
          refine rr_dup rfl dX5_advance_297 ?_
          refine rr_getI dX5_advance_298 fX5_25 lo_13 sh_13 rfl ?_
          rw [show (jj_rs h [(13, (upd (upd (upd r1_ (6) (r1_ 3)) (4) 3) (5) ((h 14) (((upd (upd r1_ (6) (r1_ 3)) (4) 3) 3) : Int32).toNatClampNeg)))]) 13 = (upd (upd (upd r1_ (6) (r1_ 3)) (4) 3) (5) ((h 14) (((upd (upd r1_ (6) (r1_ 3)) (4) 3) 3) : Int32).toNatClampNeg)) from rfl]
          refine rr_iconst 1 rfl dX5_advance_301 ?_
          refine rr_iadd dX5_advance_302 ?_
          refine rr_putI dX5_advance_303 fX5_25 ni5_3 lo_13 sh_13 rfl ?_
          rw [jj_rs_set (B := h) (L := [(13, (upd (upd (upd r1_ (6) (r1_ 3)) (4) 3) (5) ((h 14) (((upd (upd r1_ (6) (r1_ 3)) (4) 3) 3) : Int32).toNatClampNeg)))]) (L2 := [(13, (upd (upd (upd (upd r1_ (6) (r1_ 3)) (4) 3) (5) ((h 14) (((upd (upd r1_ (6) (r1_ 3)) (4) 3) 3) : Int32).toNatClampNeg)) (3) (((upd (upd (upd r1_ (6) (r1_ 3)) (4) 3) (5) ((h 14) (((upd (upd r1_ (6) (r1_ 3)) (4) 3) 3) : Int32).toNatClampNeg)) 3) + 1)))]) (r := (upd (upd (upd r1_ (6) (r1_ 3)) (4) 3) (5) ((h 14) (((upd (upd r1_ (6) (r1_ 3)) (4) 3) 3) : Int32).toNatClampNeg))) rfl rfl]
          refine rr_return dX5_advance_306 rfl ?_
          simpa only [rX5_advance_13, hx1, if_pos c24, if_pos c25, if_pos c26, Sum.elim_inl, Sum.elim_inr] using kq
        · skip
          refine rr_aload_n 0 rfl rfl dX5_advance_207 ?_
          refine rr_getR dX5_advance_208 fX5_9 lo_13 sh_13 rfl ?_
          refine rr_aload_n 0 rfl rfl dX5_advance_211 ?_
          refine rr_getI dX5_advance_212 fX5_25 lo_13 sh_13 rfl ?_
          rw [show (jj_rs h [(13, (upd r1_ (6) (r1_ 3)))]) 13 = (upd r1_ (6) (r1_ 3)) from rfl]
          refine rr_baload dX5_advance_215 lo_14 sh_14 (by first | exact rd_in2 (by repeat (first | assumption | exact ho | exact hi1.1 | exact hi2.1 | exact hi3.1 | exact hi4.1 | exact hi5.1 | exact hi6.1 | exact hi7.1 | exact hi8.1 | exact hi9.1 | exact hi10.1 | exact hi11.1 | exact hi12.1 | exact hj1 | exact hj2 | exact hj3 | exact hj4 | exact hj5 | exact hj6 | exact hj7 | exact hj8 | exact hj9 | exact hj10 | exact hj11 | exact hj12 | refine rd_u rfl rfl ?_)) (by assumption) | exact rd_in (by repeat (first | assumption | exact ho | exact hi1.1 | exact hi2.1 | exact hi3.1 | exact hi4.1 | exact hi5.1 | exact hi6.1 | exact hi7.1 | exact hi8.1 | exact hi9.1 | exact hi10.1 | exact hi11.1 | exact hi12.1 | exact hj1 | exact hj2 | exact hj3 | exact hj4 | exact hj5 | exact hj6 | exact hj7 | exact hj8 | exact hj9 | exact hj10 | exact hj11 | exact hj12 | refine rd_u rfl rfl ?_)) (by assumption) | decide | omega) ?_
          rw [show (jj_rs h [(13, (upd r1_ (6) (r1_ 3)))]) 14 = h 14 from rfl]
          refine rr_bipush 122 rfl dX5_advance_216 ?_
          refine rr_icmp_gt dX5_advance_218 (fun c27 => ?_) (fun c27 => ?_)
          · skip
            refine rr_aload_n 0 rfl rfl dX5_advance_278 ?_
            refine rr_iconst 3 rfl dX5_advance_279 ?_
            refine rr_putI dX5_advance_280 fX5_37 ni5_4 lo_13 sh_13 rfl ?_
            rw [jj_rs_set (B := h) (L := [(13, (upd r1_ (6) (r1_ 3)))]) (L2 := [(13, (upd (upd r1_ (6) (r1_ 3)) (4) 3))]) (r := (upd r1_ (6) (r1_ 3))) rfl rfl]
            refine rr_aload_n 0 rfl rfl dX5_advance_283 ?_
            refine rr_aload_n 0 rfl rfl dX5_advance_284 ?_
            refine rr_getR dX5_advance_285 fX5_9 lo_13 sh_13 rfl ?_
            refine rr_aload_n 0 rfl rfl dX5_advance_288 ?_
            refine rr_getI dX5_advance_289 fX5_25 lo_13 sh_13 rfl ?_
            rw [show (jj_rs h [(13, (upd (upd r1_ (6) (r1_ 3)) (4) 3))]) 13 = (upd (upd r1_ (6) (r1_ 3)) (4) 3) from rfl]
            refine rr_baload dX5_advance_292 lo_14 sh_14 (by first | exact rd_in2 (by repeat (first | assumption | exact ho | exact hi1.1 | exact hi2.1 | exact hi3.1 | exact hi4.1 | exact hi5.1 | exact hi6.1 | exact hi7.1 | exact hi8.1 | exact hi9.1 | exact hi10.1 | exact hi11.1 | exact hi12.1 | exact hj1 | exact hj2 | exact hj3 | exact hj4 | exact hj5 | exact hj6 | exact hj7 | exact hj8 | exact hj9 | exact hj10 | exact hj11 | exact hj12 | refine rd_u rfl rfl ?_)) (by assumption) | exact rd_in (by repeat (first | assumption | exact ho | exact hi1.1 | exact hi2.1 | exact hi3.1 | exact hi4.1 | exact hi5.1 | exact hi6.1 | exact hi7.1 | exact hi8.1 | exact hi9.1 | exact hi10.1 | exact hi11.1 | exact hi12.1 | exact hj1 | exact hj2 | exact hj3 | exact hj4 | exact hj5 | exact hj6 | exact hj7 | exact hj8 | exact hj9 | exact hj10 | exact hj11 | exact hj12 | refine rd_u rfl rfl ?_)) (by assumption) | decide | omega) ?_
            rw [show (jj_rs h [(13, (upd (upd r1_ (6) (r1_ 3)) (4) 3))]) 14 = h 14 from rfl]
            refine rr_putI dX5_advance_293 fX5_40 ni5_5 lo_13 sh_13 rfl ?_
            rw [jj_rs_set (B := h) (L := [(13, (upd (upd r1_ (6) (r1_ 3)) (4) 3))]) (L2 := [(13, (upd (upd (upd r1_ (6) (r1_ 3)) (4) 3) (5) ((h 14) (((upd (upd r1_ (6) (r1_ 3)) (4) 3) 3) : Int32).toNatClampNeg)))]) (r := (upd (upd r1_ (6) (r1_ 3)) (4) 3)) rfl rfl]
            refine rr_aload_n 0 rfl rfl dX5_advance_296 ?_
            refine rr_dup rfl dX5_advance_297 ?_
            refine rr_getI dX5_advance_298 fX5_25 lo_13 sh_13 rfl ?_
            rw [show (jj_rs h [(13, (upd (upd (upd r1_ (6) (r1_ 3)) (4) 3) (5) ((h 14) (((upd (upd r1_ (6) (r1_ 3)) (4) 3) 3) : Int32).toNatClampNeg)))]) 13 = (upd (upd (upd r1_ (6) (r1_ 3)) (4) 3) (5) ((h 14) (((upd (upd r1_ (6) (r1_ 3)) (4) 3) 3) : Int32).toNatClampNeg)) from rfl]
            refine rr_iconst 1 rfl dX5_advance_301 ?_
            refine rr_iadd dX5_advance_302 ?_
            refine rr_putI dX5_advance_303 fX5_25 ni5_3 lo_13 sh_13 rfl ?_
            rw [jj_rs_set (B := h) (L := [(13, (upd (upd (upd r1_ (6) (r1_ 3)) (4) 3) (5) ((h 14) (((upd (upd r1_ (6) (r1_ 3)) (4) 3) 3) : Int32).toNatClampNeg)))]) (L2 := [(13, (upd (upd (upd (upd r1_ (6) (r1_ 3)) (4) 3) (5) ((h 14) (((upd (upd r1_ (6) (r1_ 3)) (4) 3) 3) : Int32).toNatClampNeg)) (3) (((upd (upd (upd r1_ (6) (r1_ 3)) (4) 3) (5) ((h 14) (((upd (upd r1_ (6) (r1_ 3)) (4) 3) 3) : Int32).toNatClampNeg)) 3) + 1)))]) (r := (upd (upd (upd r1_ (6) (r1_ 3)) (4) 3) (5) ((h 14) (((upd (upd r1_ (6) (r1_ 3)) (4) 3) 3) : Int32).toNatClampNeg))) rfl rfl]
            refine rr_return dX5_advance_306 rfl ?_
            simpa only [rX5_advance_13, hx1, if_pos c24, if_pos c25, if_neg c26, if_pos c27, Sum.elim_inl, Sum.elim_inr] using kq
          · skip
            refine rr_aload_n 0 rfl rfl dX5_advance_221 ?_
            refine rr_iconst 2 rfl dX5_advance_222 ?_
            refine rr_putI dX5_advance_223 fX5_37 ni5_4 lo_13 sh_13 rfl ?_
            rw [jj_rs_set (B := h) (L := [(13, (upd r1_ (6) (r1_ 3)))]) (L2 := [(13, (upd (upd r1_ (6) (r1_ 3)) (4) 2))]) (r := (upd r1_ (6) (r1_ 3))) rfl rfl]
            refine jj_forx (fun k5 (a5 : (Nat → Int32)) => (rdok a5 ∧ rdl a5 + k5 = (rdl (upd (upd r1_ (6) (r1_ 3)) (4) 2))) → jj_R _ _ kc ks (jj_S, 782, (jj_rs h [(13, a5)]), g) 226 [(0, .ref 13)] [] Q) (fX5_advance_5 (h 14)) ((rdl (upd (upd r1_ (6) (r1_ 3)) (4) 2))) (upd (upd r1_ (6) (r1_ 3)) (4) 2) (fun (r5_ : (Nat → Int32)) => (rdok r5_) → jj_R mX5_advance (d + 0) kc ks (jj_S, 782, (jj_rs h [(13, r5_)]), g) 306 [(0, .ref 13)] [] Q) ?_ ?_ ?_ ⟨(by repeat (first | assumption | exact ho | exact hi1.1 | exact hi2.1 | exact hi3.1 | exact hi4.1 | exact hi5.1 | exact hi6.1 | exact hi7.1 | exact hi8.1 | exact hi9.1 | exact hi10.1 | exact hi11.1 | exact hi12.1 | exact hj1 | exact hj2 | exact hj3 | exact hj4 | exact hj5 | exact hj6 | exact hj7 | exact hj8 | exact hj9 | exact hj10 | exact hj11 | exact hj12 | refine rd_u rfl rfl ?_)), rfl⟩
            · intro k5 hk5 a5 ih5 ix5 hi5
              try dsimp only at ih5 ix5 ⊢
              refine rr_aload_n 0 rfl rfl dX5_advance_226 ?_
              refine rr_getI dX5_advance_227 fX5_25 lo_13 sh_13 rfl ?_
              rw [show (jj_rs h [(13, a5)]) 13 = a5 from rfl]
              refine rr_aload_n 0 rfl rfl dX5_advance_230 ?_
              refine rr_getI dX5_advance_231 fX5_22 lo_13 sh_13 rfl ?_
              rw [show (jj_rs h [(13, a5)]) 13 = a5 from rfl]
              refine rr_icmp_ge dX5_advance_234 (fun c28 => ?_) (fun c28 => ?_)
              · skip
                simpa only [fX5_advance_5, if_pos c28] using ix5 a5 (by simp only [fX5_advance_5, if_pos c28]) (by first | exact hi5.1 | (refine rd_u rfl rfl ?_; exact hi5.1))
              · skip
                refine rr_aload_n 0 rfl rfl dX5_advance_237 ?_
                refine rr_getR dX5_advance_238 fX5_9 lo_13 sh_13 rfl ?_
                refine rr_aload_n 0 rfl rfl dX5_advance_241 ?_
                refine rr_getI dX5_advance_242 fX5_25 lo_13 sh_13 rfl ?_
                rw [show (jj_rs h [(13, a5)]) 13 = a5 from rfl]
                refine rr_baload dX5_advance_245 lo_14 sh_14 (by first | exact rd_in2 (by repeat (first | assumption | exact ho | exact hi1.1 | exact hi2.1 | exact hi3.1 | exact hi4.1 | exact hi5.1 | exact hi6.1 | exact hi7.1 | exact hi8.1 | exact hi9.1 | exact hi10.1 | exact hi11.1 | exact hi12.1 | exact hj1 | exact hj2 | exact hj3 | exact hj4 | exact hj5 | exact hj6 | exact hj7 | exact hj8 | exact hj9 | exact hj10 | exact hj11 | exact hj12 | refine rd_u rfl rfl ?_)) (by assumption) | exact rd_in (by repeat (first | assumption | exact ho | exact hi1.1 | exact hi2.1 | exact hi3.1 | exact hi4.1 | exact hi5.1 | exact hi6.1 | exact hi7.1 | exact hi8.1 | exact hi9.1 | exact hi10.1 | exact hi11.1 | exact hi12.1 | exact hj1 | exact hj2 | exact hj3 | exact hj4 | exact hj5 | exact hj6 | exact hj7 | exact hj8 | exact hj9 | exact hj10 | exact hj11 | exact hj12 | refine rd_u rfl rfl ?_)) (by assumption) | decide | omega) ?_
                rw [show (jj_rs h [(13, a5)]) 14 = h 14 from rfl]
                refine rr_bipush 97 rfl dX5_advance_246 ?_
                refine rr_icmp_lt dX5_advance_248 (fun c29 => ?_) (fun c29 => ?_)
                · skip
                  simpa only [fX5_advance_5, if_neg c28, if_pos c29] using ix5 a5 (by simp only [fX5_advance_5, if_neg c28, if_pos c29]) (by first | exact hi5.1 | (refine rd_u rfl rfl ?_; exact hi5.1))
                · skip
                  refine rr_aload_n 0 rfl rfl dX5_advance_251 ?_
                  refine rr_getR dX5_advance_252 fX5_9 lo_13 sh_13 rfl ?_
                  refine rr_aload_n 0 rfl rfl dX5_advance_255 ?_
                  refine rr_getI dX5_advance_256 fX5_25 lo_13 sh_13 rfl ?_
                  rw [show (jj_rs h [(13, a5)]) 13 = a5 from rfl]
                  refine rr_baload dX5_advance_259 lo_14 sh_14 (by first | exact rd_in2 (by repeat (first | assumption | exact ho | exact hi1.1 | exact hi2.1 | exact hi3.1 | exact hi4.1 | exact hi5.1 | exact hi6.1 | exact hi7.1 | exact hi8.1 | exact hi9.1 | exact hi10.1 | exact hi11.1 | exact hi12.1 | exact hj1 | exact hj2 | exact hj3 | exact hj4 | exact hj5 | exact hj6 | exact hj7 | exact hj8 | exact hj9 | exact hj10 | exact hj11 | exact hj12 | refine rd_u rfl rfl ?_)) (by assumption) | exact rd_in (by repeat (first | assumption | exact ho | exact hi1.1 | exact hi2.1 | exact hi3.1 | exact hi4.1 | exact hi5.1 | exact hi6.1 | exact hi7.1 | exact hi8.1 | exact hi9.1 | exact hi10.1 | exact hi11.1 | exact hi12.1 | exact hj1 | exact hj2 | exact hj3 | exact hj4 | exact hj5 | exact hj6 | exact hj7 | exact hj8 | exact hj9 | exact hj10 | exact hj11 | exact hj12 | refine rd_u rfl rfl ?_)) (by assumption) | decide | omega) ?_
                  rw [show (jj_rs h [(13, a5)]) 14 = h 14 from rfl]
                  refine rr_bipush 122 rfl dX5_advance_260 ?_
                  refine rr_icmp_gt dX5_advance_262 (fun c30 => ?_) (fun c30 => ?_)
                  · skip
                    simpa only [fX5_advance_5, if_neg c28, if_neg c29, if_pos c30] using ix5 a5 (by simp only [fX5_advance_5, if_neg c28, if_neg c29, if_pos c30]) (by first | exact hi5.1 | (refine rd_u rfl rfl ?_; exact hi5.1))
                  · skip
                    refine rr_aload_n 0 rfl rfl dX5_advance_265 ?_
                    refine rr_dup rfl dX5_advance_266 ?_
                    refine rr_getI dX5_advance_267 fX5_25 lo_13 sh_13 rfl ?_
                    rw [show (jj_rs h [(13, a5)]) 13 = a5 from rfl]
                    refine rr_iconst 1 rfl dX5_advance_270 ?_
                    refine rr_iadd dX5_advance_271 ?_
                    refine rr_putI dX5_advance_272 fX5_25 ni5_3 lo_13 sh_13 rfl ?_
                    rw [jj_rs_set (B := h) (L := [(13, a5)]) (L2 := [(13, (upd a5 (3) ((a5 3) + 1)))]) (r := a5) rfl rfl]
                    refine rr_goto dX5_advance_275 ?_
                    simpa only [fX5_advance_5, if_neg c28, if_neg c29, if_neg c30] using ih5 (upd a5 (3) ((a5 3) + 1)) (by simp only [fX5_advance_5, if_neg c28, if_neg c29, if_neg c30]) (by first | exact rd_step hi5 (by assumption) | exact rd_step (rd_u2 rfl rfl hi5) (by assumption))
            · intro a5 hx5 hi5
              try dsimp only
              refine rr_aload_n 0 rfl rfl dX5_advance_226 ?_
              refine rr_getI dX5_advance_227 fX5_25 lo_13 sh_13 rfl ?_
              rw [show (jj_rs h [(13, a5)]) 13 = a5 from rfl]
              refine rr_aload_n 0 rfl rfl dX5_advance_230 ?_
              refine rr_getI dX5_advance_231 fX5_22 lo_13 sh_13 rfl ?_
              rw [show (jj_rs h [(13, a5)]) 13 = a5 from rfl]
              refine rr_icmp_ge dX5_advance_234 (fun c31 => ?_) (fun c31 => ?_)
              · skip
                refine rr_return dX5_advance_306 rfl ?_
                simpa only [rX5_advance_13, hx1, if_pos c24, if_pos c25, if_neg c26, if_neg c27, hx5, Sum.elim_inl, Sum.elim_inr] using kq
              · skip
                exact (rd_dead hi5 (by assumption)).elim
            · intro r5_ hx5 hj5
              try dsimp only
              refine rr_return dX5_advance_306 rfl ?_
              simpa only [rX5_advance_13, hx1, if_pos c24, if_pos c25, if_neg c26, if_neg c27, hx5, Sum.elim_inl, Sum.elim_inr] using kq
      · skip
        refine rr_aload_n 0 rfl rfl dX5_advance_79 ?_
        refine rr_getR dX5_advance_80 fX5_9 lo_13 sh_13 rfl ?_
        refine rr_aload_n 0 rfl rfl dX5_advance_83 ?_
        refine rr_getI dX5_advance_84 fX5_25 lo_13 sh_13 rfl ?_
        rw [show (jj_rs h [(13, (upd r1_ (6) (r1_ 3)))]) 13 = (upd r1_ (6) (r1_ 3)) from rfl]
        refine rr_baload dX5_advance_87 lo_14 sh_14 (by first | exact rd_in2 (by repeat (first | assumption | exact ho | exact hi1.1 | exact hi2.1 | exact hi3.1 | exact hi4.1 | exact hi5.1 | exact hi6.1 | exact hi7.1 | exact hi8.1 | exact hi9.1 | exact hi10.1 | exact hi11.1 | exact hi12.1 | exact hj1 | exact hj2 | exact hj3 | exact hj4 | exact hj5 | exact hj6 | exact hj7 | exact hj8 | exact hj9 | exact hj10 | exact hj11 | exact hj12 | refine rd_u rfl rfl ?_)) (by assumption) | exact rd_in (by repeat (first | assumption | exact ho | exact hi1.1 | exact hi2.1 | exact hi3.1 | exact hi4.1 | exact hi5.1 | exact hi6.1 | exact hi7.1 | exact hi8.1 | exact hi9.1 | exact hi10.1 | exact hi11.1 | exact hi12.1 | exact hj1 | exact hj2 | exact hj3 | exact hj4 | exact hj5 | exact hj6 | exact hj7 | exact hj8 | exact hj9 | exact hj10 | exact hj11 | exact hj12 | refine rd_u rfl rfl ?_)) (by assumption) | decide | omega) ?_
        rw [show (jj_rs h [(13, (upd r1_ (6) (r1_ 3)))]) 14 = h 14 from rfl]
        refine rr_bipush 57 rfl dX5_advance_88 ?_
        refine rr_icmp_gt dX5_advance_90 (fun c32 => ?_) (fun c32 => ?_)
        · skip
          refine rr_aload_n 0 rfl rfl dX5_advance_193 ?_
          refine rr_getR dX5_advance_194 fX5_9 lo_13 sh_13 rfl ?_
          refine rr_aload_n 0 rfl rfl dX5_advance_197 ?_
          refine rr_getI dX5_advance_198 fX5_25 lo_13 sh_13 rfl ?_
          rw [show (jj_rs h [(13, (upd r1_ (6) (r1_ 3)))]) 13 = (upd r1_ (6) (r1_ 3)) from rfl]
          refine rr_baload dX5_advance_201 lo_14 sh_14 (by first | exact rd_in2 (by repeat (first | assumption | exact ho | exact hi1.1 | exact hi2.1 | exact hi3.1 | exact hi4.1 | exact hi5.1 | exact hi6.1 | exact hi7.1 | exact hi8.1 | exact hi9.1 | exact hi10.1 | exact hi11.1 | exact hi12.1 | exact hj1 | exact hj2 | exact hj3 | exact hj4 | exact hj5 | exact hj6 | exact hj7 | exact hj8 | exact hj9 | exact hj10 | exact hj11 | exact hj12 | refine rd_u rfl rfl ?_)) (by assumption) | exact rd_in (by repeat (first | assumption | exact ho | exact hi1.1 | exact hi2.1 | exact hi3.1 | exact hi4.1 | exact hi5.1 | exact hi6.1 | exact hi7.1 | exact hi8.1 | exact hi9.1 | exact hi10.1 | exact hi11.1 | exact hi12.1 | exact hj1 | exact hj2 | exact hj3 | exact hj4 | exact hj5 | exact hj6 | exact hj7 | exact hj8 | exact hj9 | exact hj10 | exact hj11 | exact hj12 | refine rd_u rfl rfl ?_)) (by assumption) | decide | omega) ?_
          rw [show (jj_rs h [(13, (upd r1_ (6) (r1_ 3)))]) 14 = h 14 from rfl]
          refine rr_bipush 97 rfl dX5_advance_202 ?_
          refine rr_icmp_lt dX5_advance_204 (fun c33 => ?_) (fun c33 => ?_)
          · skip
            refine rr_aload_n 0 rfl rfl dX5_advance_278 ?_
            refine rr_iconst 3 rfl dX5_advance_279 ?_
            refine rr_putI dX5_advance_280 fX5_37 ni5_4 lo_13 sh_13 rfl ?_
            rw [jj_rs_set (B := h) (L := [(13, (upd r1_ (6) (r1_ 3)))]) (L2 := [(13, (upd (upd r1_ (6) (r1_ 3)) (4) 3))]) (r := (upd r1_ (6) (r1_ 3))) rfl rfl]
            refine rr_aload_n 0 rfl rfl dX5_advance_283 ?_
            refine rr_aload_n 0 rfl rfl dX5_advance_284 ?_
            refine rr_getR dX5_advance_285 fX5_9 lo_13 sh_13 rfl ?_
            refine rr_aload_n 0 rfl rfl dX5_advance_288 ?_
            refine rr_getI dX5_advance_289 fX5_25 lo_13 sh_13 rfl ?_
            rw [show (jj_rs h [(13, (upd (upd r1_ (6) (r1_ 3)) (4) 3))]) 13 = (upd (upd r1_ (6) (r1_ 3)) (4) 3) from rfl]
            refine rr_baload dX5_advance_292 lo_14 sh_14 (by first | exact rd_in2 (by repeat (first | assumption | exact ho | exact hi1.1 | exact hi2.1 | exact hi3.1 | exact hi4.1 | exact hi5.1 | exact hi6.1 | exact hi7.1 | exact hi8.1 | exact hi9.1 | exact hi10.1 | exact hi11.1 | exact hi12.1 | exact hj1 | exact hj2 | exact hj3 | exact hj4 | exact hj5 | exact hj6 | exact hj7 | exact hj8 | exact hj9 | exact hj10 | exact hj11 | exact hj12 | refine rd_u rfl rfl ?_)) (by assumption) | exact rd_in (by repeat (first | assumption | exact ho | exact hi1.1 | exact hi2.1 | exact hi3.1 | exact hi4.1 | exact hi5.1 | exact hi6.1 | exact hi7.1 | exact hi8.1 | exact hi9.1 | exact hi10.1 | exact hi11.1 | exact hi12.1 | exact hj1 | exact hj2 | exact hj3 | exact hj4 | exact hj5 | exact hj6 | exact hj7 | exact hj8 | exact hj9 | exact hj10 | exact hj11 | exact hj12 | refine rd_u rfl rfl ?_)) (by assumption) | decide | omega) ?_
            rw [show (jj_rs h [(13, (upd (upd r1_ (6) (r1_ 3)) (4) 3))]) 14 = h 14 from rfl]
            refine rr_putI dX5_advance_293 fX5_40 ni5_5 lo_13 sh_13 rfl ?_
            rw [jj_rs_set (B := h) (L := [(13, (upd (upd r1_ (6) (r1_ 3)) (4) 3))]) (L2 := [(13, (upd (upd (upd r1_ (6) (r1_ 3)) (4) 3) (5) ((h 14) (((upd (upd r1_ (6) (r1_ 3)) (4) 3) 3) : Int32).toNatClampNeg)))]) (r := (upd (upd r1_ (6) (r1_ 3)) (4) 3)) rfl rfl]
            refine rr_aload_n 0 rfl rfl dX5_advance_296 ?_
            refine rr_dup rfl dX5_advance_297 ?_
            refine rr_getI dX5_advance_298 fX5_25 lo_13 sh_13 rfl ?_
            rw [show (jj_rs h [(13, (upd (upd (upd r1_ (6) (r1_ 3)) (4) 3) (5) ((h 14) (((upd (upd r1_ (6) (r1_ 3)) (4) 3) 3) : Int32).toNatClampNeg)))]) 13 = (upd (upd (upd r1_ (6) (r1_ 3)) (4) 3) (5) ((h 14) (((upd (upd r1_ (6) (r1_ 3)) (4) 3) 3) : Int32).toNatClampNeg)) from rfl]
            refine rr_iconst 1 rfl dX5_advance_301 ?_
            refine rr_iadd dX5_advance_302 ?_
            refine rr_putI dX5_advance_303 fX5_25 ni5_3 lo_13 sh_13 rfl ?_
            rw [jj_rs_set (B := h) (L := [(13, (upd (upd (upd r1_ (6) (r1_ 3)) (4) 3) (5) ((h 14) (((upd (upd r1_ (6) (r1_ 3)) (4) 3) 3) : Int32).toNatClampNeg)))]) (L2 := [(13, (upd (upd (upd (upd r1_ (6) (r1_ 3)) (4) 3) (5) ((h 14) (((upd (upd r1_ (6) (r1_ 3)) (4) 3) 3) : Int32).toNatClampNeg)) (3) (((upd (upd (upd r1_ (6) (r1_ 3)) (4) 3) (5) ((h 14) (((upd (upd r1_ (6) (r1_ 3)) (4) 3) 3) : Int32).toNatClampNeg)) 3) + 1)))]) (r := (upd (upd (upd r1_ (6) (r1_ 3)) (4) 3) (5) ((h 14) (((upd (upd r1_ (6) (r1_ 3)) (4) 3) 3) : Int32).toNatClampNeg))) rfl rfl]
            refine rr_return dX5_advance_306 rfl ?_
            simpa only [rX5_advance_13, hx1, if_pos c24, if_neg c25, if_pos c32, if_pos c33, Sum.elim_inl, Sum.elim_inr] using kq
          · skip
            refine rr_aload_n 0 rfl rfl dX5_advance_207 ?_
            refine rr_getR dX5_advance_208 fX5_9 lo_13 sh_13 rfl ?_
            refine rr_aload_n 0 rfl rfl dX5_advance_211 ?_
            refine rr_getI dX5_advance_212 fX5_25 lo_13 sh_13 rfl ?_
            rw [show (jj_rs h [(13, (upd r1_ (6) (r1_ 3)))]) 13 = (upd r1_ (6) (r1_ 3)) from rfl]
            refine rr_baload dX5_advance_215 lo_14 sh_14 (by first | exact rd_in2 (by repeat (first | assumption | exact ho | exact hi1.1 | exact hi2.1 | exact hi3.1 | exact hi4.1 | exact hi5.1 | exact hi6.1 | exact hi7.1 | exact hi8.1 | exact hi9.1 | exact hi10.1 | exact hi11.1 | exact hi12.1 | exact hj1 | exact hj2 | exact hj3 | exact hj4 | exact hj5 | exact hj6 | exact hj7 | exact hj8 | exact hj9 | exact hj10 | exact hj11 | exact hj12 | refine rd_u rfl rfl ?_)) (by assumption) | exact rd_in (by repeat (first | assumption | exact ho | exact hi1.1 | exact hi2.1 | exact hi3.1 | exact hi4.1 | exact hi5.1 | exact hi6.1 | exact hi7.1 | exact hi8.1 | exact hi9.1 | exact hi10.1 | exact hi11.1 | exact hi12.1 | exact hj1 | exact hj2 | exact hj3 | exact hj4 | exact hj5 | exact hj6 | exact hj7 | exact hj8 | exact hj9 | exact hj10 | exact hj11 | exact hj12 | refine rd_u rfl rfl ?_)) (by assumption) | decide | omega) ?_
            rw [show (jj_rs h [(13, (upd r1_ (6) (r1_ 3)))]) 14 = h 14 from rfl]
            refine rr_bipush 122 rfl dX5_advance_216 ?_
            refine rr_icmp_gt dX5_advance_218 (fun c34 => ?_) (fun c34 => ?_)
            · skip
              refine rr_aload_n 0 rfl rfl dX5_advance_278 ?_
              refine rr_iconst 3 rfl dX5_advance_279 ?_
              refine rr_putI dX5_advance_280 fX5_37 ni5_4 lo_13 sh_13 rfl ?_
              rw [jj_rs_set (B := h) (L := [(13, (upd r1_ (6) (r1_ 3)))]) (L2 := [(13, (upd (upd r1_ (6) (r1_ 3)) (4) 3))]) (r := (upd r1_ (6) (r1_ 3))) rfl rfl]
              refine rr_aload_n 0 rfl rfl dX5_advance_283 ?_
              refine rr_aload_n 0 rfl rfl dX5_advance_284 ?_
              refine rr_getR dX5_advance_285 fX5_9 lo_13 sh_13 rfl ?_
              refine rr_aload_n 0 rfl rfl dX5_advance_288 ?_
              refine rr_getI dX5_advance_289 fX5_25 lo_13 sh_13 rfl ?_
              rw [show (jj_rs h [(13, (upd (upd r1_ (6) (r1_ 3)) (4) 3))]) 13 = (upd (upd r1_ (6) (r1_ 3)) (4) 3) from rfl]
              refine rr_baload dX5_advance_292 lo_14 sh_14 (by first | exact rd_in2 (by repeat (first | assumption | exact ho | exact hi1.1 | exact hi2.1 | exact hi3.1 | exact hi4.1 | exact hi5.1 | exact hi6.1 | exact hi7.1 | exact hi8.1 | exact hi9.1 | exact hi10.1 | exact hi11.1 | exact hi12.1 | exact hj1 | exact hj2 | exact hj3 | exact hj4 | exact hj5 | exact hj6 | exact hj7 | exact hj8 | exact hj9 | exact hj10 | exact hj11 | exact hj12 | refine rd_u rfl rfl ?_)) (by assumption) | exact rd_in (by repeat (first | assumption | exact ho | exact hi1.1 | exact hi2.1 | exact hi3.1 | exact hi4.1 | exact hi5.1 | exact hi6.1 | exact hi7.1 | exact hi8.1 | exact hi9.1 | exact hi10.1 | exact hi11.1 | exact hi12.1 | exact hj1 | exact hj2 | exact hj3 | exact hj4 | exact hj5 | exact hj6 | exact hj7 | exact hj8 | exact hj9 | exact hj10 | exact hj11 | exact hj12 | refine rd_u rfl rfl ?_)) (by assumption) | decide | omega) ?_
              rw [show (jj_rs h [(13, (upd (upd r1_ (6) (r1_ 3)) (4) 3))]) 14 = h 14 from rfl]
              refine rr_putI dX5_advance_293 fX5_40 ni5_5 lo_13 sh_13 rfl ?_
              rw [jj_rs_set (B := h) (L := [(13, (upd (upd r1_ (6) (r1_ 3)) (4) 3))]) (L2 := [(13, (upd (upd (upd r1_ (6) (r1_ 3)) (4) 3) (5) ((h 14) (((upd (upd r1_ (6) (r1_ 3)) (4) 3) 3) : Int32).toNatClampNeg)))]) (r := (upd (upd r1_ (6) (r1_ 3)) (4) 3)) rfl rfl]
              refine rr_aload_n 0 rfl rfl dX5_advance_296 ?_
              refine rr_dup rfl dX5_advance_297 ?_
              refine rr_getI dX5_advance_298 fX5_25 lo_13 sh_13 rfl ?_
              rw [show (jj_rs h [(13, (upd (upd (upd r1_ (6) (r1_ 3)) (4) 3) (5) ((h 14) (((upd (upd r1_ (6) (r1_ 3)) (4) 3) 3) : Int32).toNatClampNeg)))]) 13 = (upd (upd (upd r1_ (6) (r1_ 3)) (4) 3) (5) ((h 14) (((upd (upd r1_ (6) (r1_ 3)) (4) 3) 3) : Int32).toNatClampNeg)) from rfl]
              refine rr_iconst 1 rfl dX5_advance_301 ?_
              refine rr_iadd dX5_advance_302 ?_
              refine rr_putI dX5_advance_303 fX5_25 ni5_3 lo_13 sh_13 rfl ?_
              rw [jj_rs_set (B := h) (L := [(13, (upd (upd (upd r1_ (6) (r1_ 3)) (4) 3) (5) ((h 14) (((upd (upd r1_ (6) (r1_ 3)) (4) 3) 3) : Int32).toNatClampNeg)))]) (L2 := [(13, (upd (upd (upd (upd r1_ (6) (r1_ 3)) (4) 3) (5) ((h 14) (((upd (upd r1_ (6) (r1_ 3)) (4) 3) 3) : Int32).toNatClampNeg)) (3) (((upd (upd (upd r1_ (6) (r1_ 3)) (4) 3) (5) ((h 14) (((upd (upd r1_ (6) (r1_ 3)) (4) 3) 3) : Int32).toNatClampNeg)) 3) + 1)))]) (r := (upd (upd (upd r1_ (6) (r1_ 3)) (4) 3) (5) ((h 14) (((upd (upd r1_ (6) (r1_ 3)) (4) 3) 3) : Int32).toNatClampNeg))) rfl rfl]
              refine rr_return dX5_advance_306 rfl ?_
              simpa only [rX5_advance_13, hx1, if_pos c24, if_neg c25, if_pos c32, if_neg c33, if_pos c34, Sum.elim_inl, Sum.elim_inr] using kq
            · skip
              refine rr_aload_n 0 rfl rfl dX5_advance_221 ?_
              refine rr_iconst 2 rfl dX5_advance_222 ?_
              refine rr_putI dX5_advance_223 fX5_37 ni5_4 lo_13 sh_13 rfl ?_
              rw [jj_rs_set (B := h) (L := [(13, (upd r1_ (6) (r1_ 3)))]) (L2 := [(13, (upd (upd r1_ (6) (r1_ 3)) (4) 2))]) (r := (upd r1_ (6) (r1_ 3))) rfl rfl]
              refine jj_forx (fun k6 (a6 : (Nat → Int32)) => (rdok a6 ∧ rdl a6 + k6 = (rdl (upd (upd r1_ (6) (r1_ 3)) (4) 2))) → jj_R _ _ kc ks (jj_S, 782, (jj_rs h [(13, a6)]), g) 226 [(0, .ref 13)] [] Q) (fX5_advance_6 (h 14)) ((rdl (upd (upd r1_ (6) (r1_ 3)) (4) 2))) (upd (upd r1_ (6) (r1_ 3)) (4) 2) (fun (r6_ : (Nat → Int32)) => (rdok r6_) → jj_R mX5_advance (d + 0) kc ks (jj_S, 782, (jj_rs h [(13, r6_)]), g) 306 [(0, .ref 13)] [] Q) ?_ ?_ ?_ ⟨(by repeat (first | assumption | exact ho | exact hi1.1 | exact hi2.1 | exact hi3.1 | exact hi4.1 | exact hi5.1 | exact hi6.1 | exact hi7.1 | exact hi8.1 | exact hi9.1 | exact hi10.1 | exact hi11.1 | exact hi12.1 | exact hj1 | exact hj2 | exact hj3 | exact hj4 | exact hj5 | exact hj6 | exact hj7 | exact hj8 | exact hj9 | exact hj10 | exact hj11 | exact hj12 | refine rd_u rfl rfl ?_)), rfl⟩
              · intro k6 hk6 a6 ih6 ix6 hi6
                try dsimp only at ih6 ix6 ⊢
                refine rr_aload_n 0 rfl rfl dX5_advance_226 ?_
                refine rr_getI dX5_advance_227 fX5_25 lo_13 sh_13 rfl ?_
                rw [show (jj_rs h [(13, a6)]) 13 = a6 from rfl]
                refine rr_aload_n 0 rfl rfl dX5_advance_230 ?_
                refine rr_getI dX5_advance_231 fX5_22 lo_13 sh_13 rfl ?_
                rw [show (jj_rs h [(13, a6)]) 13 = a6 from rfl]
                refine rr_icmp_ge dX5_advance_234 (fun c35 => ?_) (fun c35 => ?_)
                · skip
                  simpa only [fX5_advance_6, if_pos c35] using ix6 a6 (by simp only [fX5_advance_6, if_pos c35]) (by first | exact hi6.1 | (refine rd_u rfl rfl ?_; exact hi6.1))
                · skip
                  refine rr_aload_n 0 rfl rfl dX5_advance_237 ?_
                  refine rr_getR dX5_advance_238 fX5_9 lo_13 sh_13 rfl ?_
                  refine rr_aload_n 0 rfl rfl dX5_advance_241 ?_
                  refine rr_getI dX5_advance_242 fX5_25 lo_13 sh_13 rfl ?_
                  rw [show (jj_rs h [(13, a6)]) 13 = a6 from rfl]
                  refine rr_baload dX5_advance_245 lo_14 sh_14 (by first | exact rd_in2 (by repeat (first | assumption | exact ho | exact hi1.1 | exact hi2.1 | exact hi3.1 | exact hi4.1 | exact hi5.1 | exact hi6.1 | exact hi7.1 | exact hi8.1 | exact hi9.1 | exact hi10.1 | exact hi11.1 | exact hi12.1 | exact hj1 | exact hj2 | exact hj3 | exact hj4 | exact hj5 | exact hj6 | exact hj7 | exact hj8 | exact hj9 | exact hj10 | exact hj11 | exact hj12 | refine rd_u rfl rfl ?_)) (by assumption) | exact rd_in (by repeat (first | assumption | exact ho | exact hi1.1 | exact hi2.1 | exact hi3.1 | exact hi4.1 | exact hi5.1 | exact hi6.1 | exact hi7.1 | exact hi8.1 | exact hi9.1 | exact hi10.1 | exact hi11.1 | exact hi12.1 | exact hj1 | exact hj2 | exact hj3 | exact hj4 | exact hj5 | exact hj6 | exact hj7 | exact hj8 | exact hj9 | exact hj10 | exact hj11 | exact hj12 | refine rd_u rfl rfl ?_)) (by assumption) | decide | omega) ?_
                  rw [show (jj_rs h [(13, a6)]) 14 = h 14 from rfl]
                  refine rr_bipush 97 rfl dX5_advance_246 ?_
                  refine rr_icmp_lt dX5_advance_248 (fun c36 => ?_) (fun c36 => ?_)
                  · skip
                    simpa only [fX5_advance_6, if_neg c35, if_pos c36] using ix6 a6 (by simp only [fX5_advance_6, if_neg c35, if_pos c36]) (by first | exact hi6.1 | (refine rd_u rfl rfl ?_; exact hi6.1))
                  · skip
                    refine rr_aload_n 0 rfl rfl dX5_advance_251 ?_
                    refine rr_getR dX5_advance_252 fX5_9 lo_13 sh_13 rfl ?_
                    refine rr_aload_n 0 rfl rfl dX5_advance_255 ?_
                    refine rr_getI dX5_advance_256 fX5_25 lo_13 sh_13 rfl ?_
                    rw [show (jj_rs h [(13, a6)]) 13 = a6 from rfl]
                    refine rr_baload dX5_advance_259 lo_14 sh_14 (by first | exact rd_in2 (by repeat (first | assumption | exact ho | exact hi1.1 | exact hi2.1 | exact hi3.1 | exact hi4.1 | exact hi5.1 | exact hi6.1 | exact hi7.1 | exact hi8.1 | exact hi9.1 | exact hi10.1 | exact hi11.1 | exact hi12.1 | exact hj1 | exact hj2 | exact hj3 | exact hj4 | exact hj5 | exact hj6 | exact hj7 | exact hj8 | exact hj9 | exact hj10 | exact hj11 | exact hj12 | refine rd_u rfl rfl ?_)) (by assumption) | exact rd_in (by repeat (first | assumption | exact ho | exact hi1.1 | exact hi2.1 | exact hi3.1 | exact hi4.1 | exact hi5.1 | exact hi6.1 | exact hi7.1 | exact hi8.1 | exact hi9.1 | exact hi10.1 | exact hi11.1 | exact hi12.1 | exact hj1 | exact hj2 | exact hj3 | exact hj4 | exact hj5 | exact hj6 | exact hj7 | exact hj8 | exact hj9 | exact hj10 | exact hj11 | exact hj12 | refine rd_u rfl rfl ?_)) (by assumption) | decide | omega) ?_
                    rw [show (jj_rs h [(13, a6)]) 14 = h 14 from rfl]
                    refine rr_bipush 122 rfl dX5_advance_260 ?_
                    refine rr_icmp_gt dX5_advance_262 (fun c37 => ?_) (fun c37 => ?_)
                    · skip
                      simpa only [fX5_advance_6, if_neg c35, if_neg c36, if_pos c37] using ix6 a6 (by simp only [fX5_advance_6, if_neg c35, if_neg c36, if_pos c37]) (by first | exact hi6.1 | (refine rd_u rfl rfl ?_; exact hi6.1))
                    · skip
                      refine rr_aload_n 0 rfl rfl dX5_advance_265 ?_
                      refine rr_dup rfl dX5_advance_266 ?_
                      refine rr_getI dX5_advance_267 fX5_25 lo_13 sh_13 rfl ?_
                      rw [show (jj_rs h [(13, a6)]) 13 = a6 from rfl]
                      refine rr_iconst 1 rfl dX5_advance_270 ?_
                      refine rr_iadd dX5_advance_271 ?_
                      refine rr_putI dX5_advance_272 fX5_25 ni5_3 lo_13 sh_13 rfl ?_
                      rw [jj_rs_set (B := h) (L := [(13, a6)]) (L2 := [(13, (upd a6 (3) ((a6 3) + 1)))]) (r := a6) rfl rfl]
                      refine rr_goto dX5_advance_275 ?_
                      simpa only [fX5_advance_6, if_neg c35, if_neg c36, if_neg c37] using ih6 (upd a6 (3) ((a6 3) + 1)) (by simp only [fX5_advance_6, if_neg c35, if_neg c36, if_neg c37]) (by first | exact rd_step hi6 (by assumption) | exact rd_step (rd_u2 rfl rfl hi6) (by assumption))
              · intro a6 hx6 hi6
                try dsimp only
                refine rr_aload_n 0 rfl rfl dX5_advance_226 ?_
                refine rr_getI dX5_advance_227 fX5_25 lo_13 sh_13 rfl ?_
                rw [show (jj_rs h [(13, a6)]) 13 = a6 from rfl]
                refine rr_aload_n 0 rfl rfl dX5_advance_230 ?_
                refine rr_getI dX5_advance_231 fX5_22 lo_13 sh_13 rfl ?_
                rw [show (jj_rs h [(13, a6)]) 13 = a6 from rfl]
                refine rr_icmp_ge dX5_advance_234 (fun c38 => ?_) (fun c38 => ?_)
                · skip
                  refine rr_return dX5_advance_306 rfl ?_
                  simpa only [rX5_advance_13, hx1, if_pos c24, if_neg c25, if_pos c32, if_neg c33, if_neg c34, hx6, Sum.elim_inl, Sum.elim_inr] using kq
                · skip
                  exact (rd_dead hi6 (by assumption)).elim
              · intro r6_ hx6 hj6
                try dsimp only
                refine rr_return dX5_advance_306 rfl ?_
                simpa only [rX5_advance_13, hx1, if_pos c24, if_neg c25, if_pos c32, if_neg c33, if_neg c34, hx6, Sum.elim_inl, Sum.elim_inr] using kq
        · skip
          refine rr_aload_n 0 rfl rfl dX5_advance_93 ?_
          refine rr_iconst 1 rfl dX5_advance_94 ?_
          refine rr_putI dX5_advance_95 fX5_37 ni5_4 lo_13 sh_13 rfl ?_
          rw [jj_rs_set (B := h) (L := [(13, (upd r1_ (6) (r1_ 3)))]) (L2 := [(13, (upd (upd r1_ (6) (r1_ 3)) (4) 1))]) (r := (upd r1_ (6) (r1_ 3))) rfl rfl]
          refine rr_aload_n 0 rfl rfl dX5_advance_98 ?_
          refine rr_iconst 0 rfl dX5_advance_99 ?_
          refine rr_putI dX5_advance_100 fX5_40 ni5_5 lo_13 sh_13 rfl ?_
          rw [jj_rs_set (B := h) (L := [(13, (upd (upd r1_ (6) (r1_ 3)) (4) 1))]) (L2 := [(13, (upd (upd (upd r1_ (6) (r1_ 3)) (4) 1) (5) 0))]) (r := (upd (upd r1_ (6) (r1_ 3)) (4) 1)) rfl rfl]
          refine jj_forx (fun k7 (a7 : (Nat → Int32)) => (rdok a7 ∧ rdl a7 + k7 = (rdl (upd (upd (upd r1_ (6) (r1_ 3)) (4) 1) (5) 0))) → jj_R _ _ kc ks (jj_S, 782, (jj_rs h [(13, a7)]), g) 103 [(0, .ref 13)] [] Q) (fX5_advance_7 (h 14)) ((rdl (upd (upd (upd r1_ (6) (r1_ 3)) (4) 1) (5) 0))) (upd (upd (upd r1_ (6) (r1_ 3)) (4) 1) (5) 0) (fun (r7_ : (Nat → Int32)) => (rdok r7_) → jj_R mX5_advance (d + 0) kc ks (jj_S, 782, (jj_rs h [(13, r7_)]), g) 306 [(0, .ref 13)] [] Q) ?_ ?_ ?_ ⟨(by repeat (first | assumption | exact ho | exact hi1.1 | exact hi2.1 | exact hi3.1 | exact hi4.1 | exact hi5.1 | exact hi6.1 | exact hi7.1 | exact hi8.1 | exact hi9.1 | exact hi10.1 | exact hi11.1 | exact hi12.1 | exact hj1 | exact hj2 | exact hj3 | exact hj4 | exact hj5 | exact hj6 | exact hj7 | exact hj8 | exact hj9 | exact hj10 | exact hj11 | exact hj12 | refine rd_u rfl rfl ?_)), rfl⟩
          · intro k7 hk7 a7 ih7 ix7 hi7
            try dsimp only at ih7 ix7 ⊢
            refine rr_aload_n 0 rfl rfl dX5_advance_103 ?_
            refine rr_getI dX5_advance_104 fX5_25 lo_13 sh_13 rfl ?_
            rw [show (jj_rs h [(13, a7)]) 13 = a7 from rfl]
            refine rr_aload_n 0 rfl rfl dX5_advance_107 ?_
            refine rr_getI dX5_advance_108 fX5_22 lo_13 sh_13 rfl ?_
            rw [show (jj_rs h [(13, a7)]) 13 = a7 from rfl]
            refine rr_icmp_ge dX5_advance_111 (fun c39 => ?_) (fun c39 => ?_)
            · skip
              simpa only [fX5_advance_7, if_pos c39] using ix7 a7 (by simp only [fX5_advance_7, if_pos c39]) (by first | exact hi7.1 | (refine rd_u rfl rfl ?_; exact hi7.1))
            · skip
              refine rr_aload_n 0 rfl rfl dX5_advance_114 ?_
              refine rr_getR dX5_advance_115 fX5_9 lo_13 sh_13 rfl ?_
              refine rr_aload_n 0 rfl rfl dX5_advance_118 ?_
              refine rr_getI dX5_advance_119 fX5_25 lo_13 sh_13 rfl ?_
              rw [show (jj_rs h [(13, a7)]) 13 = a7 from rfl]
              refine rr_baload dX5_advance_122 lo_14 sh_14 (by first | exact rd_in2 (by repeat (first | assumption | exact ho | exact hi1.1 | exact hi2.1 | exact hi3.1 | exact hi4.1 | exact hi5.1 | exact hi6.1 | exact hi7.1 | exact hi8.1 | exact hi9.1 | exact hi10.1 | exact hi11.1 | exact hi12.1 | exact hj1 | exact hj2 | exact hj3 | exact hj4 | exact hj5 | exact hj6 | exact hj7 | exact hj8 | exact hj9 | exact hj10 | exact hj11 | exact hj12 | refine rd_u rfl rfl ?_)) (by assumption) | exact rd_in (by repeat (first | assumption | exact ho | exact hi1.1 | exact hi2.1 | exact hi3.1 | exact hi4.1 | exact hi5.1 | exact hi6.1 | exact hi7.1 | exact hi8.1 | exact hi9.1 | exact hi10.1 | exact hi11.1 | exact hi12.1 | exact hj1 | exact hj2 | exact hj3 | exact hj4 | exact hj5 | exact hj6 | exact hj7 | exact hj8 | exact hj9 | exact hj10 | exact hj11 | exact hj12 | refine rd_u rfl rfl ?_)) (by assumption) | decide | omega) ?_
              rw [show (jj_rs h [(13, a7)]) 14 = h 14 from rfl]
              refine rr_bipush 48 rfl dX5_advance_123 ?_
              refine rr_icmp_lt dX5_advance_125 (fun c40 => ?_) (fun c40 => ?_)
              · skip
                simpa only [fX5_advance_7, if_neg c39, if_pos c40] using ix7 a7 (by simp only [fX5_advance_7, if_neg c39, if_pos c40]) (by first | exact hi7.1 | (refine rd_u rfl rfl ?_; exact hi7.1))
              · skip
                refine rr_aload_n 0 rfl rfl dX5_advance_128 ?_
                refine rr_getR dX5_advance_129 fX5_9 lo_13 sh_13 rfl ?_
                refine rr_aload_n 0 rfl rfl dX5_advance_132 ?_
                refine rr_getI dX5_advance_133 fX5_25 lo_13 sh_13 rfl ?_
                rw [show (jj_rs h [(13, a7)]) 13 = a7 from rfl]
                refine rr_baload dX5_advance_136 lo_14 sh_14 (by first | exact rd_in2 (by repeat (first | assumption | exact ho | exact hi1.1 | exact hi2.1 | exact hi3.1 | exact hi4.1 | exact hi5.1 | exact hi6.1 | exact hi7.1 | exact hi8.1 | exact hi9.1 | exact hi10.1 | exact hi11.1 | exact hi12.1 | exact hj1 | exact hj2 | exact hj3 | exact hj4 | exact hj5 | exact hj6 | exact hj7 | exact hj8 | exact hj9 | exact hj10 | exact hj11 | exact hj12 | refine rd_u rfl rfl ?_)) (by assumption) | exact rd_in (by repeat (first | assumption | exact ho | exact hi1.1 | exact hi2.1 | exact hi3.1 | exact hi4.1 | exact hi5.1 | exact hi6.1 | exact hi7.1 | exact hi8.1 | exact hi9.1 | exact hi10.1 | exact hi11.1 | exact hi12.1 | exact hj1 | exact hj2 | exact hj3 | exact hj4 | exact hj5 | exact hj6 | exact hj7 | exact hj8 | exact hj9 | exact hj10 | exact hj11 | exact hj12 | refine rd_u rfl rfl ?_)) (by assumption) | decide | omega) ?_
                rw [show (jj_rs h [(13, a7)]) 14 = h 14 from rfl]
                refine rr_bipush 57 rfl dX5_advance_137 ?_
                refine rr_icmp_gt dX5_advance_139 (fun c41 => ?_) (fun c41 => ?_)
                · skip
                  simpa only [fX5_advance_7, if_neg c39, if_neg c40, if_pos c41] using ix7 a7 (by simp only [fX5_advance_7, if_neg c39, if_neg c40, if_pos c41]) (by first | exact hi7.1 | (refine rd_u rfl rfl ?_; exact hi7.1))
                · skip
                  refine rr_aload_n 0 rfl rfl dX5_advance_142 ?_
                  refine rr_aload_n 0 rfl rfl dX5_advance_143 ?_
                  refine rr_getI dX5_advance_144 fX5_40 lo_13 sh_13 rfl ?_
                  rw [show (jj_rs h [(13, a7)]) 13 = a7 from rfl]
                  refine rr_ldc kX5_43 dX5_advance_147 ?_
                  refine rr_icmp_lt dX5_advance_149 (fun c42 => ?_) (fun c42 => ?_)
                  · skip
                    refine rr_bipush 10 rfl dX5_advance_157 ?_
                    refine rr_aload_n 0 rfl rfl dX5_advance_159 ?_
                    refine rr_getI dX5_advance_160 fX5_40 lo_13 sh_13 rfl ?_
                    rw [show (jj_rs h [(13, a7)]) 13 = a7 from rfl]
                    refine rr_imul dX5_advance_163 ?_
                    refine rr_aload_n 0 rfl rfl dX5_advance_164 ?_
                    refine rr_getR dX5_advance_165 fX5_9 lo_13 sh_13 rfl ?_
                    refine rr_aload_n 0 rfl rfl dX5_advance_168 ?_
                    refine rr_getI dX5_advance_169 fX5_25 lo_13 sh_13 rfl ?_
                    rw [show (jj_rs h [(13, a7)]) 13 = a7 from rfl]
                    refine rr_baload dX5_advance_172 lo_14 sh_14 (by first | exact rd_in2 (by repeat (first | assumption | exact ho | exact hi1.1 | exact hi2.1 | exact hi3.1 | exact hi4.1 | exact hi5.1 | exact hi6.1 | exact hi7.1 | exact hi8.1 | exact hi9.1 | exact hi10.1 | exact hi11.1 | exact hi12.1 | exact hj1 | exact hj2 | exact hj3 | exact hj4 | exact hj5 | exact hj6 | exact hj7 | exact hj8 | exact hj9 | exact hj10 | exact hj11 | exact hj12 | refine rd_u rfl rfl ?_)) (by assumption) | exact rd_in (by repeat (first | assumption | exact ho | exact hi1.1 | exact hi2.1 | exact hi3.1 | exact hi4.1 | exact hi5.1 | exact hi6.1 | exact hi7.1 | exact hi8.1 | exact hi9.1 | exact hi10.1 | exact hi11.1 | exact hi12.1 | exact hj1 | exact hj2 | exact hj3 | exact hj4 | exact hj5 | exact hj6 | exact hj7 | exact hj8 | exact hj9 | exact hj10 | exact hj11 | exact hj12 | refine rd_u rfl rfl ?_)) (by assumption) | decide | omega) ?_
                    rw [show (jj_rs h [(13, a7)]) 14 = h 14 from rfl]
                    refine rr_iadd dX5_advance_173 ?_
                    refine rr_bipush 48 rfl dX5_advance_174 ?_
                    refine rr_isub dX5_advance_176 ?_
                    refine rr_putI dX5_advance_177 fX5_40 ni5_5 lo_13 sh_13 rfl ?_
                    rw [jj_rs_set (B := h) (L := [(13, a7)]) (L2 := [(13, (upd a7 (5) ((((10 : Int32) * (a7 5)) + ((h 14) ((a7 3) : Int32).toNatClampNeg)) - 48)))]) (r := a7) rfl rfl]
                    refine rr_aload_n 0 rfl rfl dX5_advance_180 ?_
                    refine rr_dup rfl dX5_advance_181 ?_
                    refine rr_getI dX5_advance_182 fX5_25 lo_13 sh_13 rfl ?_
                    rw [show (jj_rs h [(13, (upd a7 (5) ((((10 : Int32) * (a7 5)) + ((h 14) ((a7 3) : Int32).toNatClampNeg)) - 48)))]) 13 = (upd a7 (5) ((((10 : Int32) * (a7 5)) + ((h 14) ((a7 3) : Int32).toNatClampNeg)) - 48)) from rfl]
                    refine rr_iconst 1 rfl dX5_advance_185 ?_
                    refine rr_iadd dX5_advance_186 ?_
                    refine rr_putI dX5_advance_187 fX5_25 ni5_3 lo_13 sh_13 rfl ?_
                    rw [jj_rs_set (B := h) (L := [(13, (upd a7 (5) ((((10 : Int32) * (a7 5)) + ((h 14) ((a7 3) : Int32).toNatClampNeg)) - 48)))]) (L2 := [(13, (upd (upd a7 (5) ((((10 : Int32) * (a7 5)) + ((h 14) ((a7 3) : Int32).toNatClampNeg)) - 48)) (3) (((upd a7 (5) ((((10 : Int32) * (a7 5)) + ((h 14) ((a7 3) : Int32).toNatClampNeg)) - 48)) 3) + 1)))]) (r := (upd a7 (5) ((((10 : Int32) * (a7 5)) + ((h 14) ((a7 3) : Int32).toNatClampNeg)) - 48))) rfl rfl]
                    refine rr_goto dX5_advance_190 ?_
                    simpa only [fX5_advance_7, if_neg c39, if_neg c40, if_neg c41, if_pos c42] using ih7 (upd (upd a7 (5) ((((10 : Int32) * (a7 5)) + ((h 14) ((a7 3) : Int32).toNatClampNeg)) - 48)) (3) (((upd a7 (5) ((((10 : Int32) * (a7 5)) + ((h 14) ((a7 3) : Int32).toNatClampNeg)) - 48)) 3) + 1)) (by simp only [fX5_advance_7, if_neg c39, if_neg c40, if_neg c41, if_pos c42]) (by first | exact rd_step hi7 (by assumption) | exact rd_step (rd_u2 rfl rfl hi7) (by assumption))
                  · skip
                    refine rr_ldc kX5_43 dX5_advance_152 ?_
                    refine rr_goto dX5_advance_154 ?_
                    refine rr_putI dX5_advance_177 fX5_40 ni5_5 lo_13 sh_13 rfl ?_
                    rw [jj_rs_set (B := h) (L := [(13, a7)]) (L2 := [(13, (upd a7 (5) 100000))]) (r := a7) rfl rfl]
                    refine rr_aload_n 0 rfl rfl dX5_advance_180 ?_
                    refine rr_dup rfl dX5_advance_181 ?_
                    refine rr_getI dX5_advance_182 fX5_25 lo_13 sh_13 rfl ?_
                    rw [show (jj_rs h [(13, (upd a7 (5) 100000))]) 13 = (upd a7 (5) 100000) from rfl]
                    refine rr_iconst 1 rfl dX5_advance_185 ?_
                    refine rr_iadd dX5_advance_186 ?_
                    refine rr_putI dX5_advance_187 fX5_25 ni5_3 lo_13 sh_13 rfl ?_
                    rw [jj_rs_set (B := h) (L := [(13, (upd a7 (5) 100000))]) (L2 := [(13, (upd (upd a7 (5) 100000) (3) (((upd a7 (5) 100000) 3) + 1)))]) (r := (upd a7 (5) 100000)) rfl rfl]
                    refine rr_goto dX5_advance_190 ?_
                    simpa only [fX5_advance_7, if_neg c39, if_neg c40, if_neg c41, if_neg c42] using ih7 (upd (upd a7 (5) 100000) (3) (((upd a7 (5) 100000) 3) + 1)) (by simp only [fX5_advance_7, if_neg c39, if_neg c40, if_neg c41, if_neg c42]) (by first | exact rd_step hi7 (by assumption) | exact rd_step (rd_u2 rfl rfl hi7) (by assumption))
          · intro a7 hx7 hi7
            try dsimp only
            refine rr_aload_n 0 rfl rfl dX5_advance_103 ?_
            refine rr_getI dX5_advance_104 fX5_25 lo_13 sh_13 rfl ?_
            rw [show (jj_rs h [(13, a7)]) 13 = a7 from rfl]
            refine rr_aload_n 0 rfl rfl dX5_advance_107 ?_
            refine rr_getI dX5_advance_108 fX5_22 lo_13 sh_13 rfl ?_
            rw [show (jj_rs h [(13, a7)]) 13 = a7 from rfl]
            refine rr_icmp_ge dX5_advance_111 (fun c43 => ?_) (fun c43 => ?_)
            · skip
              refine rr_return dX5_advance_306 rfl ?_
              simpa only [rX5_advance_13, hx1, if_pos c24, if_neg c25, if_neg c32, hx7, Sum.elim_inl, Sum.elim_inr] using kq
            · skip
              exact (rd_dead hi7 (by assumption)).elim
          · intro r7_ hx7 hj7
            try dsimp only
            refine rr_return dX5_advance_306 rfl ?_
            simpa only [rX5_advance_13, hx1, if_pos c24, if_neg c25, if_neg c32, hx7, Sum.elim_inl, Sum.elim_inr] using kq
    · skip
      refine rr_aload_n 0 rfl rfl dX5_advance_57 ?_
      refine rr_iconst 0 rfl dX5_advance_58 ?_
      refine rr_putI dX5_advance_59 fX5_37 ni5_4 lo_13 sh_13 rfl ?_
      rw [jj_rs_set (B := h) (L := [(13, (upd r1_ (6) (r1_ 3)))]) (L2 := [(13, (upd (upd r1_ (6) (r1_ 3)) (4) 0))]) (r := (upd r1_ (6) (r1_ 3))) rfl rfl]
      refine rr_goto dX5_advance_62 ?_
      refine rr_return dX5_advance_306 rfl ?_
      simpa only [rX5_advance_13, hx1, if_neg c24, Sum.elim_inl, Sum.elim_inr] using kq
theorem rd_fx {F : Nat → (Nat → Int32) → Sum (Nat → Int32) (Nat → Int32)} (st : ∀ k x, rdok x → Sum.elim rdok rdok (F k x)) {n : Nat} {a : Nat → Int32} (h : rdok a) : Sum.elim rdok rdok (jj_fx F n a) := by
  induction n with
  | zero => exact h
  | succ n ih =>
    show Sum.elim rdok rdok (Sum.elim (fun b => F n b) (fun r => .inr r) (jj_fx F n a))
    generalize jj_fx F n a = z at ih ⊢
    rcases z with z | z
    · exact st n z ih
    · exact ih
theorem rd_id {x : Sum (Nat → Int32) (Nat → Int32)} (h : Sum.elim rdok rdok x) : rdok (Sum.elim (fun a => a) (fun r => r) x) := by
  rcases x with x | x <;> exact h
theorem rd_st1 {r14 : Nat → Int32} : ∀ k x, rdok x → Sum.elim rdok rdok (fX5_advance_1 r14 k x) := by
  intro k x hx
  unfold fX5_advance_1
  by_cases c : x 2 ≤ x 3
  · rw [if_pos c]; exact hx
  · rw [if_neg c]
    (repeat' split) <;> first | exact hx | exact rd_nx hx (rd_lt hx c) | exact rd_nx (rd_u rfl rfl hx) (rd_lt hx c)
theorem rd_st2 {r14 : Nat → Int32} : ∀ k x, rdok x → Sum.elim rdok rdok (fX5_advance_2 r14 k x) := by
  intro k x hx
  unfold fX5_advance_2
  by_cases c : x 2 ≤ x 3
  · rw [if_pos c]; exact hx
  · rw [if_neg c]
    (repeat' split) <;> first | exact hx | exact rd_nx hx (rd_lt hx c) | exact rd_nx (rd_u rfl rfl hx) (rd_lt hx c)
theorem rd_st3 {r14 : Nat → Int32} : ∀ k x, rdok x → Sum.elim rdok rdok (fX5_advance_3 r14 k x) := by
  intro k x hx
  unfold fX5_advance_3
  by_cases c : x 2 ≤ x 3
  · rw [if_pos c]; exact hx
  · rw [if_neg c]
    (repeat' split) <;> first | exact hx | exact rd_nx hx (rd_lt hx c) | exact rd_nx (rd_u rfl rfl hx) (rd_lt hx c)
theorem rd_st4 {r14 : Nat → Int32} : ∀ k x, rdok x → Sum.elim rdok rdok (fX5_advance_4 r14 k x) := by
  intro k x hx
  unfold fX5_advance_4
  by_cases c : x 2 ≤ x 3
  · rw [if_pos c]; exact hx
  · rw [if_neg c]
    (repeat' split) <;> first | exact hx | exact rd_nx hx (rd_lt hx c) | exact rd_nx (rd_u rfl rfl hx) (rd_lt hx c)
theorem rd_st5 {r14 : Nat → Int32} : ∀ k x, rdok x → Sum.elim rdok rdok (fX5_advance_5 r14 k x) := by
  intro k x hx
  unfold fX5_advance_5
  by_cases c : x 2 ≤ x 3
  · rw [if_pos c]; exact hx
  · rw [if_neg c]
    (repeat' split) <;> first | exact hx | exact rd_nx hx (rd_lt hx c) | exact rd_nx (rd_u rfl rfl hx) (rd_lt hx c)
theorem rd_st6 {r14 : Nat → Int32} : ∀ k x, rdok x → Sum.elim rdok rdok (fX5_advance_6 r14 k x) := by
  intro k x hx
  unfold fX5_advance_6
  by_cases c : x 2 ≤ x 3
  · rw [if_pos c]; exact hx
  · rw [if_neg c]
    (repeat' split) <;> first | exact hx | exact rd_nx hx (rd_lt hx c) | exact rd_nx (rd_u rfl rfl hx) (rd_lt hx c)
theorem rd_st7 {r14 : Nat → Int32} : ∀ k x, rdok x → Sum.elim rdok rdok (fX5_advance_7 r14 k x) := by
  intro k x hx
  unfold fX5_advance_7
  by_cases c : x 2 ≤ x 3
  · rw [if_pos c]; exact hx
  · rw [if_neg c]
    (repeat' split) <;> first | exact hx | exact rd_nx hx (rd_lt hx c) | exact rd_nx (rd_u rfl rfl hx) (rd_lt hx c)
theorem rd_adv {r13 r14 : Nat → Int32} (h : rdok r13) : rdok (rX5_advance_13 r13 r14) := by
  unfold rX5_advance_13
  have hf := rd_fx (rd_st1 (r14 := r14)) (n := rdl r13) h
  generalize jj_fx (fX5_advance_1 r14) (rdl r13) r13 = z at hf ⊢
  rcases z with a | a
  · have ha : rdok a := hf
    simp only [Sum.elim_inl]
    (repeat' split) <;> first | exact rd_nx (by repeat (first | exact ha | refine rd_u rfl rfl ?_)) (by assumption) | exact rd_id (rd_fx rd_st2 (by repeat (first | exact ha | refine rd_u rfl rfl ?_))) | exact rd_id (rd_fx rd_st3 (by repeat (first | exact ha | refine rd_u rfl rfl ?_))) | exact rd_id (rd_fx rd_st4 (by repeat (first | exact ha | refine rd_u rfl rfl ?_))) | exact rd_id (rd_fx rd_st5 (by repeat (first | exact ha | refine rd_u rfl rfl ?_))) | exact rd_id (rd_fx rd_st6 (by repeat (first | exact ha | refine rd_u rfl rfl ?_))) | exact rd_id (rd_fx rd_st7 (by repeat (first | exact ha | refine rd_u rfl rfl ?_))) | exact (by repeat (first | exact ha | refine rd_u rfl rfl ?_))
  · have ha : rdok a := hf
    simp only [Sum.elim_inr]
    (repeat' split) <;> first | exact rd_nx (by repeat (first | exact ha | refine rd_u rfl rfl ?_)) (by assumption) | exact rd_id (rd_fx rd_st2 (by repeat (first | exact ha | refine rd_u rfl rfl ?_))) | exact rd_id (rd_fx rd_st3 (by repeat (first | exact ha | refine rd_u rfl rfl ?_))) | exact rd_id (rd_fx rd_st4 (by repeat (first | exact ha | refine rd_u rfl rfl ?_))) | exact rd_id (rd_fx rd_st5 (by repeat (first | exact ha | refine rd_u rfl rfl ?_))) | exact rd_id (rd_fx rd_st6 (by repeat (first | exact ha | refine rd_u rfl rfl ?_))) | exact rd_id (rd_fx rd_st7 (by repeat (first | exact ha | refine rd_u rfl rfl ?_))) | exact (by repeat (first | exact ha | refine rd_u rfl rfl ?_))
def vX5_number (r13 : Nat → Int32) (r14 : Nat → Int32) (w : Int32) : Int32 := (if (r13 4) = 1 then (if (r13 5) ≤ w then (r13 5) else (vX5_failed r13 2)) else (vX5_failed r13 1))
def rX5_number_13 (r13 : Nat → Int32) (r14 : Nat → Int32) (w : Int32) : Nat → Int32 := (if (r13 4) = 1 then (if (r13 5) ≤ w then (rX5_advance_13 r13 r14) else (rX5_failed_13 r13 2)) else (rX5_failed_13 r13 1))
set_option maxHeartbeats 1000000 in
theorem sp_X5_number {d kc ks : Nat} {h : Nat → Nat → Int32} {g : Nat → Nat → Int64} {Q : jj_Rs → jj_St → Prop} {w : Int32} (ho : rdok (h 13)) (kq : Q (.inl (some (.int (vX5_number (h 13) (h 14) w)))) (jj_S, 782, (jj_rs h [(13, (rX5_number_13 (h 13) (h 14) w))]), g)) : jj_R mX5_number (d + 1) kc ks (jj_S, 782, h, g) 0 [(0, .ref 13), (1, .int w)] [] Q := by
  refine rr_aload_n 0 rfl rfl dX5_number_0 ?_
  refine rr_getI dX5_number_1 fX5_37 lo_13 sh_13 rfl ?_
  refine rr_iconst 1 rfl dX5_number_4 ?_
  refine rr_icmp_eq dX5_number_5 (fun c1 => ?_) (fun c1 => ?_)
  · skip
    refine rr_aload_n 0 rfl rfl dX5_number_14 ?_
    refine rr_getI dX5_number_15 fX5_40 lo_13 sh_13 rfl ?_
    refine rr_iload_n 1 rfl rfl dX5_number_18 ?_
    refine rr_icmp_le dX5_number_19 (fun c2 => ?_) (fun c2 => ?_)
    · skip
      refine rr_aload_n 0 rfl rfl dX5_number_28 ?_
      refine rr_getI dX5_number_29 fX5_40 lo_13 sh_13 rfl ?_
      refine rr_istore_n [(0, .ref 13), (1, .int w), (2, .int ((h 13) 5))] dX5_number_32 rfl (by decide) rfl ?_
      refine rr_aload_n 0 rfl rfl dX5_number_33 ?_
      refine rr_callV (As := []) (rest := []) (kc2 := 0) (ks2 := 0) dX5_number_34 okX5_advance lX5_31 lo_13 sh_13 rfl rfl (Nat.le_of_ble_eq_true rfl) (Nat.le_of_ble_eq_true rfl) rfl (by omega) (by simp [jj_rk]) (by simp [jj_rk]) ?_
      refine sp_X5_advance (by repeat (first | assumption | refine rd_u rfl rfl ?_ | exact rd_open (by assumption) (by assumption) | exact rd_open0)) ?_
      show jj_R _ _ kc ks (jj_S, 782, (jj_rs h [(13, (rX5_advance_13 (h 13) (h 14)))]), g) 37 [(0, .ref 13), (1, .int w), (2, .int ((h 13) 5))] [] Q
      refine rr_iload_n 2 rfl rfl dX5_number_37 ?_
      refine rr_ireturn dX5_number_38 rfl ?_
      first | simpa only [vX5_number, rX5_number_13, if_pos c1, if_pos c2] using kq | (exfalso; contradiction)
    · skip
      refine rr_aload_n 0 rfl rfl dX5_number_22 ?_
      refine rr_iconst 2 rfl dX5_number_23 ?_
      refine rr_callV (As := [.int 2]) (rest := []) (kc2 := 0) (ks2 := 0) dX5_number_24 okX5_failed lX5_53 lo_13 sh_13 rfl rfl (Nat.le_of_ble_eq_true rfl) (Nat.le_of_ble_eq_true rfl) rfl (by omega) (by simp [jj_rk]) (by simp [jj_rk]) ?_
      refine sp_X5_failed  ?_
      show jj_R _ _ kc ks (jj_S, 782, (jj_rs h [(13, (rX5_failed_13 (h 13) 2))]), g) 27 [(0, .ref 13), (1, .int w)] [.int (vX5_failed (h 13) 2)] Q
      refine rr_ireturn dX5_number_27 rfl ?_
      first | simpa only [vX5_number, rX5_number_13, if_pos c1, if_neg c2] using kq | (exfalso; contradiction)
  · skip
    refine rr_aload_n 0 rfl rfl dX5_number_8 ?_
    refine rr_iconst 1 rfl dX5_number_9 ?_
    refine rr_callV (As := [.int 1]) (rest := []) (kc2 := 0) (ks2 := 0) dX5_number_10 okX5_failed lX5_53 lo_13 sh_13 rfl rfl (Nat.le_of_ble_eq_true rfl) (Nat.le_of_ble_eq_true rfl) rfl (by omega) (by simp [jj_rk]) (by simp [jj_rk]) ?_
    refine sp_X5_failed  ?_
    show jj_R _ _ kc ks (jj_S, 782, (jj_rs h [(13, (rX5_failed_13 (h 13) 1))]), g) 13 [(0, .ref 13), (1, .int w)] [.int (vX5_failed (h 13) 1)] Q
    refine rr_ireturn dX5_number_13 rfl ?_
    first | simpa only [vX5_number, rX5_number_13, if_neg c1] using kq | (exfalso; contradiction)
def vX5_passSign (r13 : Nat → Int32) (r14 : Nat → Int32) (w : Int32) : Int32 := (if (vX5_isSign r13 w) = 0 then 0 else 1)
def rX5_passSign_13 (r13 : Nat → Int32) (r14 : Nat → Int32) (w : Int32) : Nat → Int32 := (if (vX5_isSign r13 w) = 0 then (rX5_failed_13 r13 1) else (rX5_advance_13 r13 r14))
set_option maxHeartbeats 1000000 in
theorem sp_X5_passSign {d kc ks : Nat} {h : Nat → Nat → Int32} {g : Nat → Nat → Int64} {Q : jj_Rs → jj_St → Prop} {w : Int32} (ho : rdok (h 13)) (kq : Q (.inl (some (.int (vX5_passSign (h 13) (h 14) w)))) (jj_S, 782, (jj_rs h [(13, (rX5_passSign_13 (h 13) (h 14) w))]), g)) : jj_R mX5_passSign (d + 1) kc ks (jj_S, 782, h, g) 0 [(0, .ref 13), (1, .int w)] [] Q := by
  refine rr_aload_n 0 rfl rfl dX5_passSign_0 ?_
  refine rr_iload_n 1 rfl rfl dX5_passSign_1 ?_
  refine rr_callV (As := [.int w]) (rest := []) (kc2 := 0) (ks2 := 0) dX5_passSign_2 okX5_isSign lX5_57 lo_13 sh_13 rfl rfl (Nat.le_of_ble_eq_true rfl) (Nat.le_of_ble_eq_true rfl) rfl (by omega) (by simp [jj_rk]) (by simp [jj_rk]) ?_
  refine sp_X5_isSign  ?_
  show jj_R _ _ kc ks (jj_S, 782, h, g) 5 [(0, .ref 13), (1, .int w)] [.int (vX5_isSign (h 13) w)] Q
  refine rr_if_ne dX5_passSign_5 (fun c1 => ?_) (fun c1 => ?_)
  · skip
    refine rr_aload_n 0 rfl rfl dX5_passSign_16 ?_
    refine rr_callV (As := []) (rest := []) (kc2 := 0) (ks2 := 0) dX5_passSign_17 okX5_advance lX5_31 lo_13 sh_13 rfl rfl (Nat.le_of_ble_eq_true rfl) (Nat.le_of_ble_eq_true rfl) rfl (by omega) (by simp [jj_rk]) (by simp [jj_rk]) ?_
    refine sp_X5_advance (by repeat (first | assumption | refine rd_u rfl rfl ?_ | exact rd_open (by assumption) (by assumption) | exact rd_open0)) ?_
    show jj_R _ _ kc ks (jj_S, 782, (jj_rs h [(13, (rX5_advance_13 (h 13) (h 14)))]), g) 20 [(0, .ref 13), (1, .int w)] [] Q
    refine rr_iconst 1 rfl dX5_passSign_20 ?_
    refine rr_nreturn dX5_passSign_21 rfl (by first | rfl | assumption) ?_
    first | simpa only [vX5_passSign, rX5_passSign_13, if_neg c1] using kq | (exfalso; contradiction)
  · skip
    refine rr_aload_n 0 rfl rfl dX5_passSign_8 ?_
    refine rr_iconst 1 rfl dX5_passSign_9 ?_
    refine rr_callV (As := [.int 1]) (rest := []) (kc2 := 0) (ks2 := 0) dX5_passSign_10 okX5_failed lX5_53 lo_13 sh_13 rfl rfl (Nat.le_of_ble_eq_true rfl) (Nat.le_of_ble_eq_true rfl) rfl (by omega) (by simp [jj_rk]) (by simp [jj_rk]) ?_
    refine sp_X5_failed  ?_
    show jj_R _ _ kc ks (jj_S, 782, (jj_rs h [(13, (rX5_failed_13 (h 13) 1))]), g) 13 [(0, .ref 13), (1, .int w)] [.int (vX5_failed (h 13) 1)] Q
    refine rr_pop rfl dX5_passSign_13 ?_
    refine rr_iconst 0 rfl dX5_passSign_14 ?_
    refine rr_nreturn dX5_passSign_15 rfl (by first | rfl | assumption) ?_
    first | simpa only [vX5_passSign, rX5_passSign_13, if_pos c1] using kq | (exfalso; contradiction)
def vX5_passEnd (r13 : Nat → Int32) : Int32 := (if (r13 4) = 0 then (if (r13 4) = 0 then 1 else 0) else (if ((rX5_failed_13 r13 1) 4) = 0 then 1 else 0))
def rX5_passEnd_13 (r13 : Nat → Int32) : Nat → Int32 := (if (r13 4) = 0 then r13 else (rX5_failed_13 r13 1))
set_option maxHeartbeats 1000000 in
theorem sp_X5_passEnd {d kc ks : Nat} {h : Nat → Nat → Int32} {g : Nat → Nat → Int64} {Q : jj_Rs → jj_St → Prop}  (kq : Q (.inl (some (.int (vX5_passEnd (h 13))))) (jj_S, 782, (jj_rs h [(13, (rX5_passEnd_13 (h 13)))]), g)) : jj_R mX5_passEnd (d + 1) kc ks (jj_S, 782, h, g) 0 [(0, .ref 13)] [] Q := by
  refine rr_aload_n 0 rfl rfl dX5_passEnd_0 ?_
  refine rr_getI dX5_passEnd_1 fX5_37 lo_13 sh_13 rfl ?_
  refine rr_if_eq dX5_passEnd_4 (fun c1 => ?_) (fun c1 => ?_)
  · skip
    refine rr_aload_n 0 rfl rfl dX5_passEnd_13 ?_
    refine rr_getI dX5_passEnd_14 fX5_37 lo_13 sh_13 rfl ?_
    refine rr_if_ne dX5_passEnd_17 (fun c2 => ?_) (fun c2 => ?_)
    · skip
      refine rr_iconst 0 rfl dX5_passEnd_24 ?_
      refine rr_nreturn dX5_passEnd_25 rfl (by first | rfl | assumption) ?_
      refine jj_Qh (jj_addr (B := h) (o := 13) (r := (h 13)) rfl) ?_
      first | simpa only [vX5_passEnd, rX5_passEnd_13, if_pos c1, if_neg c2] using kq | (exfalso; contradiction)
    · skip
      refine rr_iconst 1 rfl dX5_passEnd_20 ?_
      refine rr_goto dX5_passEnd_21 ?_
      refine rr_nreturn dX5_passEnd_25 rfl (by first | rfl | assumption) ?_
      refine jj_Qh (jj_addr (B := h) (o := 13) (r := (h 13)) rfl) ?_
      first | simpa only [vX5_passEnd, rX5_passEnd_13, if_pos c1, if_pos c2] using kq | (exfalso; contradiction)
  · skip
    refine rr_aload_n 0 rfl rfl dX5_passEnd_7 ?_
    refine rr_iconst 1 rfl dX5_passEnd_8 ?_
    refine rr_callV (As := [.int 1]) (rest := []) (kc2 := 0) (ks2 := 0) dX5_passEnd_9 okX5_failed lX5_53 lo_13 sh_13 rfl rfl (Nat.le_of_ble_eq_true rfl) (Nat.le_of_ble_eq_true rfl) rfl (by omega) (by simp [jj_rk]) (by simp [jj_rk]) ?_
    refine sp_X5_failed  ?_
    show jj_R _ _ kc ks (jj_S, 782, (jj_rs h [(13, (rX5_failed_13 (h 13) 1))]), g) 12 [(0, .ref 13)] [.int (vX5_failed (h 13) 1)] Q
    refine rr_pop rfl dX5_passEnd_12 ?_
    refine rr_aload_n 0 rfl rfl dX5_passEnd_13 ?_
    refine rr_getI dX5_passEnd_14 fX5_37 lo_13 sh_13 rfl ?_
    rw [show (jj_rs h [(13, (rX5_failed_13 (h 13) 1))]) 13 = (rX5_failed_13 (h 13) 1) from rfl]
    refine rr_if_ne dX5_passEnd_17 (fun c3 => ?_) (fun c3 => ?_)
    · skip
      refine rr_iconst 0 rfl dX5_passEnd_24 ?_
      refine rr_nreturn dX5_passEnd_25 rfl (by first | rfl | assumption) ?_
      first | simpa only [vX5_passEnd, rX5_passEnd_13, if_neg c1, if_neg c3] using kq | (exfalso; contradiction)
    · skip
      refine rr_iconst 1 rfl dX5_passEnd_20 ?_
      refine rr_goto dX5_passEnd_21 ?_
      refine rr_nreturn dX5_passEnd_25 rfl (by first | rfl | assumption) ?_
      first | simpa only [vX5_passEnd, rX5_passEnd_13, if_neg c1, if_pos c3] using kq | (exfalso; contradiction)
def rX5_open_13 (r13 : Nat → Int32) (r14 : Nat → Int32) (w : Int32) : Nat → Int32 := (if w < 0 then (rX5_advance_13 (upd (upd (upd (upd r13 (2) 0) (3) 0) (7) 0) (8) (-1)) r14) else (if 600 < w then (rX5_advance_13 (upd (upd (upd (upd r13 (2) 0) (3) 0) (7) 0) (8) (-1)) r14) else (rX5_advance_13 (upd (upd (upd (upd r13 (2) w) (3) 0) (7) 0) (8) (-1)) r14)))
set_option maxHeartbeats 1000000 in
theorem sp_X5_open {d kc ks : Nat} {h : Nat → Nat → Int32} {g : Nat → Nat → Int64} {Q : jj_Rs → jj_St → Prop} {w : Int32} (kq : Q (.inl none) (jj_S, 782, (jj_rs h [(13, (rX5_open_13 (h 13) (h 14) w))]), g)) : jj_R mX5_open (d + 1) kc ks (jj_S, 782, h, g) 0 [(0, .ref 13), (1, .int w)] [] Q := by
  refine rr_aload_n 0 rfl rfl dX5_open_0 ?_
  refine rr_iload_n 1 rfl rfl dX5_open_1 ?_
  refine rr_if_lt dX5_open_2 (fun c1 => ?_) (fun c1 => ?_)
  · skip
    refine rr_iconst 0 rfl dX5_open_18 ?_
    refine rr_putI dX5_open_19 fX5_22 ni5_2 lo_13 sh_13 rfl ?_
    rw [jj_rs_set0 (B := h) (o := 13) (r := (h 13)) rfl]
    refine rr_aload_n 0 rfl rfl dX5_open_22 ?_
    refine rr_iconst 0 rfl dX5_open_23 ?_
    refine rr_putI dX5_open_24 fX5_25 ni5_3 lo_13 sh_13 rfl ?_
    rw [jj_rs_set (B := h) (L := [(13, (upd (h 13) (2) 0))]) (L2 := [(13, (upd (upd (h 13) (2) 0) (3) 0))]) (r := (upd (h 13) (2) 0)) rfl rfl]
    refine rr_aload_n 0 rfl rfl dX5_open_27 ?_
    refine rr_iconst 0 rfl dX5_open_28 ?_
    refine rr_putI dX5_open_29 fX5_28 ni5_7 lo_13 sh_13 rfl ?_
    rw [jj_rs_set (B := h) (L := [(13, (upd (upd (h 13) (2) 0) (3) 0))]) (L2 := [(13, (upd (upd (upd (h 13) (2) 0) (3) 0) (7) 0))]) (r := (upd (upd (h 13) (2) 0) (3) 0)) rfl rfl]
    refine rr_aload_n 0 rfl rfl dX5_open_32 ?_
    refine rr_iconst (-1) rfl dX5_open_33 ?_
    refine rr_putI dX5_open_34 fX5_15 ni5_8 lo_13 sh_13 rfl ?_
    rw [jj_rs_set (B := h) (L := [(13, (upd (upd (upd (h 13) (2) 0) (3) 0) (7) 0))]) (L2 := [(13, (upd (upd (upd (upd (h 13) (2) 0) (3) 0) (7) 0) (8) (-1)))]) (r := (upd (upd (upd (h 13) (2) 0) (3) 0) (7) 0)) rfl rfl]
    refine rr_aload_n 0 rfl rfl dX5_open_37 ?_
    refine rr_callV (As := []) (rest := []) (kc2 := 0) (ks2 := 0) dX5_open_38 okX5_advance lX5_31 lo_13 sh_13 rfl rfl (Nat.le_of_ble_eq_true rfl) (Nat.le_of_ble_eq_true rfl) rfl (by omega) (by simp [jj_rk]) (by simp [jj_rk]) ?_
    refine sp_X5_advance (by repeat (first | assumption | refine rd_u rfl rfl ?_ | exact rd_open (by assumption) (by assumption) | exact rd_open0)) ?_
    show jj_R _ _ kc ks (jj_S, 782, (jj_rs (jj_rs h [(13, (upd (upd (upd (upd (h 13) (2) 0) (3) 0) (7) 0) (8) (-1)))]) [(13, (rX5_advance_13 (upd (upd (upd (upd (h 13) (2) 0) (3) 0) (7) 0) (8) (-1)) (h 14)))]), g) 41 [(0, .ref 13), (1, .int w)] [] Q
    rw [jj_rs_rs (B := h) (L := [(13, (upd (upd (upd (upd (h 13) (2) 0) (3) 0) (7) 0) (8) (-1)))]) (M := [(13, (rX5_advance_13 (upd (upd (upd (upd (h 13) (2) 0) (3) 0) (7) 0) (8) (-1)) (h 14)))]) (L2 := [(13, (rX5_advance_13 (upd (upd (upd (upd (h 13) (2) 0) (3) 0) (7) 0) (8) (-1)) (h 14)))]) rfl]
    refine rr_return dX5_open_41 rfl ?_
    first | simpa only [rX5_open_13, if_pos c1] using kq | (exfalso; contradiction)
  · skip
    refine rr_iload_n 1 rfl rfl dX5_open_5 ?_
    refine rr_aload_n 0 rfl rfl dX5_open_6 ?_
    refine rr_getR dX5_open_7 fX5_9 lo_13 sh_13 rfl ?_
    refine rr_alenI 600 dX5_open_10 lo_14 sh_14 (by decide) rfl ?_
    refine rr_icmp_gt dX5_open_11 (fun c2 => ?_) (fun c2 => ?_)
    · skip
      refine rr_iconst 0 rfl dX5_open_18 ?_
      refine rr_putI dX5_open_19 fX5_22 ni5_2 lo_13 sh_13 rfl ?_
      rw [jj_rs_set0 (B := h) (o := 13) (r := (h 13)) rfl]
      refine rr_aload_n 0 rfl rfl dX5_open_22 ?_
      refine rr_iconst 0 rfl dX5_open_23 ?_
      refine rr_putI dX5_open_24 fX5_25 ni5_3 lo_13 sh_13 rfl ?_
      rw [jj_rs_set (B := h) (L := [(13, (upd (h 13) (2) 0))]) (L2 := [(13, (upd (upd (h 13) (2) 0) (3) 0))]) (r := (upd (h 13) (2) 0)) rfl rfl]
      refine rr_aload_n 0 rfl rfl dX5_open_27 ?_
      refine rr_iconst 0 rfl dX5_open_28 ?_
      refine rr_putI dX5_open_29 fX5_28 ni5_7 lo_13 sh_13 rfl ?_
      rw [jj_rs_set (B := h) (L := [(13, (upd (upd (h 13) (2) 0) (3) 0))]) (L2 := [(13, (upd (upd (upd (h 13) (2) 0) (3) 0) (7) 0))]) (r := (upd (upd (h 13) (2) 0) (3) 0)) rfl rfl]
      refine rr_aload_n 0 rfl rfl dX5_open_32 ?_
      refine rr_iconst (-1) rfl dX5_open_33 ?_
      refine rr_putI dX5_open_34 fX5_15 ni5_8 lo_13 sh_13 rfl ?_
      rw [jj_rs_set (B := h) (L := [(13, (upd (upd (upd (h 13) (2) 0) (3) 0) (7) 0))]) (L2 := [(13, (upd (upd (upd (upd (h 13) (2) 0) (3) 0) (7) 0) (8) (-1)))]) (r := (upd (upd (upd (h 13) (2) 0) (3) 0) (7) 0)) rfl rfl]
      refine rr_aload_n 0 rfl rfl dX5_open_37 ?_
      refine rr_callV (As := []) (rest := []) (kc2 := 0) (ks2 := 0) dX5_open_38 okX5_advance lX5_31 lo_13 sh_13 rfl rfl (Nat.le_of_ble_eq_true rfl) (Nat.le_of_ble_eq_true rfl) rfl (by omega) (by simp [jj_rk]) (by simp [jj_rk]) ?_
      refine sp_X5_advance (by repeat (first | assumption | refine rd_u rfl rfl ?_ | exact rd_open (by assumption) (by assumption) | exact rd_open0)) ?_
      show jj_R _ _ kc ks (jj_S, 782, (jj_rs (jj_rs h [(13, (upd (upd (upd (upd (h 13) (2) 0) (3) 0) (7) 0) (8) (-1)))]) [(13, (rX5_advance_13 (upd (upd (upd (upd (h 13) (2) 0) (3) 0) (7) 0) (8) (-1)) (h 14)))]), g) 41 [(0, .ref 13), (1, .int w)] [] Q
      rw [jj_rs_rs (B := h) (L := [(13, (upd (upd (upd (upd (h 13) (2) 0) (3) 0) (7) 0) (8) (-1)))]) (M := [(13, (rX5_advance_13 (upd (upd (upd (upd (h 13) (2) 0) (3) 0) (7) 0) (8) (-1)) (h 14)))]) (L2 := [(13, (rX5_advance_13 (upd (upd (upd (upd (h 13) (2) 0) (3) 0) (7) 0) (8) (-1)) (h 14)))]) rfl]
      refine rr_return dX5_open_41 rfl ?_
      first | simpa only [rX5_open_13, if_neg c1, if_pos c2] using kq | (exfalso; contradiction)
    · skip
      refine rr_iload_n 1 rfl rfl dX5_open_14 ?_
      refine rr_goto dX5_open_15 ?_
      refine rr_putI dX5_open_19 fX5_22 ni5_2 lo_13 sh_13 rfl ?_
      rw [jj_rs_set0 (B := h) (o := 13) (r := (h 13)) rfl]
      refine rr_aload_n 0 rfl rfl dX5_open_22 ?_
      refine rr_iconst 0 rfl dX5_open_23 ?_
      refine rr_putI dX5_open_24 fX5_25 ni5_3 lo_13 sh_13 rfl ?_
      rw [jj_rs_set (B := h) (L := [(13, (upd (h 13) (2) w))]) (L2 := [(13, (upd (upd (h 13) (2) w) (3) 0))]) (r := (upd (h 13) (2) w)) rfl rfl]
      refine rr_aload_n 0 rfl rfl dX5_open_27 ?_
      refine rr_iconst 0 rfl dX5_open_28 ?_
      refine rr_putI dX5_open_29 fX5_28 ni5_7 lo_13 sh_13 rfl ?_
      rw [jj_rs_set (B := h) (L := [(13, (upd (upd (h 13) (2) w) (3) 0))]) (L2 := [(13, (upd (upd (upd (h 13) (2) w) (3) 0) (7) 0))]) (r := (upd (upd (h 13) (2) w) (3) 0)) rfl rfl]
      refine rr_aload_n 0 rfl rfl dX5_open_32 ?_
      refine rr_iconst (-1) rfl dX5_open_33 ?_
      refine rr_putI dX5_open_34 fX5_15 ni5_8 lo_13 sh_13 rfl ?_
      rw [jj_rs_set (B := h) (L := [(13, (upd (upd (upd (h 13) (2) w) (3) 0) (7) 0))]) (L2 := [(13, (upd (upd (upd (upd (h 13) (2) w) (3) 0) (7) 0) (8) (-1)))]) (r := (upd (upd (upd (h 13) (2) w) (3) 0) (7) 0)) rfl rfl]
      refine rr_aload_n 0 rfl rfl dX5_open_37 ?_
      refine rr_callV (As := []) (rest := []) (kc2 := 0) (ks2 := 0) dX5_open_38 okX5_advance lX5_31 lo_13 sh_13 rfl rfl (Nat.le_of_ble_eq_true rfl) (Nat.le_of_ble_eq_true rfl) rfl (by omega) (by simp [jj_rk]) (by simp [jj_rk]) ?_
      refine sp_X5_advance (by repeat (first | assumption | refine rd_u rfl rfl ?_ | exact rd_open (by assumption) (by assumption) | exact rd_open0)) ?_
      show jj_R _ _ kc ks (jj_S, 782, (jj_rs (jj_rs h [(13, (upd (upd (upd (upd (h 13) (2) w) (3) 0) (7) 0) (8) (-1)))]) [(13, (rX5_advance_13 (upd (upd (upd (upd (h 13) (2) w) (3) 0) (7) 0) (8) (-1)) (h 14)))]), g) 41 [(0, .ref 13), (1, .int w)] [] Q
      rw [jj_rs_rs (B := h) (L := [(13, (upd (upd (upd (upd (h 13) (2) w) (3) 0) (7) 0) (8) (-1)))]) (M := [(13, (rX5_advance_13 (upd (upd (upd (upd (h 13) (2) w) (3) 0) (7) 0) (8) (-1)) (h 14)))]) (L2 := [(13, (rX5_advance_13 (upd (upd (upd (upd (h 13) (2) w) (3) 0) (7) 0) (8) (-1)) (h 14)))]) rfl]
      refine rr_return dX5_open_41 rfl ?_
      first | simpa only [rX5_open_13, if_neg c1, if_neg c2] using kq | (exfalso; contradiction)
def rX5_add_13 (r13 : Nat → Int32) (r14 : Nat → Int32) (ln : Nat) (w : Int32) : Nat → Int32 := (if 600 ≤ (nI ln) then r13 else (if 600 ≤ (nI (ln + 1)) then (upd r13 (1) (nI (ln + 1))) else (if 600 ≤ (nI ((ln + 1) + 1)) then (upd (upd r13 (1) (nI (ln + 1))) (1) (nI ((ln + 1) + 1))) else (if 600 ≤ (nI (((ln + 1) + 1) + 1)) then (upd (upd (upd r13 (1) (nI (ln + 1))) (1) (nI ((ln + 1) + 1))) (1) (nI (((ln + 1) + 1) + 1))) else (upd (upd (upd (upd r13 (1) (nI (ln + 1))) (1) (nI ((ln + 1) + 1))) (1) (nI (((ln + 1) + 1) + 1))) (1) (nI ((((ln + 1) + 1) + 1) + 1)))))))
def rX5_add_14 (r13 : Nat → Int32) (r14 : Nat → Int32) (ln : Nat) (w : Int32) : Nat → Int32 := (if 600 ≤ (nI ln) then r14 else (if 600 ≤ (nI (ln + 1)) then (upd r14 (((nI ln) : Int32).toNatClampNeg) (vp_nar .byte ((w >>> (24 &&& 31)) : Int32).toInt8.toInt32)) else (if 600 ≤ (nI ((ln + 1) + 1)) then (upd (upd r14 (((nI ln) : Int32).toNatClampNeg) (vp_nar .byte ((w >>> (24 &&& 31)) : Int32).toInt8.toInt32)) (((nI (ln + 1)) : Int32).toNatClampNeg) (vp_nar .byte ((w >>> (16 &&& 31)) : Int32).toInt8.toInt32)) else (if 600 ≤ (nI (((ln + 1) + 1) + 1)) then (upd (upd (upd r14 (((nI ln) : Int32).toNatClampNeg) (vp_nar .byte ((w >>> (24 &&& 31)) : Int32).toInt8.toInt32)) (((nI (ln + 1)) : Int32).toNatClampNeg) (vp_nar .byte ((w >>> (16 &&& 31)) : Int32).toInt8.toInt32)) (((nI ((ln + 1) + 1)) : Int32).toNatClampNeg) (vp_nar .byte ((w >>> (8 &&& 31)) : Int32).toInt8.toInt32)) else (upd (upd (upd (upd r14 (((nI ln) : Int32).toNatClampNeg) (vp_nar .byte ((w >>> (24 &&& 31)) : Int32).toInt8.toInt32)) (((nI (ln + 1)) : Int32).toNatClampNeg) (vp_nar .byte ((w >>> (16 &&& 31)) : Int32).toInt8.toInt32)) (((nI ((ln + 1) + 1)) : Int32).toNatClampNeg) (vp_nar .byte ((w >>> (8 &&& 31)) : Int32).toInt8.toInt32)) (((nI (((ln + 1) + 1) + 1)) : Int32).toNatClampNeg) (vp_nar .byte ((w >>> (0 &&& 31)) : Int32).toInt8.toInt32))))))
set_option maxHeartbeats 1000000 in
theorem sp_X5_add {d kc ks : Nat} {h : Nat → Nat → Int32} {g : Nat → Nat → Int64} {Q : jj_Rs → jj_St → Prop} {ln : Nat} {w : Int32} (hl : h 13 1 = nI ln) (hl2 : ln ≤ 600) (kq : Q (.inl none) (jj_S, 782, (jj_rs h [(13, (rX5_add_13 (h 13) (h 14) ln w)), (14, (rX5_add_14 (h 13) (h 14) ln w))]), g)) : jj_R mX5_add (d + 0) kc ks (jj_S, 782, h, g) 0 [(0, .ref 13), (1, .int w)] [] Q := by
  refine rr_bipush 24 rfl dX5_add_0 ?_
  refine rr_istore_n [(0, .ref 13), (1, .int w), (2, .int 24)] dX5_add_2 rfl (by decide) rfl ?_
  refine rr_iload_n 2 rfl rfl dX5_add_3 ?_
  refine rr_if_lt dX5_add_4 (fun c => absurd c (by decide)) (fun _ => ?_)
  refine rr_aload_n 0 rfl rfl dX5_add_7 ?_
  refine rr_getI dX5_add_8 fX5_19 lo_13 sh_13 rfl ?_
  rw [hl]
  refine rr_aload_n 0 rfl rfl dX5_add_11 ?_
  refine rr_getR dX5_add_12 fX5_9 lo_13 sh_13 rfl ?_
  refine rr_alenI 600 dX5_add_15 lo_14 sh_14 (by decide) rfl ?_
  refine rr_icmp_ge dX5_add_16 (fun c1 => ?_) (fun c1 => ?_)
  · skip
    refine rr_return dX5_add_48 rfl ?_
    refine jj_Qh (jj_addr (B := h) (o := 13) (r := (h 13)) rfl) ?_
    refine jj_Qh (jj_rs_add (B := h) (L := [(13, (h 13))]) (L2 := [(13, (h 13)), (14, (h 14))]) (o := 14) (r := (h 14)) rfl rfl) ?_
    first | simpa only [rX5_add_13, rX5_add_14, if_pos c1] using kq | (exfalso; contradiction)
  · skip
    refine rr_aload_n 0 rfl rfl dX5_add_19 ?_
    refine rr_getR dX5_add_20 fX5_9 lo_13 sh_13 rfl ?_
    refine rr_aload_n 0 rfl rfl dX5_add_23 ?_
    refine rr_getI dX5_add_24 fX5_19 lo_13 sh_13 rfl ?_
    rw [hl]
    refine rr_iload_n 1 rfl rfl dX5_add_27 ?_
    refine rr_iload_n 2 rfl rfl dX5_add_28 ?_
    refine rr_ishr dX5_add_29 ?_
    refine rr_i2b dX5_add_30 ?_
    refine rr_bastore dX5_add_31 lo_14 sh_14 (by first | assumption | exact vp_in_nI (jj_nl (by omega) (by decide) (by assumption)) (by decide) | decide | omega) ?_
    rw [jj_rs_set0 (B := h) (o := 14) (r := (h 14)) rfl]
    refine rr_aload_n 0 rfl rfl dX5_add_32 ?_
    refine rr_dup rfl dX5_add_33 ?_
    refine rr_getI dX5_add_34 fX5_19 lo_13 sh_13 rfl ?_
    rw [show (jj_rs h [(14, (upd (h 14) (((nI ln) : Int32).toNatClampNeg) (vp_nar .byte ((w >>> (24 &&& 31)) : Int32).toInt8.toInt32)))]) 13 = h 13 from rfl]
    rw [hl]
    refine rr_iconst 1 rfl dX5_add_37 ?_
    refine rr_iadd dX5_add_38 ?_
    rw [show ((nI ln) + 1 : Int32) = (nI (ln + 1)) from nI_add (ln) (1)]
    refine rr_putI dX5_add_39 fX5_19 ni5_1 lo_13 sh_13 rfl ?_
    rw [jj_rs_set (B := h) (L := [(14, (upd (h 14) (((nI ln) : Int32).toNatClampNeg) (vp_nar .byte ((w >>> (24 &&& 31)) : Int32).toInt8.toInt32)))]) (L2 := [(13, (upd (h 13) (1) (nI (ln + 1)))), (14, (upd (h 14) (((nI ln) : Int32).toNatClampNeg) (vp_nar .byte ((w >>> (24 &&& 31)) : Int32).toInt8.toInt32)))]) (r := (h 13)) rfl rfl]
    refine rr_iinc 2 (-8) [(0, .ref 13), (1, .int w), (2, .int 16)] dX5_add_42 rfl rfl (by decide) rfl ?_
    refine rr_goto dX5_add_45 ?_
    refine rr_iload_n 2 rfl rfl dX5_add_3 ?_
    refine rr_if_lt dX5_add_4 (fun c => absurd c (by decide)) (fun _ => ?_)
    refine rr_aload_n 0 rfl rfl dX5_add_7 ?_
    refine rr_getI dX5_add_8 fX5_19 lo_13 sh_13 rfl ?_
    rw [show (jj_rs h [(13, (upd (h 13) (1) (nI (ln + 1)))), (14, (upd (h 14) (((nI ln) : Int32).toNatClampNeg) (vp_nar .byte ((w >>> (24 &&& 31)) : Int32).toInt8.toInt32)))]) 13 = (upd (h 13) (1) (nI (ln + 1))) from rfl]
    rw [show (upd (h 13) (1) (nI (ln + 1))) 1 = (nI (ln + 1)) from rfl]
    refine rr_aload_n 0 rfl rfl dX5_add_11 ?_
    refine rr_getR dX5_add_12 fX5_9 lo_13 sh_13 rfl ?_
    refine rr_alenI 600 dX5_add_15 lo_14 sh_14 (by decide) rfl ?_
    refine rr_icmp_ge dX5_add_16 (fun c2 => ?_) (fun c2 => ?_)
    · skip
      refine rr_return dX5_add_48 rfl ?_
      first | simpa only [rX5_add_13, rX5_add_14, if_neg c1, if_pos c2] using kq | (exfalso; contradiction)
    · skip
      refine rr_aload_n 0 rfl rfl dX5_add_19 ?_
      refine rr_getR dX5_add_20 fX5_9 lo_13 sh_13 rfl ?_
      refine rr_aload_n 0 rfl rfl dX5_add_23 ?_
      refine rr_getI dX5_add_24 fX5_19 lo_13 sh_13 rfl ?_
      rw [show (jj_rs h [(13, (upd (h 13) (1) (nI (ln + 1)))), (14, (upd (h 14) (((nI ln) : Int32).toNatClampNeg) (vp_nar .byte ((w >>> (24 &&& 31)) : Int32).toInt8.toInt32)))]) 13 = (upd (h 13) (1) (nI (ln + 1))) from rfl]
      rw [show (upd (h 13) (1) (nI (ln + 1))) 1 = (nI (ln + 1)) from rfl]
      refine rr_iload_n 1 rfl rfl dX5_add_27 ?_
      refine rr_iload_n 2 rfl rfl dX5_add_28 ?_
      refine rr_ishr dX5_add_29 ?_
      refine rr_i2b dX5_add_30 ?_
      refine rr_bastore dX5_add_31 lo_14 sh_14 (by first | assumption | exact vp_in_nI (jj_nl (by omega) (by decide) (by assumption)) (by decide) | decide | omega) ?_
      rw [jj_rs_set (B := h) (L := [(13, (upd (h 13) (1) (nI (ln + 1)))), (14, (upd (h 14) (((nI ln) : Int32).toNatClampNeg) (vp_nar .byte ((w >>> (24 &&& 31)) : Int32).toInt8.toInt32)))]) (L2 := [(13, (upd (h 13) (1) (nI (ln + 1)))), (14, (upd (upd (h 14) (((nI ln) : Int32).toNatClampNeg) (vp_nar .byte ((w >>> (24 &&& 31)) : Int32).toInt8.toInt32)) (((nI (ln + 1)) : Int32).toNatClampNeg) (vp_nar .byte ((w >>> (16 &&& 31)) : Int32).toInt8.toInt32)))]) (r := (upd (h 14) (((nI ln) : Int32).toNatClampNeg) (vp_nar .byte ((w >>> (24 &&& 31)) : Int32).toInt8.toInt32))) rfl rfl]
      refine rr_aload_n 0 rfl rfl dX5_add_32 ?_
      refine rr_dup rfl dX5_add_33 ?_
      refine rr_getI dX5_add_34 fX5_19 lo_13 sh_13 rfl ?_
      rw [show (jj_rs h [(13, (upd (h 13) (1) (nI (ln + 1)))), (14, (upd (upd (h 14) (((nI ln) : Int32).toNatClampNeg) (vp_nar .byte ((w >>> (24 &&& 31)) : Int32).toInt8.toInt32)) (((nI (ln + 1)) : Int32).toNatClampNeg) (vp_nar .byte ((w >>> (16 &&& 31)) : Int32).toInt8.toInt32)))]) 13 = (upd (h 13) (1) (nI (ln + 1))) from rfl]
      rw [show (upd (h 13) (1) (nI (ln + 1))) 1 = (nI (ln + 1)) from rfl]
      refine rr_iconst 1 rfl dX5_add_37 ?_
      refine rr_iadd dX5_add_38 ?_
      rw [show ((nI (ln + 1)) + 1 : Int32) = (nI ((ln + 1) + 1)) from nI_add ((ln + 1)) (1)]
      refine rr_putI dX5_add_39 fX5_19 ni5_1 lo_13 sh_13 rfl ?_
      rw [jj_rs_set (B := h) (L := [(13, (upd (h 13) (1) (nI (ln + 1)))), (14, (upd (upd (h 14) (((nI ln) : Int32).toNatClampNeg) (vp_nar .byte ((w >>> (24 &&& 31)) : Int32).toInt8.toInt32)) (((nI (ln + 1)) : Int32).toNatClampNeg) (vp_nar .byte ((w >>> (16 &&& 31)) : Int32).toInt8.toInt32)))]) (L2 := [(13, (upd (upd (h 13) (1) (nI (ln + 1))) (1) (nI ((ln + 1) + 1)))), (14, (upd (upd (h 14) (((nI ln) : Int32).toNatClampNeg) (vp_nar .byte ((w >>> (24 &&& 31)) : Int32).toInt8.toInt32)) (((nI (ln + 1)) : Int32).toNatClampNeg) (vp_nar .byte ((w >>> (16 &&& 31)) : Int32).toInt8.toInt32)))]) (r := (upd (h 13) (1) (nI (ln + 1)))) rfl rfl]
      refine rr_iinc 2 (-8) [(0, .ref 13), (1, .int w), (2, .int 8)] dX5_add_42 rfl rfl (by decide) rfl ?_
      refine rr_goto dX5_add_45 ?_
      refine rr_iload_n 2 rfl rfl dX5_add_3 ?_
      refine rr_if_lt dX5_add_4 (fun c => absurd c (by decide)) (fun _ => ?_)
      refine rr_aload_n 0 rfl rfl dX5_add_7 ?_
      refine rr_getI dX5_add_8 fX5_19 lo_13 sh_13 rfl ?_
      rw [show (jj_rs h [(13, (upd (upd (h 13) (1) (nI (ln + 1))) (1) (nI ((ln + 1) + 1)))), (14, (upd (upd (h 14) (((nI ln) : Int32).toNatClampNeg) (vp_nar .byte ((w >>> (24 &&& 31)) : Int32).toInt8.toInt32)) (((nI (ln + 1)) : Int32).toNatClampNeg) (vp_nar .byte ((w >>> (16 &&& 31)) : Int32).toInt8.toInt32)))]) 13 = (upd (upd (h 13) (1) (nI (ln + 1))) (1) (nI ((ln + 1) + 1))) from rfl]
      rw [show (upd (upd (h 13) (1) (nI (ln + 1))) (1) (nI ((ln + 1) + 1))) 1 = (nI ((ln + 1) + 1)) from rfl]
      refine rr_aload_n 0 rfl rfl dX5_add_11 ?_
      refine rr_getR dX5_add_12 fX5_9 lo_13 sh_13 rfl ?_
      refine rr_alenI 600 dX5_add_15 lo_14 sh_14 (by decide) rfl ?_
      refine rr_icmp_ge dX5_add_16 (fun c3 => ?_) (fun c3 => ?_)
      · skip
        refine rr_return dX5_add_48 rfl ?_
        first | simpa only [rX5_add_13, rX5_add_14, if_neg c1, if_neg c2, if_pos c3] using kq | (exfalso; contradiction)
      · skip
        refine rr_aload_n 0 rfl rfl dX5_add_19 ?_
        refine rr_getR dX5_add_20 fX5_9 lo_13 sh_13 rfl ?_
        refine rr_aload_n 0 rfl rfl dX5_add_23 ?_
        refine rr_getI dX5_add_24 fX5_19 lo_13 sh_13 rfl ?_
        rw [show (jj_rs h [(13, (upd (upd (h 13) (1) (nI (ln + 1))) (1) (nI ((ln + 1) + 1)))), (14, (upd (upd (h 14) (((nI ln) : Int32).toNatClampNeg) (vp_nar .byte ((w >>> (24 &&& 31)) : Int32).toInt8.toInt32)) (((nI (ln + 1)) : Int32).toNatClampNeg) (vp_nar .byte ((w >>> (16 &&& 31)) : Int32).toInt8.toInt32)))]) 13 = (upd (upd (h 13) (1) (nI (ln + 1))) (1) (nI ((ln + 1) + 1))) from rfl]
        rw [show (upd (upd (h 13) (1) (nI (ln + 1))) (1) (nI ((ln + 1) + 1))) 1 = (nI ((ln + 1) + 1)) from rfl]
        refine rr_iload_n 1 rfl rfl dX5_add_27 ?_
        refine rr_iload_n 2 rfl rfl dX5_add_28 ?_
        refine rr_ishr dX5_add_29 ?_
        refine rr_i2b dX5_add_30 ?_
        refine rr_bastore dX5_add_31 lo_14 sh_14 (by first | assumption | exact vp_in_nI (jj_nl (by omega) (by decide) (by assumption)) (by decide) | decide | omega) ?_
        rw [jj_rs_set (B := h) (L := [(13, (upd (upd (h 13) (1) (nI (ln + 1))) (1) (nI ((ln + 1) + 1)))), (14, (upd (upd (h 14) (((nI ln) : Int32).toNatClampNeg) (vp_nar .byte ((w >>> (24 &&& 31)) : Int32).toInt8.toInt32)) (((nI (ln + 1)) : Int32).toNatClampNeg) (vp_nar .byte ((w >>> (16 &&& 31)) : Int32).toInt8.toInt32)))]) (L2 := [(13, (upd (upd (h 13) (1) (nI (ln + 1))) (1) (nI ((ln + 1) + 1)))), (14, (upd (upd (upd (h 14) (((nI ln) : Int32).toNatClampNeg) (vp_nar .byte ((w >>> (24 &&& 31)) : Int32).toInt8.toInt32)) (((nI (ln + 1)) : Int32).toNatClampNeg) (vp_nar .byte ((w >>> (16 &&& 31)) : Int32).toInt8.toInt32)) (((nI ((ln + 1) + 1)) : Int32).toNatClampNeg) (vp_nar .byte ((w >>> (8 &&& 31)) : Int32).toInt8.toInt32)))]) (r := (upd (upd (h 14) (((nI ln) : Int32).toNatClampNeg) (vp_nar .byte ((w >>> (24 &&& 31)) : Int32).toInt8.toInt32)) (((nI (ln + 1)) : Int32).toNatClampNeg) (vp_nar .byte ((w >>> (16 &&& 31)) : Int32).toInt8.toInt32))) rfl rfl]
        refine rr_aload_n 0 rfl rfl dX5_add_32 ?_
        refine rr_dup rfl dX5_add_33 ?_
        refine rr_getI dX5_add_34 fX5_19 lo_13 sh_13 rfl ?_
        rw [show (jj_rs h [(13, (upd (upd (h 13) (1) (nI (ln + 1))) (1) (nI ((ln + 1) + 1)))), (14, (upd (upd (upd (h 14) (((nI ln) : Int32).toNatClampNeg) (vp_nar .byte ((w >>> (24 &&& 31)) : Int32).toInt8.toInt32)) (((nI (ln + 1)) : Int32).toNatClampNeg) (vp_nar .byte ((w >>> (16 &&& 31)) : Int32).toInt8.toInt32)) (((nI ((ln + 1) + 1)) : Int32).toNatClampNeg) (vp_nar .byte ((w >>> (8 &&& 31)) : Int32).toInt8.toInt32)))]) 13 = (upd (upd (h 13) (1) (nI (ln + 1))) (1) (nI ((ln + 1) + 1))) from rfl]
        rw [show (upd (upd (h 13) (1) (nI (ln + 1))) (1) (nI ((ln + 1) + 1))) 1 = (nI ((ln + 1) + 1)) from rfl]
        refine rr_iconst 1 rfl dX5_add_37 ?_
        refine rr_iadd dX5_add_38 ?_
        rw [show ((nI ((ln + 1) + 1)) + 1 : Int32) = (nI (((ln + 1) + 1) + 1)) from nI_add (((ln + 1) + 1)) (1)]
        refine rr_putI dX5_add_39 fX5_19 ni5_1 lo_13 sh_13 rfl ?_
        rw [jj_rs_set (B := h) (L := [(13, (upd (upd (h 13) (1) (nI (ln + 1))) (1) (nI ((ln + 1) + 1)))), (14, (upd (upd (upd (h 14) (((nI ln) : Int32).toNatClampNeg) (vp_nar .byte ((w >>> (24 &&& 31)) : Int32).toInt8.toInt32)) (((nI (ln + 1)) : Int32).toNatClampNeg) (vp_nar .byte ((w >>> (16 &&& 31)) : Int32).toInt8.toInt32)) (((nI ((ln + 1) + 1)) : Int32).toNatClampNeg) (vp_nar .byte ((w >>> (8 &&& 31)) : Int32).toInt8.toInt32)))]) (L2 := [(13, (upd (upd (upd (h 13) (1) (nI (ln + 1))) (1) (nI ((ln + 1) + 1))) (1) (nI (((ln + 1) + 1) + 1)))), (14, (upd (upd (upd (h 14) (((nI ln) : Int32).toNatClampNeg) (vp_nar .byte ((w >>> (24 &&& 31)) : Int32).toInt8.toInt32)) (((nI (ln + 1)) : Int32).toNatClampNeg) (vp_nar .byte ((w >>> (16 &&& 31)) : Int32).toInt8.toInt32)) (((nI ((ln + 1) + 1)) : Int32).toNatClampNeg) (vp_nar .byte ((w >>> (8 &&& 31)) : Int32).toInt8.toInt32)))]) (r := (upd (upd (h 13) (1) (nI (ln + 1))) (1) (nI ((ln + 1) + 1)))) rfl rfl]
        refine rr_iinc 2 (-8) [(0, .ref 13), (1, .int w), (2, .int 0)] dX5_add_42 rfl rfl (by decide) rfl ?_
        refine rr_goto dX5_add_45 ?_
        refine rr_iload_n 2 rfl rfl dX5_add_3 ?_
        refine rr_if_lt dX5_add_4 (fun c => absurd c (by decide)) (fun _ => ?_)
        refine rr_aload_n 0 rfl rfl dX5_add_7 ?_
        refine rr_getI dX5_add_8 fX5_19 lo_13 sh_13 rfl ?_
        rw [show (jj_rs h [(13, (upd (upd (upd (h 13) (1) (nI (ln + 1))) (1) (nI ((ln + 1) + 1))) (1) (nI (((ln + 1) + 1) + 1)))), (14, (upd (upd (upd (h 14) (((nI ln) : Int32).toNatClampNeg) (vp_nar .byte ((w >>> (24 &&& 31)) : Int32).toInt8.toInt32)) (((nI (ln + 1)) : Int32).toNatClampNeg) (vp_nar .byte ((w >>> (16 &&& 31)) : Int32).toInt8.toInt32)) (((nI ((ln + 1) + 1)) : Int32).toNatClampNeg) (vp_nar .byte ((w >>> (8 &&& 31)) : Int32).toInt8.toInt32)))]) 13 = (upd (upd (upd (h 13) (1) (nI (ln + 1))) (1) (nI ((ln + 1) + 1))) (1) (nI (((ln + 1) + 1) + 1))) from rfl]
        rw [show (upd (upd (upd (h 13) (1) (nI (ln + 1))) (1) (nI ((ln + 1) + 1))) (1) (nI (((ln + 1) + 1) + 1))) 1 = (nI (((ln + 1) + 1) + 1)) from rfl]
        refine rr_aload_n 0 rfl rfl dX5_add_11 ?_
        refine rr_getR dX5_add_12 fX5_9 lo_13 sh_13 rfl ?_
        refine rr_alenI 600 dX5_add_15 lo_14 sh_14 (by decide) rfl ?_
        refine rr_icmp_ge dX5_add_16 (fun c4 => ?_) (fun c4 => ?_)
        · skip
          refine rr_return dX5_add_48 rfl ?_
          first | simpa only [rX5_add_13, rX5_add_14, if_neg c1, if_neg c2, if_neg c3, if_pos c4] using kq | (exfalso; contradiction)
        · skip
          refine rr_aload_n 0 rfl rfl dX5_add_19 ?_
          refine rr_getR dX5_add_20 fX5_9 lo_13 sh_13 rfl ?_
          refine rr_aload_n 0 rfl rfl dX5_add_23 ?_
          refine rr_getI dX5_add_24 fX5_19 lo_13 sh_13 rfl ?_
          rw [show (jj_rs h [(13, (upd (upd (upd (h 13) (1) (nI (ln + 1))) (1) (nI ((ln + 1) + 1))) (1) (nI (((ln + 1) + 1) + 1)))), (14, (upd (upd (upd (h 14) (((nI ln) : Int32).toNatClampNeg) (vp_nar .byte ((w >>> (24 &&& 31)) : Int32).toInt8.toInt32)) (((nI (ln + 1)) : Int32).toNatClampNeg) (vp_nar .byte ((w >>> (16 &&& 31)) : Int32).toInt8.toInt32)) (((nI ((ln + 1) + 1)) : Int32).toNatClampNeg) (vp_nar .byte ((w >>> (8 &&& 31)) : Int32).toInt8.toInt32)))]) 13 = (upd (upd (upd (h 13) (1) (nI (ln + 1))) (1) (nI ((ln + 1) + 1))) (1) (nI (((ln + 1) + 1) + 1))) from rfl]
          rw [show (upd (upd (upd (h 13) (1) (nI (ln + 1))) (1) (nI ((ln + 1) + 1))) (1) (nI (((ln + 1) + 1) + 1))) 1 = (nI (((ln + 1) + 1) + 1)) from rfl]
          refine rr_iload_n 1 rfl rfl dX5_add_27 ?_
          refine rr_iload_n 2 rfl rfl dX5_add_28 ?_
          refine rr_ishr dX5_add_29 ?_
          refine rr_i2b dX5_add_30 ?_
          refine rr_bastore dX5_add_31 lo_14 sh_14 (by first | assumption | exact vp_in_nI (jj_nl (by omega) (by decide) (by assumption)) (by decide) | decide | omega) ?_
          rw [jj_rs_set (B := h) (L := [(13, (upd (upd (upd (h 13) (1) (nI (ln + 1))) (1) (nI ((ln + 1) + 1))) (1) (nI (((ln + 1) + 1) + 1)))), (14, (upd (upd (upd (h 14) (((nI ln) : Int32).toNatClampNeg) (vp_nar .byte ((w >>> (24 &&& 31)) : Int32).toInt8.toInt32)) (((nI (ln + 1)) : Int32).toNatClampNeg) (vp_nar .byte ((w >>> (16 &&& 31)) : Int32).toInt8.toInt32)) (((nI ((ln + 1) + 1)) : Int32).toNatClampNeg) (vp_nar .byte ((w >>> (8 &&& 31)) : Int32).toInt8.toInt32)))]) (L2 := [(13, (upd (upd (upd (h 13) (1) (nI (ln + 1))) (1) (nI ((ln + 1) + 1))) (1) (nI (((ln + 1) + 1) + 1)))), (14, (upd (upd (upd (upd (h 14) (((nI ln) : Int32).toNatClampNeg) (vp_nar .byte ((w >>> (24 &&& 31)) : Int32).toInt8.toInt32)) (((nI (ln + 1)) : Int32).toNatClampNeg) (vp_nar .byte ((w >>> (16 &&& 31)) : Int32).toInt8.toInt32)) (((nI ((ln + 1) + 1)) : Int32).toNatClampNeg) (vp_nar .byte ((w >>> (8 &&& 31)) : Int32).toInt8.toInt32)) (((nI (((ln + 1) + 1) + 1)) : Int32).toNatClampNeg) (vp_nar .byte ((w >>> (0 &&& 31)) : Int32).toInt8.toInt32)))]) (r := (upd (upd (upd (h 14) (((nI ln) : Int32).toNatClampNeg) (vp_nar .byte ((w >>> (24 &&& 31)) : Int32).toInt8.toInt32)) (((nI (ln + 1)) : Int32).toNatClampNeg) (vp_nar .byte ((w >>> (16 &&& 31)) : Int32).toInt8.toInt32)) (((nI ((ln + 1) + 1)) : Int32).toNatClampNeg) (vp_nar .byte ((w >>> (8 &&& 31)) : Int32).toInt8.toInt32))) rfl rfl]
          refine rr_aload_n 0 rfl rfl dX5_add_32 ?_
          refine rr_dup rfl dX5_add_33 ?_
          refine rr_getI dX5_add_34 fX5_19 lo_13 sh_13 rfl ?_
          rw [show (jj_rs h [(13, (upd (upd (upd (h 13) (1) (nI (ln + 1))) (1) (nI ((ln + 1) + 1))) (1) (nI (((ln + 1) + 1) + 1)))), (14, (upd (upd (upd (upd (h 14) (((nI ln) : Int32).toNatClampNeg) (vp_nar .byte ((w >>> (24 &&& 31)) : Int32).toInt8.toInt32)) (((nI (ln + 1)) : Int32).toNatClampNeg) (vp_nar .byte ((w >>> (16 &&& 31)) : Int32).toInt8.toInt32)) (((nI ((ln + 1) + 1)) : Int32).toNatClampNeg) (vp_nar .byte ((w >>> (8 &&& 31)) : Int32).toInt8.toInt32)) (((nI (((ln + 1) + 1) + 1)) : Int32).toNatClampNeg) (vp_nar .byte ((w >>> (0 &&& 31)) : Int32).toInt8.toInt32)))]) 13 = (upd (upd (upd (h 13) (1) (nI (ln + 1))) (1) (nI ((ln + 1) + 1))) (1) (nI (((ln + 1) + 1) + 1))) from rfl]
          rw [show (upd (upd (upd (h 13) (1) (nI (ln + 1))) (1) (nI ((ln + 1) + 1))) (1) (nI (((ln + 1) + 1) + 1))) 1 = (nI (((ln + 1) + 1) + 1)) from rfl]
          refine rr_iconst 1 rfl dX5_add_37 ?_
          refine rr_iadd dX5_add_38 ?_
          rw [show ((nI (((ln + 1) + 1) + 1)) + 1 : Int32) = (nI ((((ln + 1) + 1) + 1) + 1)) from nI_add ((((ln + 1) + 1) + 1)) (1)]
          refine rr_putI dX5_add_39 fX5_19 ni5_1 lo_13 sh_13 rfl ?_
          rw [jj_rs_set (B := h) (L := [(13, (upd (upd (upd (h 13) (1) (nI (ln + 1))) (1) (nI ((ln + 1) + 1))) (1) (nI (((ln + 1) + 1) + 1)))), (14, (upd (upd (upd (upd (h 14) (((nI ln) : Int32).toNatClampNeg) (vp_nar .byte ((w >>> (24 &&& 31)) : Int32).toInt8.toInt32)) (((nI (ln + 1)) : Int32).toNatClampNeg) (vp_nar .byte ((w >>> (16 &&& 31)) : Int32).toInt8.toInt32)) (((nI ((ln + 1) + 1)) : Int32).toNatClampNeg) (vp_nar .byte ((w >>> (8 &&& 31)) : Int32).toInt8.toInt32)) (((nI (((ln + 1) + 1) + 1)) : Int32).toNatClampNeg) (vp_nar .byte ((w >>> (0 &&& 31)) : Int32).toInt8.toInt32)))]) (L2 := [(13, (upd (upd (upd (upd (h 13) (1) (nI (ln + 1))) (1) (nI ((ln + 1) + 1))) (1) (nI (((ln + 1) + 1) + 1))) (1) (nI ((((ln + 1) + 1) + 1) + 1)))), (14, (upd (upd (upd (upd (h 14) (((nI ln) : Int32).toNatClampNeg) (vp_nar .byte ((w >>> (24 &&& 31)) : Int32).toInt8.toInt32)) (((nI (ln + 1)) : Int32).toNatClampNeg) (vp_nar .byte ((w >>> (16 &&& 31)) : Int32).toInt8.toInt32)) (((nI ((ln + 1) + 1)) : Int32).toNatClampNeg) (vp_nar .byte ((w >>> (8 &&& 31)) : Int32).toInt8.toInt32)) (((nI (((ln + 1) + 1) + 1)) : Int32).toNatClampNeg) (vp_nar .byte ((w >>> (0 &&& 31)) : Int32).toInt8.toInt32)))]) (r := (upd (upd (upd (h 13) (1) (nI (ln + 1))) (1) (nI ((ln + 1) + 1))) (1) (nI (((ln + 1) + 1) + 1)))) rfl rfl]
          refine rr_iinc 2 (-8) [(0, .ref 13), (1, .int w), (2, .int (-8))] dX5_add_42 rfl rfl (by decide) rfl ?_
          refine rr_goto dX5_add_45 ?_
          refine rr_iload_n 2 rfl rfl dX5_add_3 ?_
          refine rr_if_lt dX5_add_4 (fun _ => ?_) (fun c => absurd (by decide) c)
          refine rr_return dX5_add_48 rfl ?_
          first | simpa only [rX5_add_13, rX5_add_14, if_neg c1, if_neg c2, if_neg c3, if_neg c4] using kq | (exfalso; contradiction)
