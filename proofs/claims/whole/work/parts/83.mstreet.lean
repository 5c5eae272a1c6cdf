/-! ===== the reference's street ===== -/
def pY (x : Nat) : Bool := pT x || (x == 53 || (x == 73 || (x == 497 || (decide (64 ≤ x) && decide (x < 72)))))
def strTm (h0 h9 : hp_) (S : sT_) : Prop := (h9 49 0 = 0 ∧ h9 49 1 = 0 ∧ h9 49 3 = -1) ∧ h9 53 0 = nI S.1.length ∧ h9 53 1 = nI S.2.1 ∧ (∀ i, i < 8 → h9 73 i = S.2.2 i) ∧ (∀ i z, S.1[i]? = some z → h9 (64 + i) 0 = nI z.1 ∧ h9 (64 + i) 1 = nI z.2.1 ∧ h9 (64 + i) 2 = nI z.2.2.1 ∧ h9 (64 + i) 3 = nI z.2.2.2) ∧ (h9 49 17 = 0 ∧ h9 49 31 = 0 ∧ h9 49 32 = 0 ∧ h9 49 33 = 0 ∧ h9 49 34 = 0) ∧ (∀ p, p < 8 → h9 497 p = 0 ∧ h9 497 (8 + p) = 0 ∧ h9 497 (16 + p) = 0 ∧ h9 497 (24 + p) = -1) ∧ (h9 497 32 = 0 ∧ h9 497 33 = 0 ∧ h9 497 34 = 0) ∧ (∀ x, pY x = false → ¬ x = 49 → h9 x = h0 x) ∧ ∀ i, fN i = false → ¬ i = 17 → ¬ (31 ≤ i ∧ i < 35) → h9 49 i = h0 49 i
def strEm (h0 h9 : hp_) (p : Nat) : Prop := h9 49 0 = 0 ∧ h9 49 1 = 0 ∧ h9 49 3 = nI p ∧ (∀ x, pT x = false → ¬ x = 49 → h9 x = h0 x) ∧ ∀ i, fN i = false → h9 49 i = h0 49 i
theorem fT_N : ∀ i, fN i = false → fT i = false := fun i p => by
  have := fN_no p
  simp [fT]
  omega
theorem pY_no {x : Nat} (h : pY x = false) : pT x = false ∧ (x == 53) = false ∧ (x == 73) = false ∧ (x == 497) = false ∧ ¬ (64 ≤ x ∧ x < 72) := by
  unfold pY at h
  simp only [Bool.or_eq_false_iff] at h
  refine ⟨h.1, h.2.1, h.2.2.1, h.2.2.2.1, fun q => ?_⟩
  have := h.2.2.2.2
  simp [q.1] at this
  omega
set_option maxHeartbeats 2000000 in
theorem rf_street {c : Nat → Nat} {N T D kc ks : Nat} {h0 : hp_} {g : Nat → Nat → Int64} {Q : jj_Rs → jj_St → Prop} (hF : fedok (h0 50) c) (hT : h0 49 1 = nI T) (hT6 : T ≤ 600) (hNT : N ≤ T) (hD : 7 ≤ D) (k1 : ∀ S h9, pstreet c N = .ok S → strTm h0 h9 S → Q (.inl (some (.int (nI S.1.length)))) (jj_S, 782, h9, g)) (k2 : ∀ k p h9, pstreet c N = .error (k, p) → strEm h0 h9 p → Q (.inl (some (.int (nI k - 10)))) (jj_S, 782, h9, g)) : jj_R mX10_street D kc ks (jj_S, 782, h0, g) 0 [(0, .ref 49), (1, .int (nI N))] [] Q := by
  obtain ⟨d, rfl⟩ : ∃ d, D = d + 7 := ⟨D - 7, by omega⟩
  have hN6 : N ≤ 600 := by omega
  obtain ⟨h, eh0⟩ : ∃ h, h = h0 := ⟨h0, rfl⟩
  rw [← eh0]
  rw [← eh0] at hF hT
  refine rr_aload_n 0 rfl rfl dX10_street_0 ?_
  refine rr_iconst 0 rfl dX10_street_1 ?_
  refine rr_putI dX10_street_2 fX10_95 ni10_0 lo_49 sh_49 rfl ?_
  rw [jj_rs_set0 (B := h) (o := 49) (r := (h 49)) rfl]
  refine jj_fl (fun h9 eh => ?_)
  have t0 : h9 49 0 = 0 := by rw [eh]; exact jj_ueq rfl
  have fq : fr 49 pT fN h0 h9 := by rw [eh, ← eh0]; exact fr_u rfl
  have hT : h9 49 1 = nI T := by rw [eh]; exact (jj_une (by decide)).trans hT
  have hF : fedok (h9 50) c := by rw [eh]; exact hF
  clear eh
  revert h9
  intro h t0 fq hT hF
  show jj_R _ _ kc ks (jj_S, 782, h, g) 5 [(0, .ref 49), (1, .int (nI N))] [] Q
  refine rr_aload_n 0 rfl rfl dX10_street_5 ?_
  refine rr_iload_n 1 rfl rfl dX10_street_6 ?_
  refine rr_iconst 0 rfl dX10_street_7 ?_
  refine rr_aload_n 0 rfl rfl dX10_street_8 ?_
  refine rr_getI dX10_street_9 fX10_98 lo_49 sh_49 rfl ?_
  rw [show (h 49) 1 = (nI T) from hT]
  refine rr_callS (As := [.int (nI N), .int 0, .int (nI T)]) (rest := [.ref 49]) (kc2 := 0) (ks2 := 0) dX10_street_12 okX10_in lX10_129 rfl (Nat.le_of_ble_eq_true rfl) (Nat.le_of_ble_eq_true rfl) rfl (by omega) (by simp [jj_rk]) (by simp [jj_rk]) ?_
  refine sp_X10_in  ?_
  show jj_R _ _ kc ks (jj_S, 782, h, g) 15 [(0, .ref 49), (1, .int (nI N))] [.int (vX10_in (nI N) 0 (nI T)), .ref 49] Q
  refine rr_if_ne dX10_street_15 (fun _ => ?_) (fun c => absurd c (by rw [in_T hNT (by omega)]; decide))
  refine rr_iconst 0 rfl dX10_street_22 ?_
  refine rr_iconst 1 rfl dX10_street_23 ?_
  refine rr_iconst 1 rfl dX10_street_24 ?_
  refine rr_callV (As := [.int 0, .int 1, .int 1]) (rest := []) (kc2 := 0) (ks2 := 0) dX10_street_25 okX10_bad lX10_171 lo_49 sh_49 rfl rfl (Nat.le_of_ble_eq_true rfl) (Nat.le_of_ble_eq_true rfl) rfl (by omega) (by simp [jj_rk]) (by simp [jj_rk]) ?_
  refine sp_X10_bad0_11 t0 ?_
  show jj_R _ _ kc ks (jj_S, 782, h, g) 28 [(0, .ref 49), (1, .int (nI N))] [.int 0] Q
  refine rr_if_eq dX10_street_28 (fun _ => ?_) (fun c => absurd (by decide) c)
  refine rr_aload_n 0 rfl rfl dX10_street_33 ?_
  refine rr_iload_n 1 rfl rfl dX10_street_34 ?_
  refine rr_callV (As := [.int (nI N)]) (rest := []) (kc2 := 0) (ks2 := 0) dX10_street_35 okX10_starts lX10_175 lo_49 sh_49 rfl rfl (Nat.le_of_ble_eq_true rfl) (Nat.le_of_ble_eq_true rfl) rfl (by omega) (by simp [jj_rk]) (by simp [jj_rk]) ?_
  refine rl_starts hN6 hF (by omega) (fun h m s0 f1 => ?_)
  have t0 : h 49 0 = 0 := s0.trans t0
  have fq : fr 49 pT fN h0 h := fr_tr fq (fr_mo (fun _ _ => rfl) (fun _ q => q) f1)
  show jj_R _ _ kc ks (jj_S, 782, h, g) 38 [(0, .ref 49), (1, .int (nI N))] [] Q
  refine rr_aload_n 0 rfl rfl dX10_street_38 ?_
  refine rr_callV (As := []) (rest := []) (kc2 := 0) (ks2 := 0) dX10_street_39 okX10_tellsNothing lX10_89 lo_49 sh_49 rfl rfl (Nat.le_of_ble_eq_true rfl) (Nat.le_of_ble_eq_true rfl) rfl (by omega) (by simp [jj_rk]) (by simp [jj_rk]) ?_
  refine sp_X10_tellsNothing ?_
  show jj_R _ _ kc ks (jj_S, 782, _, g) 42 [(0, .ref 49), (1, .int (nI N))] [] Q
  refine jj_fl (fun h9 eh => ?_)
  obtain ⟨⟨a1, a2, a3, a4, a5⟩, a6, a7, a8, a9⟩ := m
  have m9 : tst c N 0 ([], 20, fun _ => 0) [] h9 (spn isB c N 0) h9 := by
    refine ⟨⟨?_, ?_, ?_, a4, ?_⟩, ?_, by decide, ?_, by decide, ?_, fun i hi => ?_, fun i z hi => (by cases hi), fun i z hi => (by cases hi), fr_rf⟩
    · rw [eh]; exact a1
    · rw [eh]; exact a2
    · rw [eh]; exact a3
    · rw [eh]; exact a5
    · rw [eh]; exact a8
    · rw [eh]; rfl
    · rw [eh]; rfl
    · rw [eh]
      rcases lt_8 hi with rfl | rfl | rfl | rfl | rfl | rfl | rfl | rfl <;> rfl
  have t0 : h9 49 0 = 0 := by rw [eh]; exact t0
  have t1 : h9 49 1 = 0 := by rw [eh]; exact a6
  have fq : fr 49 pT fN h0 h9 := by rw [eh]; exact fr_tr fq (fr_L rfl rfl)
  clear eh
  refine st_loop hN6 N (by omega) (by omega) (by omega) spn_idem m9 (fun S b j2 h e1 q m => ?_) (fun k p h N9 e1 m => ?_)
  · skip
    have fr1 := fr_tr fq (fr_mo (fun _ q => q) fT_N m.2.2.2.2.2.2.2.2.2)
    have t0 : h 49 0 = 0 := (m.2.2.2.2.2.2.2.2.2.2 0 rfl).trans t0
    have t1 : h 49 1 = 0 := (m.2.2.2.2.2.2.2.2.2.2 1 rfl).trans t1
    have hS8 := m.2.2.2.2.1
    refine rr_aload_n 0 rfl rfl dX10_street_71 ?_
    refine rr_getI dX10_street_72 fX10_111 lo_49 sh_49 rfl ?_
    rw [show (h 49) 5 = 0 from m.1.2.2.2.2]
    refine rr_if_eq dX10_street_75 (fun _ => ?_) (fun c => absurd (by decide) c)
    refine rr_aload_n 0 rfl rfl dX10_street_83 ?_
    refine rr_iconst (-1) rfl dX10_street_84 ?_
    refine rr_putI dX10_street_85 fX10_9 ni10_3 lo_49 sh_49 rfl ?_
    rw [jj_rs_set0 (B := h) (o := 49) (r := (h 49)) rfl]
    refine jj_fl (fun h9 eh => ?_)
    have u0 : h9 49 0 = 0 ∧ h9 49 1 = 0 ∧ h9 49 3 = -1 := by
      rw [eh]
      exact ⟨(jj_une (by decide)).trans t0, (jj_une (by decide)).trans t1, jj_ueq rfl⟩
    have u1 : ∀ x, ¬ x = 49 → h9 x = h x := fun x q => by rw [eh]; exact rs_ne q
    have u2 : ∀ i, fN i = false → h9 49 i = h0 49 i := fun i p => by
      rw [eh]
      have q2 := fN_no p
      exact (jj_une (by omega)).trans (fr1.2 i p)
    clear eh
    show jj_R _ _ kc ks (jj_S, 782, h9, g) 88 [(0, .ref 49), (1, .int (nI N))] [] Q
    refine rr_aload_n 0 rfl rfl dX10_street_88 ?_
    refine rr_callV (As := []) (rest := []) (kc2 := 0) (ks2 := 0) dX10_street_89 okX10_beginsAnew lX10_92 lo_49 sh_49 rfl rfl (Nat.le_of_ble_eq_true rfl) (Nat.le_of_ble_eq_true rfl) rfl (by omega) (by simp [jj_rk]) (by simp [jj_rk]) ?_
    refine sp_X10_beginsAnew (n := S.1.length) (by rw [u1 52 (by decide)]; exact m.2.2.2.1) hS8 ?_
    have la := layG_at (G := jj_gd h9 55 8) (a := jj_gd h9 64 8) (W := 4) S.1.length (by omega)
    show jj_R _ _ kc ks (jj_S, 782, _, g) 92 [(0, .ref 49), (1, .int (nI N))] [] Q
    refine jj_fl (fun h8 eh => ?_)
    have w53 : h8 53 0 = nI S.1.length := by rw [eh]; rfl
    have fin : strTm h0 h8 S := by
      rw [eh]
      refine ⟨u0, rfl, ?_, fun i hi => ?_, fun i z hi => ?_, ⟨rfl, rfl, rfl, rfl, rfl⟩, fun p hp => ?_, ⟨rfl, rfl, rfl⟩, fun x hx hx3 => ?_, fun i p q1 q2 => ?_⟩
      · show h9 52 1 = nI S.2.1
        rw [u1 52 (by decide)]; exact m.2.2.2.2.2.1
      · have q7 := m.2.2.2.2.2.2.1 i hi
        rw [← u1 72 (by decide)] at q7
        rw [← q7]
        rcases lt_8 hi with rfl | rfl | rfl | rfl | rfl | rfl | rfl | rfl <;> rfl
      · have hi2 := (List.getElem?_eq_some_iff.mp hi).1
        have e9 := jj_gs_at (B := h9) (b := 64) (len := 8) (G := layG (jj_gd h9 55 8) 4 S.1.length (jj_gd h9 64 8)) (x := i) (L := [(49, rX10_beginsAnew_49 (h9 49) (h9 52) (h9 53) (h9 72) (h9 73) (h9 497) (jj_gd h9 55 8) (jj_gd h9 64 8) S.1.length), (53, rX10_beginsAnew_53 (h9 49) (h9 52) (h9 53) (h9 72) (h9 73) (h9 497) (jj_gd h9 55 8) (jj_gd h9 64 8) S.1.length), (73, rX10_beginsAnew_73 (h9 49) (h9 52) (h9 53) (h9 72) (h9 73) (h9 497) (jj_gd h9 55 8) (jj_gd h9 64 8) S.1.length), (497, rX10_beginsAnew_497 (h9 49) (h9 52) (h9 53) (h9 72) (h9 73) (h9 497) (jj_gd h9 55 8) (jj_gd h9 64 8) S.1.length)]) rfl (by omega)
        have q8 := m.2.2.2.2.2.2.2.1 i z hi
        rw [← u1 (55 + i) (by omega)] at q8
        refine ⟨(congrFun e9 0).trans ?_, (congrFun e9 1).trans ?_, (congrFun e9 2).trans ?_, (congrFun e9 3).trans ?_⟩
        · rw [la.1 i 0 hi2 (by decide), ← jj_gd_at (by omega)]; exact q8.1
        · rw [la.1 i 1 hi2 (by decide), ← jj_gd_at (by omega)]; exact q8.2.1
        · rw [la.1 i 2 hi2 (by decide), ← jj_gd_at (by omega)]; exact q8.2.2.1
        · rw [la.1 i 3 hi2 (by decide), ← jj_gd_at (by omega)]; exact q8.2.2.2
      · rcases lt_8 hp with rfl | rfl | rfl | rfl | rfl | rfl | rfl | rfl <;> exact ⟨rfl, rfl, rfl, rfl⟩
      · have py := pY_no hx
        have x9 : (x == 49) = false := by rw [beq_eq_false_iff_ne]; exact hx3
        simp only [jj_rs, List.lookup, x9, py.2.1, py.2.2.1, py.2.2.2.1]
        unfold jj_gs
        rw [if_neg (by omega), u1 x hx3]
        exact fr1.1 x py.1 hx3
      · show upd (upd (upd (upd (upd (h9 49) 17 0) 31 0) 32 0) 33 0) 34 0 i = h0 49 i
        rw [jj_une (by omega), jj_une (by omega), jj_une (by omega), jj_une (by omega), jj_une q1]
        exact u2 i p
    clear eh
    revert h8
    intro h w53 fin
    show jj_R _ _ kc ks (jj_S, 782, h, g) 92 [(0, .ref 49), (1, .int (nI N))] [] Q
    refine rr_aload_n 0 rfl rfl dX10_street_92 ?_
    refine rr_getR dX10_street_93 fX10_23 lo_49 sh_49 rfl ?_
    refine rr_iconst 0 rfl dX10_street_96 ?_
    refine rr_iaload dX10_street_97 lo_53 sh_53 (jj_inL rfl) ?_
    rw [show (h 53) (0 : Int32).toNatClampNeg = (nI (S.1.length)) from w53]
    refine rr_ireturn dX10_street_98 rfl ?_
    exact k1 S h (by unfold pstreet; rw [pb_ok e1, if_pos q]) fin
  · skip
    refine rr_aload_n 0 rfl rfl dX10_street_71 ?_
    refine rr_getI dX10_street_72 fX10_111 lo_49 sh_49 rfl ?_
    refine rr_if_eq dX10_street_75 (fun c => absurd c m.2.2.1) (fun _ => ?_)
    refine rr_aload_n 0 rfl rfl dX10_street_78 ?_
    refine rr_callV (As := []) (rest := []) (kc2 := 0) (ks2 := 0) dX10_street_79 okX10_ends lX10_181 lo_49 sh_49 rfl rfl (Nat.le_of_ble_eq_true rfl) (Nat.le_of_ble_eq_true rfl) rfl (by omega) (by simp [jj_rk]) (by simp [jj_rk]) ?_
    refine rl_ends (k := k) (p := p) m.1 m.2.1 ?_
    show jj_R _ _ kc ks (jj_S, 782, jj_rs h [(49, upd (h 49) 3 (nI p))], g) 82 [(0, .ref 49), (1, .int (nI N))] [.int (nI k - 10)] Q
    refine rr_ireturn dX10_street_82 rfl ?_
    have fr1 := fr_tr fq (fr_mo (fun _ q => q) fT_N m.2.2.2.1)
    refine k2 k p _ ?_ ⟨(jj_une (by decide)).trans ((m.2.2.2.1.2 0 rfl).trans t0), (jj_une (by decide)).trans ((m.2.2.2.1.2 1 rfl).trans t1), jj_ueq rfl, fun x hx x49 => ?_, fun i p => ?_⟩
    · unfold pstreet
      rcases e1 with e1 | ⟨S2, b, e1, q1, rfl, rfl⟩
      · rw [pb_er e1]
      · rw [pb_ok e1, if_neg q1]
    · rw [rs_ne x49]; exact fr1.1 x hx x49
    · have q := fN_no p
      exact (jj_une (by omega)).trans (fr1.2 i p)
