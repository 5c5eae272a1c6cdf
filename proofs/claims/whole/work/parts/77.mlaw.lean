/-! ===== rows laid; the reference begins to read ===== -/
def inG (G : Nat → Nat → Int32) (x W : Nat) (a : Nat → Nat → Int32) : Nat → Nat → Int32 := jj_fo (fun k2 a2 => jj_ug a2 ((nI x) : Int32).toNatClampNeg k2 (G ((nI x) : Int32).toNatClampNeg k2)) W a
def layG (G : Nat → Nat → Int32) (W q : Nat) (a : Nat → Nat → Int32) : Nat → Nat → Int32 := jj_fo (fun k1 a1 => inG G k1 W a1) q a
theorem inG_at {G a : Nat → Nat → Int32} {x : Nat} (hx : x < 2 ^ 31) : ∀ W, (∀ i, ¬ i = x → inG G x W a i = a i) ∧ (∀ k, k < W → inG G x W a x k = G x k) ∧ (∀ k, W ≤ k → inG G x W a x k = a x k)
  | 0 => ⟨fun _ _ => rfl, fun k hk => absurd hk (Nat.not_lt_zero k), fun _ _ => rfl⟩
  | W + 1 => by
    obtain ⟨h1, h2, h3⟩ := inG_at (G := G) (a := a) hx W
    have e : inG G x (W + 1) a = jj_ug (inG G x W a) x W (G x W) := by
      show jj_ug (inG G x W a) ((nI x) : Int32).toNatClampNeg W (G ((nI x) : Int32).toNatClampNeg W) = _
      rw [nI_clamp hx]
    rw [e]
    unfold jj_ug
    refine ⟨fun i hi => by rw [if_neg hi]; exact h1 i hi, fun k hk => ?_, fun k hk => ?_⟩
    · rw [if_pos rfl]
      by_cases q : k = W
      · rw [jj_ueq q, q]
      · rw [jj_une q]; exact h2 k (by omega)
    · rw [if_pos rfl, jj_une (by omega)]; exact h3 k (by omega)
theorem layG_at {G a : Nat → Nat → Int32} {W : Nat} : ∀ q, q < 2 ^ 31 → (∀ i k, i < q → k < W → layG G W q a i k = G i k) ∧ (∀ i, q ≤ i → layG G W q a i = a i)
  | 0, _ => ⟨fun i k hi => absurd hi (Nat.not_lt_zero i), fun _ _ => rfl⟩
  | q + 1, hq => by
    obtain ⟨h1, h2⟩ := layG_at (G := G) (a := a) (W := W) q (by omega)
    have e : layG G W (q + 1) a = inG G q W (layG G W q a) := rfl
    obtain ⟨i1, i2, i3⟩ := inG_at (G := G) (a := layG G W q a) (x := q) (by omega) W
    rw [e]
    refine ⟨fun i k hi hk => ?_, fun i hi => ?_⟩
    · by_cases z : i = q
      · rw [z]; exact i2 k hk
      · rw [i1 i z]; exact h1 i k (by omega) hk
    · rw [i1 i (by omega)]; exact h2 i (by omega)
theorem fr_mo {o : Nat} {P P2 F F2 : Nat → Bool} {h k : hp_} (hP : ∀ x, P2 x = false → P x = false) (hF : ∀ i, F2 i = false → F i = false) (a : fr o P F h k) : fr o P2 F2 h k := ⟨fun x p q => a.1 x (hP x p) q, fun i p => a.2 i (hF i p)⟩
def fN (i : Nat) : Bool := decide (i < 9) || (i == 18 || i == 26)
theorem fN_no {i : Nat} (p : fN i = false) : ¬ i < 9 ∧ ¬ i = 18 ∧ ¬ i = 26 := by simpa [fN] using p
theorem fr_u {P : Nat → Bool} {h : hp_} {j : Nat} {v : Int32} (hj : fN j = true) : fr 49 P fN h (jj_rs h [(49, upd (h 49) j v)]) := fr_put (fun i p => jj_une (fun q => by rw [q, hj] at p; cases p))
/-- a text of the reference is begun -/
def stt (c : Nat → Nat) (N x : Nat) (h : hp_) : Prop := mst c N x h ∧ h 49 1 = 0 ∧ h 49 6 = -1 ∧ h 49 7 = 0 ∧ h 49 8 = 0
theorem rl_starts {c : Nat → Nat} {N D kc ks : Nat} {h : hp_} {g : Nat → Nat → Int64} {Q : jj_Rs → jj_St → Prop} (hN : N ≤ 600) (hF : fedok (h 50) c) (hD : 2 ≤ D) (k : ∀ h9, stt c N (spn isB c N 0) h9 → h9 49 0 = h 49 0 → fr 49 p0 fN h h9 → Q (.inl none) (jj_S, 782, h9, g)) : jj_R mX10_starts D kc ks (jj_S, 782, h, g) 0 [(0, .ref 49), (1, .int (nI N))] [] Q := by
  obtain ⟨d, rfl⟩ : ∃ d, D = d + 2 := ⟨D - 2, by omega⟩
  refine rr_aload_n 0 rfl rfl dX10_starts_0 ?_
  refine rr_iconst 0 rfl dX10_starts_1 ?_
  refine rr_putI dX10_starts_2 fX10_98 ni10_1 lo_49 sh_49 rfl ?_
  rw [jj_rs_set0 (B := h) (o := 49) (r := (h 49)) rfl]
  refine rr_aload_n 0 rfl rfl dX10_starts_5 ?_
  refine rr_iload_n 1 rfl rfl dX10_starts_6 ?_
  refine rr_putI dX10_starts_7 fX10_101 ni10_2 lo_49 sh_49 rfl ?_
  rw [jj_rs_set (B := h) (L := [(49, (upd (h 49) (1) 0))]) (L2 := [(49, (upd (upd (h 49) (1) 0) (2) (nI N)))]) (r := (upd (h 49) (1) 0)) rfl rfl]
  refine rr_aload_n 0 rfl rfl dX10_starts_10 ?_
  refine rr_iconst 0 rfl dX10_starts_11 ?_
  refine rr_putI dX10_starts_12 fX10_104 ni10_4 lo_49 sh_49 rfl ?_
  rw [jj_rs_set (B := h) (L := [(49, (upd (upd (h 49) (1) 0) (2) (nI N)))]) (L2 := [(49, (upd (upd (upd (h 49) (1) 0) (2) (nI N)) (4) 0))]) (r := (upd (upd (h 49) (1) 0) (2) (nI N))) rfl rfl]
  refine rr_aload_n 0 rfl rfl dX10_starts_15 ?_
  refine rr_iconst 0 rfl dX10_starts_16 ?_
  refine rr_putI dX10_starts_17 fX10_111 ni10_5 lo_49 sh_49 rfl ?_
  rw [jj_rs_set (B := h) (L := [(49, (upd (upd (upd (h 49) (1) 0) (2) (nI N)) (4) 0))]) (L2 := [(49, (upd (upd (upd (upd (h 49) (1) 0) (2) (nI N)) (4) 0) (5) 0))]) (r := (upd (upd (upd (h 49) (1) 0) (2) (nI N)) (4) 0)) rfl rfl]
  refine rr_aload_n 0 rfl rfl dX10_starts_20 ?_
  refine rr_iconst (-1) rfl dX10_starts_21 ?_
  refine rr_putI dX10_starts_22 fX10_114 ni10_6 lo_49 sh_49 rfl ?_
  rw [jj_rs_set (B := h) (L := [(49, (upd (upd (upd (upd (h 49) (1) 0) (2) (nI N)) (4) 0) (5) 0))]) (L2 := [(49, (upd (upd (upd (upd (upd (h 49) (1) 0) (2) (nI N)) (4) 0) (5) 0) (6) (-1)))]) (r := (upd (upd (upd (upd (h 49) (1) 0) (2) (nI N)) (4) 0) (5) 0)) rfl rfl]
  refine rr_aload_n 0 rfl rfl dX10_starts_25 ?_
  refine rr_iconst 0 rfl dX10_starts_26 ?_
  refine rr_putI dX10_starts_27 fX10_151 ni10_7 lo_49 sh_49 rfl ?_
  rw [jj_rs_set (B := h) (L := [(49, (upd (upd (upd (upd (upd (h 49) (1) 0) (2) (nI N)) (4) 0) (5) 0) (6) (-1)))]) (L2 := [(49, (upd (upd (upd (upd (upd (upd (h 49) (1) 0) (2) (nI N)) (4) 0) (5) 0) (6) (-1)) (7) 0))]) (r := (upd (upd (upd (upd (upd (h 49) (1) 0) (2) (nI N)) (4) 0) (5) 0) (6) (-1))) rfl rfl]
  refine rr_aload_n 0 rfl rfl dX10_starts_30 ?_
  refine rr_iconst 0 rfl dX10_starts_31 ?_
  refine rr_putI dX10_starts_32 fX10_154 ni10_8 lo_49 sh_49 rfl ?_
  rw [jj_rs_set (B := h) (L := [(49, (upd (upd (upd (upd (upd (upd (h 49) (1) 0) (2) (nI N)) (4) 0) (5) 0) (6) (-1)) (7) 0))]) (L2 := [(49, (upd (upd (upd (upd (upd (upd (upd (h 49) (1) 0) (2) (nI N)) (4) 0) (5) 0) (6) (-1)) (7) 0) (8) 0))]) (r := (upd (upd (upd (upd (upd (upd (h 49) (1) 0) (2) (nI N)) (4) 0) (5) 0) (6) (-1)) (7) 0)) rfl rfl]
  refine jj_fl (fun h9 eh => ?_)
  have s2 : h9 49 2 = nI N := by rw [eh]; rfl
  have s4 : h9 49 4 = nI 0 := by rw [eh]; rfl
  have s5 : h9 49 5 = 0 := by rw [eh]; rfl
  have s50 : h9 50 = h 50 := by rw [eh]; rfl
  have fq : fr 49 p0 fN h h9 := by
    rw [eh]
    refine fr_put (fun i p => ?_)
    have q := fN_no p
    rw [jj_une (by omega), jj_une (by omega), jj_une (by omega), jj_une (by omega), jj_une (by omega), jj_une (by omega), jj_une (by omega)]
  have s0 : h9 49 0 = h 49 0 := by rw [eh]; rfl
  have s1 : h9 49 1 = 0 ∧ h9 49 6 = -1 ∧ h9 49 7 = 0 ∧ h9 49 8 = 0 := by rw [eh]; exact ⟨rfl, rfl, rfl, rfl⟩
  clear eh
  show jj_R _ _ kc ks (jj_S, 782, h9, g) 35 [(0, .ref 49), (1, .int (nI N))] [] Q
  refine rr_aload_n 0 rfl rfl dX10_starts_35 ?_
  refine rr_callV (As := []) (rest := []) (kc2 := 0) (ks2 := 0) dX10_starts_36 okX10_blanks lX10_117 lo_49 sh_49 rfl rfl (Nat.le_of_ble_eq_true rfl) (Nat.le_of_ble_eq_true rfl) rfl (by omega) (by simp [jj_rk]) (by simp [jj_rk]) ?_
  refine sp_blanks (c := c) (e := N) (x := 0) hN s2 s4 (by rw [s50]; exact hF) (by omega) ?_
  show jj_R _ _ kc ks (jj_S, 782, jj_rs h9 [(49, upd (h9 49) 4 (nI (spn isB c N 0)))], g) 39 [(0, .ref 49), (1, .int (nI N))] [] Q
  refine rr_return dX10_starts_39 rfl ?_
  refine k _ ⟨⟨(jj_une (by decide)).trans s2, jj_ueq rfl, by show fedok (h9 50) c; rw [s50]; exact hF, spn_le (Nat.zero_le _), (jj_une (by decide)).trans s5⟩, (jj_une (by decide)).trans s1.1, (jj_une (by decide)).trans s1.2.1, (jj_une (by decide)).trans s1.2.2.1, (jj_une (by decide)).trans s1.2.2.2⟩ ((jj_une (by decide)).trans s0) (fr_tr fq (fr_u rfl))
theorem in_T {N T : Nat} (h : N ≤ T) (hT : T < 2 ^ 31) : vX10_in (nI N) 0 (nI T) = 1 := by
  unfold vX10_in
  rw [if_neg (nI_pos (by omega)), if_neg (nI_nlt h hT)]
def lawTm (h0 h9 : hp_) (L : List (Nat × Nat)) : Prop := h9 49 0 = 0 ∧ h9 49 1 = 0 ∧ h9 49 3 = -1 ∧ h9 49 17 = nI L.length ∧ (∀ i z, L[i]? = some z → h9 (75 + i) 0 = nI z.1 ∧ h9 (75 + i) 1 = nI z.2) ∧ (∀ x, ¬ x = 49 → ¬ (75 ≤ x ∧ x < 235) → ¬ (236 ≤ x ∧ x < 396) → h9 x = h0 x) ∧ ∀ i, fN i = false → ¬ i = 17 → h9 49 i = h0 49 i
def lawEm (h0 h9 : hp_) (p : Nat) : Prop := h9 49 0 = 0 ∧ h9 49 1 = 0 ∧ h9 49 3 = nI p ∧ (∀ x, ¬ x = 49 → ¬ (236 ≤ x ∧ x < 396) → h9 x = h0 x) ∧ ∀ i, fN i = false → h9 49 i = h0 49 i
theorem pL_no {x : Nat} (h : ¬ (236 ≤ x ∧ x < 396)) : pL x = false := by
  unfold pL
  rw [Bool.and_eq_false_iff, decide_eq_false_iff_not, decide_eq_false_iff_not]
  omega
theorem pL_N : ∀ i, fN i = false → fE i = false := fun i p => by
  have := fN_no p
  simp [fE]
  omega
theorem rl_ends {k p D kc ks : Nat} {h : hp_} {g : Nat → Nat → Int64} {Q : jj_Rs → jj_St → Prop} (h5 : h 49 5 = nI k) (h6 : h 49 6 = nI p) (kq : Q (.inl (some (.int (nI k - 10)))) (jj_S, 782, jj_rs h [(49, upd (h 49) 3 (nI p))], g)) : jj_R mX10_ends D kc ks (jj_S, 782, h, g) 0 [(0, .ref 49)] [] Q := by
  refine rr_aload_n 0 rfl rfl dX10_ends_0 ?_
  refine rr_aload_n 0 rfl rfl dX10_ends_1 ?_
  refine rr_getI dX10_ends_2 fX10_114 lo_49 sh_49 rfl ?_
  rw [show (h 49) 6 = (nI p) from h6]
  refine rr_putI dX10_ends_5 fX10_9 ni10_3 lo_49 sh_49 rfl ?_
  rw [jj_rs_set0 (B := h) (o := 49) (r := (h 49)) rfl]
  refine rr_aload_n 0 rfl rfl dX10_ends_8 ?_
  refine rr_getI dX10_ends_9 fX10_111 lo_49 sh_49 rfl ?_
  rw [show (jj_rs h [(49, (upd (h 49) (3) (nI p)))]) 49 = (upd (h 49) (3) (nI p)) from rfl]
  rw [show (upd (h 49) (3) (nI p)) 5 = (nI k) from h5]
  refine rr_bipush 10 rfl dX10_ends_12 ?_
  refine rr_isub dX10_ends_14 ?_
  refine rr_ireturn dX10_ends_15 rfl ?_
  exact kq
set_option maxHeartbeats 2000000 in
theorem rf_law {c : Nat → Nat} {N T D kc ks : Nat} {h0 : hp_} {g : Nat → Nat → Int64} {Q : jj_Rs → jj_St → Prop} (hF : fedok (h0 50) c) (hT : h0 49 1 = nI T) (hT6 : T ≤ 600) (hNT : N ≤ T) (hN5 : N ≤ 150) (hD : 27 ≤ D) (k1 : ∀ L h9, plaw c N = .ok L → lawTm h0 h9 L → Q (.inl (some (.int 1))) (jj_S, 782, h9, g)) (k2 : ∀ k p h9, plaw c N = .error (k, p) → lawEm h0 h9 p → Q (.inl (some (.int (nI k - 10)))) (jj_S, 782, h9, g)) : jj_R mX10_law D kc ks (jj_S, 782, h0, g) 0 [(0, .ref 49), (1, .int (nI N))] [] Q := by
  obtain ⟨d, rfl⟩ : ∃ d, D = d + 27 := ⟨D - 27, by omega⟩
  obtain ⟨h, eh0⟩ : ∃ h, h = h0 := ⟨h0, rfl⟩
  rw [← eh0]
  rw [← eh0] at hF hT
  refine rr_aload_n 0 rfl rfl dX10_law_0 ?_
  refine rr_iconst 0 rfl dX10_law_1 ?_
  refine rr_putI dX10_law_2 fX10_95 ni10_0 lo_49 sh_49 rfl ?_
  rw [jj_rs_set0 (B := h) (o := 49) (r := (h 49)) rfl]
  refine jj_fl (fun h9 eh => ?_)
  have t0 : h9 49 0 = 0 := by rw [eh]; exact jj_ueq rfl
  have fq : fr 49 pL fN h0 h9 := by rw [eh, ← eh0]; exact fr_u rfl
  have hT : h9 49 1 = nI T := by rw [eh]; exact (jj_une (by decide)).trans hT
  have hF : fedok (h9 50) c := by rw [eh]; exact hF
  clear eh
  revert h9
  intro h t0 fq hT hF
  show jj_R _ _ kc ks (jj_S, 782, h, g) 5 [(0, .ref 49), (1, .int (nI N))] [] Q
  refine rr_aload_n 0 rfl rfl dX10_law_5 ?_
  refine rr_iload_n 1 rfl rfl dX10_law_6 ?_
  refine rr_iconst 0 rfl dX10_law_7 ?_
  refine rr_aload_n 0 rfl rfl dX10_law_8 ?_
  refine rr_getI dX10_law_9 fX10_98 lo_49 sh_49 rfl ?_
  rw [show (h 49) 1 = (nI T) from hT]
  refine rr_callS (As := [.int (nI N), .int 0, .int (nI T)]) (rest := [.ref 49]) (kc2 := 0) (ks2 := 0) dX10_law_12 okX10_in lX10_129 rfl (Nat.le_of_ble_eq_true rfl) (Nat.le_of_ble_eq_true rfl) rfl (by omega) (by simp [jj_rk]) (by simp [jj_rk]) ?_
  refine sp_X10_in  ?_
  show jj_R _ _ kc ks (jj_S, 782, h, g) 15 [(0, .ref 49), (1, .int (nI N))] [.int (vX10_in (nI N) 0 (nI T)), .ref 49] Q
  refine rr_if_eq dX10_law_15 (fun c => absurd c (by rw [in_T hNT (by omega)]; decide)) (fun _ => ?_)
  refine rr_iload_n 1 rfl rfl dX10_law_18 ?_
  refine rr_sipush 150 rfl dX10_law_19 ?_
  refine rr_icmp_le dX10_law_22 (fun _ => ?_) (fun c => absurd (nI_le hN5 (by decide)) c)
  refine rr_iconst 0 rfl dX10_law_29 ?_
  refine rr_iconst 1 rfl dX10_law_30 ?_
  refine rr_iconst 1 rfl dX10_law_31 ?_
  refine rr_callV (As := [.int 0, .int 1, .int 1]) (rest := []) (kc2 := 0) (ks2 := 0) dX10_law_32 okX10_bad lX10_171 lo_49 sh_49 rfl rfl (Nat.le_of_ble_eq_true rfl) (Nat.le_of_ble_eq_true rfl) rfl (by omega) (by simp [jj_rk]) (by simp [jj_rk]) ?_
  refine sp_X10_bad0_11 t0 ?_
  show jj_R _ _ kc ks (jj_S, 782, h, g) 35 [(0, .ref 49), (1, .int (nI N))] [.int 0] Q
  refine rr_if_eq dX10_law_35 (fun _ => ?_) (fun c => absurd (by decide) c)
  refine rr_aload_n 0 rfl rfl dX10_law_40 ?_
  refine rr_iload_n 1 rfl rfl dX10_law_41 ?_
  refine rr_callV (As := [.int (nI N)]) (rest := []) (kc2 := 0) (ks2 := 0) dX10_law_42 okX10_starts lX10_175 lo_49 sh_49 rfl rfl (Nat.le_of_ble_eq_true rfl) (Nat.le_of_ble_eq_true rfl) rfl (by omega) (by simp [jj_rk]) (by simp [jj_rk]) ?_
  refine rl_starts (by omega) hF (by omega) (fun h m s0 f1 => ?_)
  have t0 : h 49 0 = 0 := s0.trans t0
  have fq : fr 49 pL fN h0 h := fr_tr fq (fr_mo (fun _ _ => rfl) (fun _ q => q) f1)
  show jj_R _ _ kc ks (jj_S, 782, h, g) 45 [(0, .ref 49), (1, .int (nI N))] [] Q
  refine rr_aload_n 0 rfl rfl dX10_law_45 ?_
  refine rr_iconst 0 rfl dX10_law_46 ?_
  refine rr_putI dX10_law_47 fX10_203 ni10_18 lo_49 sh_49 rfl ?_
  rw [jj_rs_set0 (B := h) (o := 49) (r := (h 49)) rfl]
  refine jj_fl (fun h9 eh => ?_)
  obtain ⟨⟨a1, a2, a3, a4, a5⟩, a6, a7, a8, a9⟩ := m
  have m9 : lst c N 0 0 [] h9 (spn isB c N 0) h9 := by
    refine ⟨⟨?_, ?_, ?_, a4, ?_⟩, ?_, ?_, Nat.zero_le _, fr_rf, fun i z hi => by cases hi⟩
    · rw [eh]; exact (jj_une (by decide)).trans a1
    · rw [eh]; exact (jj_une (by decide)).trans a2
    · rw [eh]; exact a3
    · rw [eh]; exact (jj_une (by decide)).trans a5
    · rw [eh]; exact (jj_une (by decide)).trans a9
    · rw [eh]; exact jj_ueq rfl
  have t0 : h9 49 0 = 0 := by rw [eh]; exact (jj_une (by decide)).trans t0
  have t1 : h9 49 1 = 0 := by rw [eh]; exact (jj_une (by decide)).trans a6
  have fq : fr 49 pL fN h0 h9 := by rw [eh]; exact fr_tr fq (fr_u rfl)
  clear eh
  show jj_R _ _ kc ks (jj_S, 782, h9, g) 50 [(0, .ref 49), (1, .int (nI N))] [] Q
  refine rr_aload_n 0 rfl rfl dX10_law_50 ?_
  refine rr_callV (As := []) (rest := []) (kc2 := 0) (ks2 := 0) dX10_law_51 okX10_sum lX10_229 lo_49 sh_49 rfl rfl (Nat.le_of_ble_eq_true rfl) (Nat.le_of_ble_eq_true rfl) rfl (by omega) (by simp [jj_rk]) (by simp [jj_rk]) ?_
  refine rs_lev hN5 6 0 rfl (by omega) m9 (fun L b y h e1 hy sy m => ?_) (fun k p h e1 m => ?_)
  · skip
    rw [List.nil_append] at m
    rw [spn_idem] at e1
    show jj_R _ _ kc ks (jj_S, 782, h, g) 54 [(0, .ref 49), (1, .int (nI N))] [] Q
    refine rr_aload_n 0 rfl rfl dX10_law_54 ?_
    refine rr_callV (As := []) (rest := []) (kc2 := 0) (ks2 := 0) dX10_law_55 okX10_blanks lX10_117 lo_49 sh_49 rfl rfl (Nat.le_of_ble_eq_true rfl) (Nat.le_of_ble_eq_true rfl) rfl (by omega) (by simp [jj_rk]) (by simp [jj_rk]) ?_
    refine ll_blanks lst_R (by omega) m (by omega) (fun h m => ?_)
    rw [sy] at m
    show jj_R _ _ kc ks (jj_S, 782, h, g) 58 [(0, .ref 49), (1, .int (nI N))] [] Q
    refine rr_aload_n 0 rfl rfl dX10_law_58 ?_
    refine rr_getI dX10_law_59 fX10_111 lo_49 sh_49 rfl ?_
    rw [show (h 49) 5 = 0 from m.1.2.2.2.2]
    refine rr_if_ne dX10_law_62 (fun c => absurd c (by decide)) (fun _ => ?_)
    refine rr_aload_n 0 rfl rfl dX10_law_65 ?_
    refine rr_getI dX10_law_66 fX10_104 lo_49 sh_49 rfl ?_
    rw [show (h 49) 4 = (nI b) from m.1.2.1]
    refine rr_aload_n 0 rfl rfl dX10_law_69 ?_
    refine rr_getI dX10_law_70 fX10_101 lo_49 sh_49 rfl ?_
    rw [show (h 49) 2 = (nI N) from m.1.1]
    refine rr_icmp_ge dX10_law_73 (fun c1 => ?_) (fun c1 => ?_)
    · skip
      have hbe := m.1.2.2.2.1
      have q : N ≤ b := (nI_leI (by omega) (by omega)).mp c1
      have hl := m.2.2.2.1
      have fr1 := fr_tr fq (fr_mo (fun _ q => q) pL_N m.2.2.2.2.1)
      have t0 : h 49 0 = 0 := (m.2.2.2.2.1.2 0 rfl).trans t0
      have t1 : h 49 1 = 0 := (m.2.2.2.2.1.2 1 rfl).trans t1
      have m6 := m.2.2.2.2.2
      refine rr_aload_n 0 rfl rfl dX10_law_85 ?_
      refine rr_getI dX10_law_86 fX10_111 lo_49 sh_49 rfl ?_
      rw [show (h 49) 5 = 0 from m.1.2.2.2.2]
      refine rr_if_eq dX10_law_89 (fun _ => ?_) (fun c => absurd (by decide) c)
      refine rr_aload_n 0 rfl rfl dX10_law_97 ?_
      refine rr_iconst (-1) rfl dX10_law_98 ?_
      refine rr_putI dX10_law_99 fX10_9 ni10_3 lo_49 sh_49 rfl ?_
      rw [jj_rs_set0 (B := h) (o := 49) (r := (h 49)) rfl]
      refine rr_aload_n 0 rfl rfl dX10_law_102 ?_
      refine rr_aload_n 0 rfl rfl dX10_law_103 ?_
      refine rr_getI dX10_law_104 fX10_203 lo_49 sh_49 rfl ?_
      rw [show (jj_rs h [(49, (upd (h 49) (3) (-1)))]) 49 = (upd (h 49) (3) (-1)) from rfl]
      rw [show (upd (h 49) (3) (-1)) 18 = (nI (L.length)) from m.2.2.1]
      refine rr_putI dX10_law_107 fX10_188 ni10_17 lo_49 sh_49 rfl ?_
      rw [jj_rs_set (B := h) (L := [(49, (upd (h 49) (3) (-1)))]) (L2 := [(49, (upd (upd (h 49) (3) (-1)) (17) (nI (L.length))))]) (r := (upd (h 49) (3) (-1))) rfl rfl]
      refine jj_fl (fun h9 eh => ?_)
      have u0 : h9 49 0 = 0 ∧ h9 49 1 = 0 ∧ h9 49 3 = -1 ∧ h9 49 17 = nI L.length := by
        rw [eh]
        exact ⟨(jj_une (by decide)).trans ((jj_une (by decide)).trans t0), (jj_une (by decide)).trans ((jj_une (by decide)).trans t1), (jj_une (by decide)).trans (jj_ueq rfl), jj_ueq rfl⟩
      have u1 : ∀ x, ¬ x = 49 → h9 x = h x := fun x q => by rw [eh]; exact rs_ne q
      have u2 : ∀ i, fN i = false → ¬ i = 17 → h9 49 i = h0 49 i := fun i p q => by
        rw [eh]
        have q2 := fN_no p
        exact (jj_une q).trans ((jj_une (by omega)).trans (fr1.2 i p))
      clear eh
      show jj_R _ _ kc ks (jj_S, 782, h9, g) 110 [(0, .ref 49), (1, .int (nI N))] [] Q
      refine rr_aload_n 0 rfl rfl dX10_law_110 ?_
      refine rr_getR dX10_law_111 fX10_43 lo_49 sh_49 rfl ?_
      refine rr_aload_n 0 rfl rfl dX10_law_114 ?_
      refine rr_getR dX10_law_115 fX10_40 lo_49 sh_49 rfl ?_
      refine rr_aload_n 0 rfl rfl dX10_law_118 ?_
      refine rr_getI dX10_law_119 fX10_188 lo_49 sh_49 rfl ?_
      rw [show (h9 49) 17 = (nI (L.length)) from u0.2.2.2]
      refine rr_callS (As := [.ref 235, .ref 74, .int (nI (L.length))]) (rest := []) (kc2 := 0) (ks2 := 0) dX10_law_122 okX10_lays lX10_184 rfl (Nat.le_of_ble_eq_true rfl) (Nat.le_of_ble_eq_true rfl) rfl (by omega) (by simp [jj_rk]) (by simp [jj_rk]) ?_
      refine sp_X10_lays_law (q := L.length) rfl (by omega) ?_
      have la := layG_at (G := jj_gd h9 236 160) (a := jj_gd h9 75 160) (W := 2) L.length (by omega)
      show jj_R _ _ kc ks (jj_S, 782, jj_gs h9 75 160 (layG (jj_gd h9 236 160) 2 L.length (jj_gd h9 75 160)), g) 125 [(0, .ref 49), (1, .int (nI N))] [] Q
      refine rr_iconst 1 rfl dX10_law_125 ?_
      refine rr_ireturn dX10_law_126 rfl ?_
      refine k1 L _ (by unfold plaw; rw [pb_ok e1, if_pos q]) ⟨u0.1, u0.2.1, u0.2.2.1, u0.2.2.2, fun i z hi => ?_, fun x x49 xr xs => ?_, fun i p q => u2 i p q⟩
      · have hi2 := (List.getElem?_eq_some_iff.mp hi).1
        have e9 : jj_gs h9 75 160 (layG (jj_gd h9 236 160) 2 L.length (jj_gd h9 75 160)) (75 + i) = layG (jj_gd h9 236 160) 2 L.length (jj_gd h9 75 160) i := by
          have := jj_gs_at (B := h9) (b := 75) (len := 160) (G := layG (jj_gd h9 236 160) 2 L.length (jj_gd h9 75 160)) (L := []) (x := i) rfl (by omega)
          rw [jj_rs_nil] at this
          exact this
        rw [e9, la.1 i 0 hi2 (by decide), la.1 i 1 hi2 (by decide), ← jj_gd_at (by omega), u1 (236 + i) (by omega)]
        exact m6 i z hi
      · have e9 : jj_gs h9 75 160 (layG (jj_gd h9 236 160) 2 L.length (jj_gd h9 75 160)) x = h9 x := by
          unfold jj_gs
          rw [if_neg (by omega)]
        rw [e9, u1 x x49]
        exact fr1.1 x (pL_no xs) x49
    · skip
      have q : ¬ N ≤ b := fun z => c1 ((nI_leI (by omega) (by have := m.1.2.2.2.1; omega)).mpr z)
      refine rr_aload_n 0 rfl rfl dX10_law_76 ?_
      refine rr_iconst 1 rfl dX10_law_77 ?_
      refine rr_aload_n 0 rfl rfl dX10_law_78 ?_
      refine rr_getI dX10_law_79 fX10_104 lo_49 sh_49 rfl ?_
      rw [show (h 49) 4 = (nI b) from m.1.2.1]
      refine rr_callV (As := [.int 1, .int (nI b)]) (rest := []) (kc2 := 0) (ks2 := 0) dX10_law_82 okX10_wrong lX10_124 lo_49 sh_49 rfl rfl (Nat.le_of_ble_eq_true rfl) (Nat.le_of_ble_eq_true rfl) rfl (by omega) (by simp [jj_rk]) (by simp [jj_rk]) ?_
      refine ll_wrong (K := 1) lst_R m (by decide) (by decide) rfl rfl (fun h m => ?_)
      show jj_R _ _ kc ks (jj_S, 782, h, g) 85 [(0, .ref 49), (1, .int (nI N))] [] Q
      refine rr_aload_n 0 rfl rfl dX10_law_85 ?_
      refine rr_getI dX10_law_86 fX10_111 lo_49 sh_49 rfl ?_
      refine rr_if_eq dX10_law_89 (fun c => absurd c m.2.2.1) (fun _ => ?_)
      refine rr_aload_n 0 rfl rfl dX10_law_92 ?_
      refine rr_callV (As := []) (rest := []) (kc2 := 0) (ks2 := 0) dX10_law_93 okX10_ends lX10_181 lo_49 sh_49 rfl rfl (Nat.le_of_ble_eq_true rfl) (Nat.le_of_ble_eq_true rfl) rfl (by omega) (by simp [jj_rk]) (by simp [jj_rk]) ?_
      refine rl_ends (k := 1) (p := b) m.1 m.2.1 ?_
      show jj_R _ _ kc ks (jj_S, 782, jj_rs h [(49, upd (h 49) 3 (nI b))], g) 96 [(0, .ref 49), (1, .int (nI N))] [.int (nI 1 - 10)] Q
      refine rr_ireturn dX10_law_96 rfl ?_
      have fr1 := fr_tr fq (fr_mo (fun _ q => q) pL_N m.2.2.2.1)
      refine k2 1 b _ (by unfold plaw; rw [pb_ok e1, if_neg q]) ⟨(jj_une (by decide)).trans ((m.2.2.2.1.2 0 rfl).trans t0), (jj_une (by decide)).trans ((m.2.2.2.1.2 1 rfl).trans t1), jj_ueq rfl, fun x x49 xr => ?_, fun i p => ?_⟩
      · rw [rs_ne x49]; exact fr1.1 x (pL_no xr) x49
      · have q := fN_no p
        exact (jj_une (by omega)).trans (fr1.2 i p)
  · skip
    rw [spn_idem] at e1
    show jj_R _ _ kc ks (jj_S, 782, h, g) 54 [(0, .ref 49), (1, .int (nI N))] [] Q
    refine rr_aload_n 0 rfl rfl dX10_law_54 ?_
    refine rr_callV (As := []) (rest := []) (kc2 := 0) (ks2 := 0) dX10_law_55 okX10_blanks lX10_117 lo_49 sh_49 rfl rfl (Nat.le_of_ble_eq_true rfl) (Nat.le_of_ble_eq_true rfl) rfl (by omega) (by simp [jj_rk]) (by simp [jj_rk]) ?_
    refine ll_blanksE (lst_R (o := 0) (t := 0) (L := [])) (by omega) m (by omega) (fun h m => ?_)
    show jj_R _ _ kc ks (jj_S, 782, h, g) 58 [(0, .ref 49), (1, .int (nI N))] [] Q
    refine rr_aload_n 0 rfl rfl dX10_law_58 ?_
    refine rr_getI dX10_law_59 fX10_111 lo_49 sh_49 rfl ?_
    refine rr_if_ne dX10_law_62 (fun _ => ?_) (fun c => absurd c m.2.2.1)
    refine rr_aload_n 0 rfl rfl dX10_law_85 ?_
    refine rr_getI dX10_law_86 fX10_111 lo_49 sh_49 rfl ?_
    refine rr_if_eq dX10_law_89 (fun c => absurd c m.2.2.1) (fun _ => ?_)
    refine rr_aload_n 0 rfl rfl dX10_law_92 ?_
    refine rr_callV (As := []) (rest := []) (kc2 := 0) (ks2 := 0) dX10_law_93 okX10_ends lX10_181 lo_49 sh_49 rfl rfl (Nat.le_of_ble_eq_true rfl) (Nat.le_of_ble_eq_true rfl) rfl (by omega) (by simp [jj_rk]) (by simp [jj_rk]) ?_
    refine rl_ends (k := k) (p := p) m.1 m.2.1 ?_
    show jj_R _ _ kc ks (jj_S, 782, jj_rs h [(49, upd (h 49) 3 (nI p))], g) 96 [(0, .ref 49), (1, .int (nI N))] [.int (nI k - 10)] Q
    refine rr_ireturn dX10_law_96 rfl ?_
    have fr1 := fr_tr fq (fr_mo (fun _ q => q) pL_N m.2.2.2.1)
    refine k2 k p _ (by unfold plaw; rw [pb_er e1]) ⟨(jj_une (by decide)).trans ((m.2.2.2.1.2 0 rfl).trans t0), (jj_une (by decide)).trans ((m.2.2.2.1.2 1 rfl).trans t1), jj_ueq rfl, fun x x49 xr => ?_, fun i p => ?_⟩
    · rw [rs_ne x49]; exact fr1.1 x (pL_no xr) x49
    · have q := fN_no p
      exact (jj_une (by omega)).trans (fr1.2 i p)
