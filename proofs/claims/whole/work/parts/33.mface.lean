theorem jj_fo_inv {α : Type} {P : α → Prop} {f : Nat → α → α} {a : α} (h0 : P a) (hs : ∀ k x, P x → P (f k x)) : ∀ n, P (jj_fo f n a)
  | 0 => h0
  | n + 1 => hs n _ (jj_fo_inv h0 hs n)
theorem jj_une {f : Nat → Int32} {k j : Nat} {v : Int32} (h : ¬ j = k) : upd f k v j = f j := if_neg h
theorem jj_ueq {f : Nat → Int32} {k j : Nat} {v : Int32} (h : j = k) : upd f k v j = v := if_pos h
theorem dr_17 {r : Nat → Int32} {q : Nat} : rX10_draw_49 r q 17 = r 17 := by
  unfold rX10_draw_49
  exact jj_une (by decide)
theorem wb_2 {r8 r73 : Nat → Int32} {g64 : Nat → Nat → Int32} {n m k : Nat} {v : Int32} {x : (Nat → Int32) × (Nat → Int32)} : (fX10_weekBy_2 r8 r73 g64 n m v k x).1 = rX10_draw_49 (rX10_draw_49 (rX10_draw_49 x.1 n) n) 16 := by
  unfold fX10_weekBy_2
  generalize rX10_draw_49 (rX10_draw_49 (rX10_draw_49 x.1 n) n) 16 = z
  split <;> rfl
theorem wb_1 {r8 r73 : Nat → Int32} {g64 : Nat → Nat → Int32} {n m k : Nat} {v : Int32} {x : (Nat → Int32) × (Nat → Int32)} : (fX10_weekBy_1 r8 r73 g64 n m v k x).1 = (jj_fo (fX10_weekBy_2 r8 r73 g64 n m v) n (x.1, x.2)).1 := rfl
theorem wb_17 {r8 r49 r73 r497 r498 : Nat → Int32} {g64 : Nat → Nat → Int32} {n m q : Nat} {s v : Int32} : rX10_weekBy_49 r8 r49 r73 r497 r498 g64 n m s q v 17 = r49 17 := by
  have h2 : ∀ (j : Nat) (y : (Nat → Int32) × (Nat → Int32)), (jj_fo (fX10_weekBy_2 r8 r73 g64 n m v) j y).1 17 = y.1 17 := by
    intro j y
    induction j with
    | zero => rfl
    | succ j ih =>
      have e : jj_fo (fX10_weekBy_2 r8 r73 g64 n m v) (j + 1) y = fX10_weekBy_2 r8 r73 g64 n m v j (jj_fo (fX10_weekBy_2 r8 r73 g64 n m v) j y) := by rw [jj_fo]
      rw [e, wb_2, dr_17, dr_17, dr_17]
      exact ih
  have h1 : ∀ (j : Nat) (y : (Nat → Int32) × (Nat → Int32)), (jj_fo (fX10_weekBy_1 r8 r73 g64 n m v) j y).1 17 = y.1 17 := by
    intro j y
    induction j with
    | zero => rfl
    | succ j ih =>
      have e : jj_fo (fX10_weekBy_1 r8 r73 g64 n m v) (j + 1) y = fX10_weekBy_1 r8 r73 g64 n m v j (jj_fo (fX10_weekBy_1 r8 r73 g64 n m v) j y) := by rw [jj_fo]
      rw [e, wb_1, h2]
      exact ih
  unfold rX10_weekBy_49
  rw [h1]
  show upd r49 45 s 17 = r49 17
  exact jj_une (by decide)
/-- the rows that a copy gives -/
theorem cp_at {r497 r498 : Nat → Int32} {j : Nat} (hj : j < 35) : rX10_copies_nt_498 r497 r498 j = r497 j := by
  unfold rX10_copies_nt_498
  have key : ∀ k, j < k → (jj_fo (fX10_copies_nt_1 r497) k r498) j = r497 j := by
    intro k
    induction k with
    | zero => exact fun h => absurd h (Nat.not_lt_zero j)
    | succ k ih =>
      intro h
      show upd (jj_fo (fX10_copies_nt_1 r497) k r498) k (r497 k) j = r497 j
      by_cases e : j = k
      · rw [e]; simp [upd]
      · simp only [upd, if_neg e]; exact ih (by omega)
  exact key 35 hj
/-- days that a row of the reference may hold -/
def dayok (r : Nat → Int32) : Prop := (∀ j, j < 8 → vp_in (r j) 1000) ∧ vp_in (r 33) 1000
theorem jj_rc {o P : Nat} (hP : P < 8) (ho : o ≤ 24) : ((OfNat.ofNat o : Int32) + nI P).toNatClampNeg = o + P := by
  rw [jj_lit, nI_add, nI_clamp (by omega)]
theorem tie_day {r8 r73 r498 : Nat → Int32} {g64 : Nat → Nat → Int32} {m : Nat} {a b tw : Int32} (hd : dayok r498) (ha : vp_in a 8) (hb : vp_in b 8) : dayok (rX10_ties_t_498 r8 r73 r498 g64 m a b tw) := by
  obtain ⟨A, hA, rfl⟩ := vp_in_of ha (by decide)
  obtain ⟨B, hB, rfl⟩ := vp_in_of hb (by decide)
  unfold rX10_ties_t_498
  have e8 := jj_rc (o := 8) hB (by decide)
  have e24 := jj_rc (o := 24) hB (by decide)
  have e16 := jj_rc (o := 16) hB (by decide)
  have e0 := jj_rc (o := 0) hB (by decide)
  have e0a := jj_rc (o := 0) hA (by decide)
  simp only [e8, e24, e16, e0, e0a]
  have n1 : ∀ {r : Nat → Int32} {k : Nat} {x : Int32}, dayok r → 8 ≤ k → ¬ k = 33 → dayok (upd r k x) := by
    intro r k x h h1 h2
    refine ⟨fun j hj => ?_, ?_⟩
    · rw [show upd r k x j = r j from if_neg (by omega)]; exact h.1 j hj
    · rw [show upd r k x 33 = r 33 from if_neg (by omega)]; exact h.2
  have n2 : ∀ {r : Nat → Int32} {k : Nat} {x : Int32}, dayok r → k < 8 → vp_in x 1000 → dayok (upd r k x) := by
    intro r k x h h1 h2
    refine ⟨fun j hj => ?_, ?_⟩
    · by_cases e : j = k
      · rw [show upd r k x j = x from if_pos e]; exact h2
      · rw [show upd r k x j = r j from if_neg e]; exact h.1 j hj
    · rw [show upd r k x 33 = r 33 from if_neg (by omega)]; exact h.2
  have hu := n1 (x := (1 : Int32) + tw) (k := 8 + B) hd (by omega) (by omega)
  have hv := n1 (x := nI A) (k := 24 + B) hu (by omega) (by omega)
  split
  · exact hd
  · split
    · exact hd
    · split
      · split
        · exact n1 (n2 hv (by omega) hv.2) (by omega) (by omega)
        · exact n1 (n2 hv (by omega) (hv.1 _ (by omega))) (by omega) (by omega)
      · exact n1 hd (by omega) (by omega)
theorem cp_day {r497 r498 : Nat → Int32} (hd : dayok r497) : dayok (rX10_copies_nt_498 r497 r498) :=
  ⟨fun j hj => by rw [cp_at (by omega)]; exact hd.1 j hj, by rw [cp_at (by omega)]; exact hd.2⟩
theorem ln_to {g k : Nat → Nat → Int32} {nl : Nat} (e : k = g) (h : ∀ j, j < nl → vp_in (g j 0) 8) : ∀ j, j < nl → vp_in (k j 0) 8 := by subst e; exact h
theorem dy_to {r s : Nat → Int32} (e : s = r) (h : dayok r) : dayok s := by subst e; exact h
theorem jj_room {t : Nat} (ht : t ≤ 600) (c : nI t + 20 ≤ 600) : t + 20 ≤ 600 := by
  rw [show (20 : Int32) = nI 20 from rfl, nI_add, show (600 : Int32) = nI 600 from rfl, nI_leI (by omega) (by decide)] at c
  exact c
theorem jj_fd {r : Nat → Int32} {t k : Nat} (hi : r 1 = nI (t + k)) (h : t + k < 600) : vp_in (r 1) 600 := by
  rw [hi]; exact vp_in_nI h (by decide)
theorem jj_fd1 {r : Nat → Int32} {t k : Nat} (hi : r 1 = nI (t + k)) : r 1 + 1 = nI (t + (k + 1)) := by
  rw [hi, nI_1, Nat.add_assoc]
def fX10_span_1 (r8 : Nat → Int32) (r73 : Nat → Int32) (r497 : Nat → Int32) (g64 : Nat → Nat → Int32) (n : Nat) (m : Nat) (s : Int32) (q : Int32) (v : Int32) (p : Int32) (k1 : Nat) (a1 : Int32 × Int32 × Int32 × (Nat → Int32) × (Nat → Int32)) : Int32 × Int32 × Int32 × (Nat → Int32) × (Nat → Int32) := (if a1.1 = (-1) then (if (vX10_behind_t (rX10_weekBy_498 r8 a1.2.2.2.1 r73 r497 a1.2.2.2.2 g64 n m (s + (nI k1)) ((q : Int32).toNatClampNeg) v) p) = 0 then ((vX10_lateness_t (rX10_weekBy_498 r8 a1.2.2.2.1 r73 r497 a1.2.2.2.2 g64 n m (s + (nI k1)) ((q : Int32).toNatClampNeg) v) n), (vX10_more a1.2.1 (vX10_lateness_t (rX10_weekBy_498 r8 a1.2.2.2.1 r73 r497 a1.2.2.2.2 g64 n m (s + (nI k1)) ((q : Int32).toNatClampNeg) v) n)), (a1.2.2.1 + 1), (rX10_weekBy_49 r8 a1.2.2.2.1 r73 r497 a1.2.2.2.2 g64 n m (s + (nI k1)) ((q : Int32).toNatClampNeg) v), (rX10_weekBy_498 r8 a1.2.2.2.1 r73 r497 a1.2.2.2.2 g64 n m (s + (nI k1)) ((q : Int32).toNatClampNeg) v)) else ((vX10_lateness_t (rX10_weekBy_498 r8 a1.2.2.2.1 r73 r497 a1.2.2.2.2 g64 n m (s + (nI k1)) ((q : Int32).toNatClampNeg) v) n), (vX10_more a1.2.1 (vX10_lateness_t (rX10_weekBy_498 r8 a1.2.2.2.1 r73 r497 a1.2.2.2.2 g64 n m (s + (nI k1)) ((q : Int32).toNatClampNeg) v) n)), (a1.2.2.1 + 0), (rX10_weekBy_49 r8 a1.2.2.2.1 r73 r497 a1.2.2.2.2 g64 n m (s + (nI k1)) ((q : Int32).toNatClampNeg) v), (rX10_weekBy_498 r8 a1.2.2.2.1 r73 r497 a1.2.2.2.2 g64 n m (s + (nI k1)) ((q : Int32).toNatClampNeg) v))) else (if (vX10_behind_t (rX10_weekBy_498 r8 a1.2.2.2.1 r73 r497 a1.2.2.2.2 g64 n m (s + (nI k1)) ((q : Int32).toNatClampNeg) v) p) = 0 then ((vX10_less a1.1 (vX10_lateness_t (rX10_weekBy_498 r8 a1.2.2.2.1 r73 r497 a1.2.2.2.2 g64 n m (s + (nI k1)) ((q : Int32).toNatClampNeg) v) n)), (vX10_more a1.2.1 (vX10_lateness_t (rX10_weekBy_498 r8 a1.2.2.2.1 r73 r497 a1.2.2.2.2 g64 n m (s + (nI k1)) ((q : Int32).toNatClampNeg) v) n)), (a1.2.2.1 + 1), (rX10_weekBy_49 r8 a1.2.2.2.1 r73 r497 a1.2.2.2.2 g64 n m (s + (nI k1)) ((q : Int32).toNatClampNeg) v), (rX10_weekBy_498 r8 a1.2.2.2.1 r73 r497 a1.2.2.2.2 g64 n m (s + (nI k1)) ((q : Int32).toNatClampNeg) v)) else ((vX10_less a1.1 (vX10_lateness_t (rX10_weekBy_498 r8 a1.2.2.2.1 r73 r497 a1.2.2.2.2 g64 n m (s + (nI k1)) ((q : Int32).toNatClampNeg) v) n)), (vX10_more a1.2.1 (vX10_lateness_t (rX10_weekBy_498 r8 a1.2.2.2.1 r73 r497 a1.2.2.2.2 g64 n m (s + (nI k1)) ((q : Int32).toNatClampNeg) v) n)), (a1.2.2.1 + 0), (rX10_weekBy_49 r8 a1.2.2.2.1 r73 r497 a1.2.2.2.2 g64 n m (s + (nI k1)) ((q : Int32).toNatClampNeg) v), (rX10_weekBy_498 r8 a1.2.2.2.1 r73 r497 a1.2.2.2.2 g64 n m (s + (nI k1)) ((q : Int32).toNatClampNeg) v))))
def vX10_span (r8 : Nat → Int32) (r49 : Nat → Int32) (r51 : Nat → Int32) (r73 : Nat → Int32) (r497 : Nat → Int32) (r498 : Nat → Int32) (g64 : Nat → Nat → Int32) (n : Nat) (m : Nat) (s : Int32) (y : Int32) (q : Int32) (v : Int32) (w : Int32) (p : Int32) : Int32 := (if (vX10_in y 1 20) = 0 then 0 else (if (vX10_isWeek q v) = 0 then 0 else (if (vX10_in w 0 2) = 0 then 0 else (if (vX10_isPerson n p) = 0 then 0 else (if w = 0 then (jj_fo (fX10_span_1 r8 r73 r497 g64 n m s q v p) (y : Int32).toNatClampNeg ((-1), 0, 0, (upd r49 (0) 0), r498)).1 else (if w = 1 then (jj_fo (fX10_span_1 r8 r73 r497 g64 n m s q v p) (y : Int32).toNatClampNeg ((-1), 0, 0, (upd r49 (0) 0), r498)).2.1 else (jj_fo (fX10_span_1 r8 r73 r497 g64 n m s q v p) (y : Int32).toNatClampNeg ((-1), 0, 0, (upd r49 (0) 0), r498)).2.2.1))))))
def rX10_span_49 (r8 : Nat → Int32) (r49 : Nat → Int32) (r51 : Nat → Int32) (r73 : Nat → Int32) (r497 : Nat → Int32) (r498 : Nat → Int32) (g64 : Nat → Nat → Int32) (n : Nat) (m : Nat) (s : Int32) (y : Int32) (q : Int32) (v : Int32) (w : Int32) (p : Int32) : Nat → Int32 := (if (vX10_in y 1 20) = 0 then (upd (upd r49 (0) 0) (0) 1) else (if (vX10_isWeek q v) = 0 then (upd (upd r49 (0) 0) (0) 1) else (if (vX10_in w 0 2) = 0 then (upd (upd r49 (0) 0) (0) 1) else (if (vX10_isPerson n p) = 0 then (upd (upd r49 (0) 0) (0) 1) else (jj_fo (fX10_span_1 r8 r73 r497 g64 n m s q v p) (y : Int32).toNatClampNeg ((-1), 0, 0, (upd r49 (0) 0), r498)).2.2.2.1))))
def rX10_span_51 (r8 : Nat → Int32) (r49 : Nat → Int32) (r51 : Nat → Int32) (r73 : Nat → Int32) (r497 : Nat → Int32) (r498 : Nat → Int32) (g64 : Nat → Nat → Int32) (n : Nat) (m : Nat) (s : Int32) (y : Int32) (q : Int32) (v : Int32) (w : Int32) (p : Int32) : Nat → Int32 := (if (vX10_in y 1 20) = 0 then (upd r51 (1) ((r51 1) + 1)) else (if (vX10_isWeek q v) = 0 then (upd r51 (1) ((r51 1) + 1)) else (if (vX10_in w 0 2) = 0 then (upd r51 (1) ((r51 1) + 1)) else (if (vX10_isPerson n p) = 0 then (upd r51 (1) ((r51 1) + 1)) else r51))))
def rX10_span_498 (r8 : Nat → Int32) (r49 : Nat → Int32) (r51 : Nat → Int32) (r73 : Nat → Int32) (r497 : Nat → Int32) (r498 : Nat → Int32) (g64 : Nat → Nat → Int32) (n : Nat) (m : Nat) (s : Int32) (y : Int32) (q : Int32) (v : Int32) (w : Int32) (p : Int32) : Nat → Int32 := (if (vX10_in y 1 20) = 0 then r498 else (if (vX10_isWeek q v) = 0 then r498 else (if (vX10_in w 0 2) = 0 then r498 else (if (vX10_isPerson n p) = 0 then r498 else (jj_fo (fX10_span_1 r8 r73 r497 g64 n m s q v p) (y : Int32).toNatClampNeg ((-1), 0, 0, (upd r49 (0) 0), r498)).2.2.2.2))))
set_option maxHeartbeats 1000000 in
theorem sp_X10_span {d kc ks : Nat} {h : Nat → Nat → Int32} {g : Nat → Nat → Int64} {Q : jj_Rs → jj_St → Prop} {n : Nat} {m : Nat} {s : Int32} {y : Int32} {q : Int32} {v : Int32} {w : Int32} {p : Int32} (hT : h 53 0 = nI n) (hn : n ≤ 8) (hM : h 49 17 = nI m) (hm2 : m ≤ 150) (hw : lawok (h 8) (jj_gd h 75 160) m) (kq : ∀ h9, jj_eq [414, 415] h h9 → Q (.inl (some (.int (vX10_span (h 8) (h 49) (h 51) (h 73) (h 497) (h 498) (jj_gd h 64 8) n m s y q v w p)))) (jj_S, 782, (jj_rs h9 [(49, (rX10_span_49 (h 8) (h 49) (h 51) (h 73) (h 497) (h 498) (jj_gd h 64 8) n m s y q v w p)), (51, (rX10_span_51 (h 8) (h 49) (h 51) (h 73) (h 497) (h 498) (jj_gd h 64 8) n m s y q v w p)), (498, (rX10_span_498 (h 8) (h 49) (h 51) (h 73) (h 497) (h 498) (jj_gd h 64 8) n m s y q v w p))]), g)) : jj_R mX10_span (d + 7) kc ks (jj_S, 782, h, g) 0 [(0, .ref 49), (1, .int s), (2, .int y), (3, .int q), (4, .int v), (5, .int w), (6, .int p)] [] Q := by
  refine rr_aload_n 0 rfl rfl dX10_span_0 ?_
  refine rr_iconst 0 rfl dX10_span_1 ?_
  refine rr_putI dX10_span_2 fX10_95 ni10_0 lo_49 sh_49 rfl ?_
  rw [jj_rs_set0 (B := h) (o := 49) (r := (h 49)) rfl]
  refine rr_aload_n 0 rfl rfl dX10_span_5 ?_
  refine rr_iload_n 2 rfl rfl dX10_span_6 ?_
  refine rr_iconst 1 rfl dX10_span_7 ?_
  refine rr_bipush 20 rfl dX10_span_8 ?_
  refine rr_callS (As := [.int y, .int 1, .int 20]) (rest := [.ref 49]) (kc2 := 0) (ks2 := 0) dX10_span_10 okX10_in lX10_129 rfl (Nat.le_of_ble_eq_true rfl) (Nat.le_of_ble_eq_true rfl) rfl (by omega) (by simp [jj_rk]) (by simp [jj_rk]) ?_
  refine sp_X10_in  ?_
  show jj_R _ _ kc ks (jj_S, 782, (jj_rs h [(49, (upd (h 49) (0) 0))]), g) 13 [(0, .ref 49), (1, .int s), (2, .int y), (3, .int q), (4, .int v), (5, .int w), (6, .int p)] [.int (vX10_in y 1 20), .ref 49] Q
  refine rr_if_eq dX10_span_13 (fun c1 => ?_) (fun c1 => ?_)
  · skip
    refine rr_iconst 1 rfl dX10_span_44 ?_
    refine rr_goto dX10_span_45 ?_
    refine rr_iconst 1 rfl dX10_span_49 ?_
    refine rr_iconst 1 rfl dX10_span_50 ?_
    refine rr_callV (As := [.int 1, .int 1, .int 1]) (rest := []) (kc2 := 0) (ks2 := 0) dX10_span_51 okX10_bad lX10_171 lo_49 sh_49 rfl rfl (Nat.le_of_ble_eq_true rfl) (Nat.le_of_ble_eq_true rfl) rfl (by omega) (by simp [jj_rk]) (by simp [jj_rk]) ?_
    refine sp_X10_bad1_11 rfl ?_
    show jj_R _ _ kc ks (jj_S, 782, (jj_rs (jj_rs h [(49, (upd (h 49) (0) 0))]) [(49, (upd (upd (h 49) (0) 0) (0) 1)), (51, (upd (h 51) (1) (((h 51) 1) + 1)))]), g) 54 [(0, .ref 49), (1, .int s), (2, .int y), (3, .int q), (4, .int v), (5, .int w), (6, .int p)] [.int 1] Q
    rw [jj_rs_rs (B := h) (L := [(49, (upd (h 49) (0) 0))]) (M := [(49, (upd (upd (h 49) (0) 0) (0) 1)), (51, (upd (h 51) (1) (((h 51) 1) + 1)))]) (L2 := [(49, (upd (upd (h 49) (0) 0) (0) 1)), (51, (upd (h 51) (1) (((h 51) 1) + 1)))]) rfl]
    refine rr_if_eq dX10_span_54 (fun c => absurd c (by decide)) (fun _ => ?_)
    refine rr_iconst 0 rfl dX10_span_57 ?_
    refine rr_ireturn dX10_span_58 rfl ?_
    refine jj_Qh (jj_rs_add (B := h) (L := [(49, (upd (upd (h 49) (0) 0) (0) 1)), (51, (upd (h 51) (1) (((h 51) 1) + 1)))]) (L2 := [(49, (upd (upd (h 49) (0) 0) (0) 1)), (51, (upd (h 51) (1) (((h 51) 1) + 1))), (498, (h 498))]) (o := 498) (r := (h 498)) rfl rfl) ?_
    first | simpa only [vX10_span, rX10_span_49, rX10_span_51, rX10_span_498, if_pos c1, nI_clamp (show N < 2 ^ 31 by omega)] using kq h jj_eq.rf | simpa only [vX10_span, rX10_span_49, rX10_span_51, rX10_span_498, if_pos c1] using kq h jj_eq.rf
  · skip
    refine rr_iload_n 3 rfl rfl dX10_span_16 ?_
    refine rr_iload 4 rfl dX10_span_17 ?_
    refine rr_callS (As := [.int q, .int v]) (rest := [.ref 49]) (kc2 := 0) (ks2 := 0) dX10_span_19 okX10_isWeek lX10_379 rfl (Nat.le_of_ble_eq_true rfl) (Nat.le_of_ble_eq_true rfl) rfl (by omega) (by simp [jj_rk]) (by simp [jj_rk]) ?_
    refine sp_X10_isWeek  ?_
    show jj_R _ _ kc ks (jj_S, 782, (jj_rs h [(49, (upd (h 49) (0) 0))]), g) 22 [(0, .ref 49), (1, .int s), (2, .int y), (3, .int q), (4, .int v), (5, .int w), (6, .int p)] [.int (vX10_isWeek q v), .ref 49] Q
    refine rr_if_eq dX10_span_22 (fun c2 => ?_) (fun c2 => ?_)
    · skip
      refine rr_iconst 1 rfl dX10_span_44 ?_
      refine rr_goto dX10_span_45 ?_
      refine rr_iconst 1 rfl dX10_span_49 ?_
      refine rr_iconst 1 rfl dX10_span_50 ?_
      refine rr_callV (As := [.int 1, .int 1, .int 1]) (rest := []) (kc2 := 0) (ks2 := 0) dX10_span_51 okX10_bad lX10_171 lo_49 sh_49 rfl rfl (Nat.le_of_ble_eq_true rfl) (Nat.le_of_ble_eq_true rfl) rfl (by omega) (by simp [jj_rk]) (by simp [jj_rk]) ?_
      refine sp_X10_bad1_11 rfl ?_
      show jj_R _ _ kc ks (jj_S, 782, (jj_rs (jj_rs h [(49, (upd (h 49) (0) 0))]) [(49, (upd (upd (h 49) (0) 0) (0) 1)), (51, (upd (h 51) (1) (((h 51) 1) + 1)))]), g) 54 [(0, .ref 49), (1, .int s), (2, .int y), (3, .int q), (4, .int v), (5, .int w), (6, .int p)] [.int 1] Q
      rw [jj_rs_rs (B := h) (L := [(49, (upd (h 49) (0) 0))]) (M := [(49, (upd (upd (h 49) (0) 0) (0) 1)), (51, (upd (h 51) (1) (((h 51) 1) + 1)))]) (L2 := [(49, (upd (upd (h 49) (0) 0) (0) 1)), (51, (upd (h 51) (1) (((h 51) 1) + 1)))]) rfl]
      refine rr_if_eq dX10_span_54 (fun c => absurd c (by decide)) (fun _ => ?_)
      refine rr_iconst 0 rfl dX10_span_57 ?_
      refine rr_ireturn dX10_span_58 rfl ?_
      refine jj_Qh (jj_rs_add (B := h) (L := [(49, (upd (upd (h 49) (0) 0) (0) 1)), (51, (upd (h 51) (1) (((h 51) 1) + 1)))]) (L2 := [(49, (upd (upd (h 49) (0) 0) (0) 1)), (51, (upd (h 51) (1) (((h 51) 1) + 1))), (498, (h 498))]) (o := 498) (r := (h 498)) rfl rfl) ?_
      first | simpa only [vX10_span, rX10_span_49, rX10_span_51, rX10_span_498, if_neg c1, if_pos c2, nI_clamp (show N < 2 ^ 31 by omega)] using kq h jj_eq.rf | simpa only [vX10_span, rX10_span_49, rX10_span_51, rX10_span_498, if_neg c1, if_pos c2] using kq h jj_eq.rf
    · skip
      refine rr_iload 5 rfl dX10_span_25 ?_
      refine rr_iconst 0 rfl dX10_span_27 ?_
      refine rr_iconst 2 rfl dX10_span_28 ?_
      refine rr_callS (As := [.int w, .int 0, .int 2]) (rest := [.ref 49]) (kc2 := 0) (ks2 := 0) dX10_span_29 okX10_in lX10_129 rfl (Nat.le_of_ble_eq_true rfl) (Nat.le_of_ble_eq_true rfl) rfl (by omega) (by simp [jj_rk]) (by simp [jj_rk]) ?_
      refine sp_X10_in  ?_
      show jj_R _ _ kc ks (jj_S, 782, (jj_rs h [(49, (upd (h 49) (0) 0))]), g) 32 [(0, .ref 49), (1, .int s), (2, .int y), (3, .int q), (4, .int v), (5, .int w), (6, .int p)] [.int (vX10_in w 0 2), .ref 49] Q
      refine rr_if_eq dX10_span_32 (fun c3 => ?_) (fun c3 => ?_)
      · skip
        refine rr_iconst 1 rfl dX10_span_44 ?_
        refine rr_goto dX10_span_45 ?_
        refine rr_iconst 1 rfl dX10_span_49 ?_
        refine rr_iconst 1 rfl dX10_span_50 ?_
        refine rr_callV (As := [.int 1, .int 1, .int 1]) (rest := []) (kc2 := 0) (ks2 := 0) dX10_span_51 okX10_bad lX10_171 lo_49 sh_49 rfl rfl (Nat.le_of_ble_eq_true rfl) (Nat.le_of_ble_eq_true rfl) rfl (by omega) (by simp [jj_rk]) (by simp [jj_rk]) ?_
        refine sp_X10_bad1_11 rfl ?_
        show jj_R _ _ kc ks (jj_S, 782, (jj_rs (jj_rs h [(49, (upd (h 49) (0) 0))]) [(49, (upd (upd (h 49) (0) 0) (0) 1)), (51, (upd (h 51) (1) (((h 51) 1) + 1)))]), g) 54 [(0, .ref 49), (1, .int s), (2, .int y), (3, .int q), (4, .int v), (5, .int w), (6, .int p)] [.int 1] Q
        rw [jj_rs_rs (B := h) (L := [(49, (upd (h 49) (0) 0))]) (M := [(49, (upd (upd (h 49) (0) 0) (0) 1)), (51, (upd (h 51) (1) (((h 51) 1) + 1)))]) (L2 := [(49, (upd (upd (h 49) (0) 0) (0) 1)), (51, (upd (h 51) (1) (((h 51) 1) + 1)))]) rfl]
        refine rr_if_eq dX10_span_54 (fun c => absurd c (by decide)) (fun _ => ?_)
        refine rr_iconst 0 rfl dX10_span_57 ?_
        refine rr_ireturn dX10_span_58 rfl ?_
        refine jj_Qh (jj_rs_add (B := h) (L := [(49, (upd (upd (h 49) (0) 0) (0) 1)), (51, (upd (h 51) (1) (((h 51) 1) + 1)))]) (L2 := [(49, (upd (upd (h 49) (0) 0) (0) 1)), (51, (upd (h 51) (1) (((h 51) 1) + 1))), (498, (h 498))]) (o := 498) (r := (h 498)) rfl rfl) ?_
        first | simpa only [vX10_span, rX10_span_49, rX10_span_51, rX10_span_498, if_neg c1, if_neg c2, if_pos c3, nI_clamp (show N < 2 ^ 31 by omega)] using kq h jj_eq.rf | simpa only [vX10_span, rX10_span_49, rX10_span_51, rX10_span_498, if_neg c1, if_neg c2, if_pos c3] using kq h jj_eq.rf
      · skip
        refine rr_aload_n 0 rfl rfl dX10_span_35 ?_
        refine rr_iload 6 rfl dX10_span_36 ?_
        refine rr_callV (As := [.int p]) (rest := [.ref 49]) (kc2 := 0) (ks2 := 0) dX10_span_38 okX10_isPerson lX10_321 lo_49 sh_49 rfl rfl (Nat.le_of_ble_eq_true rfl) (Nat.le_of_ble_eq_true rfl) rfl (by omega) (by simp [jj_rk]) (by simp [jj_rk]) ?_
        refine sp_X10_isPerson (by first | exact hT | exact (congrFun (jj_eq.rf 53 (by decide)) 0).trans hT) hn ?_
        show jj_R _ _ kc ks (jj_S, 782, (jj_rs h [(49, (upd (h 49) (0) 0))]), g) 41 [(0, .ref 49), (1, .int s), (2, .int y), (3, .int q), (4, .int v), (5, .int w), (6, .int p)] [.int (vX10_isPerson n p), .ref 49] Q
        refine rr_if_ne dX10_span_41 (fun c4 => ?_) (fun c4 => ?_)
        · skip
          refine rr_iconst 0 rfl dX10_span_48 ?_
          refine rr_iconst 1 rfl dX10_span_49 ?_
          refine rr_iconst 1 rfl dX10_span_50 ?_
          refine rr_callV (As := [.int 0, .int 1, .int 1]) (rest := []) (kc2 := 0) (ks2 := 0) dX10_span_51 okX10_bad lX10_171 lo_49 sh_49 rfl rfl (Nat.le_of_ble_eq_true rfl) (Nat.le_of_ble_eq_true rfl) rfl (by omega) (by simp [jj_rk]) (by simp [jj_rk]) ?_
          refine sp_X10_bad0_11 rfl ?_
          show jj_R _ _ kc ks (jj_S, 782, (jj_rs h [(49, (upd (h 49) (0) 0))]), g) 54 [(0, .ref 49), (1, .int s), (2, .int y), (3, .int q), (4, .int v), (5, .int w), (6, .int p)] [.int 0] Q
          refine rr_if_eq dX10_span_54 (fun _ => ?_) (fun c => absurd (by decide) c)
          refine rr_iconst (-1) rfl dX10_span_59 ?_
          refine rr_istore [(0, .ref 49), (1, .int s), (2, .int y), (3, .int q), (4, .int v), (5, .int w), (6, .int p), (7, .int (-1))] dX10_span_60 (by decide) rfl ?_
          refine rr_iconst 0 rfl dX10_span_62 ?_
          refine rr_istore [(0, .ref 49), (1, .int s), (2, .int y), (3, .int q), (4, .int v), (5, .int w), (6, .int p), (7, .int (-1)), (8, .int 0)] dX10_span_63 (by decide) rfl ?_
          refine rr_iconst 0 rfl dX10_span_65 ?_
          refine rr_istore [(0, .ref 49), (1, .int s), (2, .int y), (3, .int q), (4, .int v), (5, .int w), (6, .int p), (7, .int (-1)), (8, .int 0), (9, .int 0)] dX10_span_66 (by decide) rfl ?_
          obtain ⟨N, hN, rfl⟩ := jj_inN1 (x := y) (b := 20) (by decide) (by assumption)
          refine rr_iconst 0 rfl dX10_span_68 ?_
          refine rr_istore [(0, .ref 49), (1, .int s), (2, .int (nI N)), (3, .int q), (4, .int v), (5, .int w), (6, .int p), (7, .int (-1)), (8, .int 0), (9, .int 0), (10, .int 0)] dX10_span_69 (by decide) rfl ?_
          refine jj_Rh (jj_rs_add (B := h) (L := [(49, (upd (h 49) (0) 0))]) (L2 := [(49, (upd (h 49) (0) 0)), (498, (h 498))]) (o := 498) (r := (h 498)) rfl rfl) ?_
          refine jj_for (fun k1 (a1 : Int32 × Int32 × Int32 × (Nat → Int32) × (Nat → Int32)) => (a1.2.2.2.1 17 = nI m) → ∀ hc1, jj_eq [414, 415] h hc1 → jj_R _ _ kc ks (jj_S, 782, (jj_rs hc1 [(49, a1.2.2.2.1), (498, a1.2.2.2.2)]), g) 71 [(0, .ref 49), (1, .int s), (2, .int (nI N)), (3, .int q), (4, .int v), (5, .int w), (6, .int p), (7, .int a1.1), (8, .int a1.2.1), (9, .int a1.2.2.1), (10, .int (nI k1))] [] Q) (fX10_span_1 (h 8) (h 73) (h 497) (jj_gd h 64 8) n m s q v p) N ((-1), 0, 0, (upd (h 49) (0) 0), (h 498)) ?_ ?_ hM h jj_eq.rf
          · intro k1 hk1 ih1
            generalize jj_fo _ k1 _ = a1 at ih1 ⊢
            try dsimp only at ih1 ⊢
            intro hi1 hc1 ec1
            refine rr_iload 10 rfl dX10_span_71 ?_
            refine rr_iload_n 2 rfl rfl dX10_span_73 ?_
            refine rr_icmp_ge dX10_span_74 (fun c => absurd c (nI_ge (a := k1) (b := N) (by omega) (by omega))) (fun _ => ?_)
            refine rr_aload_n 0 rfl rfl dX10_span_77 ?_
            refine rr_iload_n 1 rfl rfl dX10_span_78 ?_
            refine rr_iload 10 rfl dX10_span_79 ?_
            refine rr_iadd dX10_span_81 ?_
            refine rr_iload_n 3 rfl rfl dX10_span_82 ?_
            refine rr_iload 4 rfl dX10_span_83 ?_
            refine rr_callV (As := [.int (s + (nI k1)), .int q, .int v]) (rest := []) (kc2 := 0) (ks2 := 0) dX10_span_85 okX10_weekBy lX10_382 lo_49 sh_49 rfl rfl (Nat.le_of_ble_eq_true rfl) (Nat.le_of_ble_eq_true rfl) rfl (by omega) (by simp [jj_rk]) (by simp [jj_rk]) ?_
            refine sp_X10_weekBy (q := (q : Int32).toNatClampNeg) (jj_nIc (by first | assumption | exact (jj_wk (by assumption)).1 | exact jj_and0 (by omega) | exact (jj_bt hn (by assumption)).1 | exact (jj_wkM (by assumption)).1)) (by first | exact hT | exact (congrFun (ec1 53 (by decide)) 0).trans hT) hn (by first | exact hM | exact (congrFun (ec1 49 (by decide)) 17).trans hM | assumption) hm2 (lw_to ((jj_gd_rs (B := hc1) (L := [(49, a1.2.2.2.1), (498, a1.2.2.2.2)]) (b := 75) (len := 160) rfl).trans (jj_gd_eq (b := 75) (len := 160) ec1 rfl)) (show (jj_rs hc1 [(49, a1.2.2.2.1), (498, a1.2.2.2.2)]) 8 = h 8 from ec1 8 (by decide)) hw) (jj_nle (b := 96) (by decide) (jj_wkM (by assumption)).2) (fun h5 e6 => ?_)
            obtain ⟨h8, e7, rfl⟩ := jj_lo (X := [414, 415]) ec1 e6 (by decide) (by simp [List.lookup])
            show jj_R _ _ kc ks (jj_S, 782, (jj_rs (jj_rs h8 [(49, a1.2.2.2.1), (498, a1.2.2.2.2)]) [(49, (rX10_weekBy_49 (hc1 8) a1.2.2.2.1 (hc1 73) (hc1 497) a1.2.2.2.2 (jj_gd (jj_rs hc1 [(49, a1.2.2.2.1), (498, a1.2.2.2.2)]) 64 8) n m (s + (nI k1)) ((q : Int32).toNatClampNeg) v)), (498, (rX10_weekBy_498 (hc1 8) a1.2.2.2.1 (hc1 73) (hc1 497) a1.2.2.2.2 (jj_gd (jj_rs hc1 [(49, a1.2.2.2.1), (498, a1.2.2.2.2)]) 64 8) n m (s + (nI k1)) ((q : Int32).toNatClampNeg) v))]), g) 88 [(0, .ref 49), (1, .int s), (2, .int (nI N)), (3, .int q), (4, .int v), (5, .int w), (6, .int p), (7, .int a1.1), (8, .int a1.2.1), (9, .int a1.2.2.1), (10, .int (nI k1))] [] Q
            rw [jj_rs_rs (B := h8) (L := [(49, a1.2.2.2.1), (498, a1.2.2.2.2)]) (M := [(49, (rX10_weekBy_49 (hc1 8) a1.2.2.2.1 (hc1 73) (hc1 497) a1.2.2.2.2 (jj_gd (jj_rs hc1 [(49, a1.2.2.2.1), (498, a1.2.2.2.2)]) 64 8) n m (s + (nI k1)) ((q : Int32).toNatClampNeg) v)), (498, (rX10_weekBy_498 (hc1 8) a1.2.2.2.1 (hc1 73) (hc1 497) a1.2.2.2.2 (jj_gd (jj_rs hc1 [(49, a1.2.2.2.1), (498, a1.2.2.2.2)]) 64 8) n m (s + (nI k1)) ((q : Int32).toNatClampNeg) v))]) (L2 := [(49, (rX10_weekBy_49 (hc1 8) a1.2.2.2.1 (hc1 73) (hc1 497) a1.2.2.2.2 (jj_gd (jj_rs hc1 [(49, a1.2.2.2.1), (498, a1.2.2.2.2)]) 64 8) n m (s + (nI k1)) ((q : Int32).toNatClampNeg) v)), (498, (rX10_weekBy_498 (hc1 8) a1.2.2.2.1 (hc1 73) (hc1 497) a1.2.2.2.2 (jj_gd (jj_rs hc1 [(49, a1.2.2.2.1), (498, a1.2.2.2.2)]) 64 8) n m (s + (nI k1)) ((q : Int32).toNatClampNeg) v))]) rfl]
            try rw [ec1 8 (by decide)]
            try rw [ec1 73 (by decide)]
            try rw [ec1 497 (by decide)]
            try rw [show jj_gd (jj_rs hc1 [(49, a1.2.2.2.1), (498, a1.2.2.2.2)]) 64 8 = jj_gd h 64 8 from ((jj_gd_rs (B := hc1) (L := [(49, a1.2.2.2.1), (498, a1.2.2.2.2)]) (b := 64) (len := 8) rfl).trans (jj_gd_eq (b := 64) (len := 8) ec1 rfl))]
            refine rr_aload_n 0 rfl rfl dX10_span_88 ?_
            refine rr_aload_n 0 rfl rfl dX10_span_89 ?_
            refine rr_getR dX10_span_90 fX10_64 lo_49 sh_49 rfl ?_
            refine rr_callV (As := [.ref 498]) (rest := []) (kc2 := 0) (ks2 := 0) dX10_span_93 okX10_lateness lX10_315 lo_49 sh_49 rfl rfl (Nat.le_of_ble_eq_true rfl) (Nat.le_of_ble_eq_true rfl) rfl (by omega) (by simp [jj_rk]) (by simp [jj_rk]) ?_
            refine sp_X10_lateness_t (by first | exact hT | exact (congrFun (e7 53 (by decide)) 0).trans hT) hn ?_
            show jj_R _ _ kc ks (jj_S, 782, (jj_rs h8 [(49, (rX10_weekBy_49 (h 8) a1.2.2.2.1 (h 73) (h 497) a1.2.2.2.2 (jj_gd h 64 8) n m (s + (nI k1)) ((q : Int32).toNatClampNeg) v)), (498, (rX10_weekBy_498 (h 8) a1.2.2.2.1 (h 73) (h 497) a1.2.2.2.2 (jj_gd h 64 8) n m (s + (nI k1)) ((q : Int32).toNatClampNeg) v))]), g) 96 [(0, .ref 49), (1, .int s), (2, .int (nI N)), (3, .int q), (4, .int v), (5, .int w), (6, .int p), (7, .int a1.1), (8, .int a1.2.1), (9, .int a1.2.2.1), (10, .int (nI k1))] [.int (vX10_lateness_t (rX10_weekBy_498 (h 8) a1.2.2.2.1 (h 73) (h 497) a1.2.2.2.2 (jj_gd h 64 8) n m (s + (nI k1)) ((q : Int32).toNatClampNeg) v) n)] Q
            refine rr_istore [(0, .ref 49), (1, .int s), (2, .int (nI N)), (3, .int q), (4, .int v), (5, .int w), (6, .int p), (7, .int a1.1), (8, .int a1.2.1), (9, .int a1.2.2.1), (10, .int (nI k1)), (11, .int (vX10_lateness_t (rX10_weekBy_498 (h 8) a1.2.2.2.1 (h 73) (h 497) a1.2.2.2.2 (jj_gd h 64 8) n m (s + (nI k1)) ((q : Int32).toNatClampNeg) v) n))] dX10_span_96 (by decide) rfl ?_
            refine rr_iload 7 rfl dX10_span_98 ?_
            refine rr_iconst (-1) rfl dX10_span_100 ?_
            refine rr_icmp_ne dX10_span_101 (fun c9 => ?_) (fun c9 => ?_)
            · skip
              refine rr_iload 7 rfl dX10_span_109 ?_
              refine rr_iload 11 rfl dX10_span_111 ?_
              refine rr_callS (As := [.int a1.1, .int (vX10_lateness_t (rX10_weekBy_498 (h 8) a1.2.2.2.1 (h 73) (h 497) a1.2.2.2.2 (jj_gd h 64 8) n m (s + (nI k1)) ((q : Int32).toNatClampNeg) v) n)]) (rest := []) (kc2 := 0) (ks2 := 0) dX10_span_113 okX10_less lX10_235 rfl (Nat.le_of_ble_eq_true rfl) (Nat.le_of_ble_eq_true rfl) rfl (by omega) (by simp [jj_rk]) (by simp [jj_rk]) ?_
              refine sp_X10_less  ?_
              show jj_R _ _ kc ks (jj_S, 782, (jj_rs h8 [(49, (rX10_weekBy_49 (h 8) a1.2.2.2.1 (h 73) (h 497) a1.2.2.2.2 (jj_gd h 64 8) n m (s + (nI k1)) ((q : Int32).toNatClampNeg) v)), (498, (rX10_weekBy_498 (h 8) a1.2.2.2.1 (h 73) (h 497) a1.2.2.2.2 (jj_gd h 64 8) n m (s + (nI k1)) ((q : Int32).toNatClampNeg) v))]), g) 116 [(0, .ref 49), (1, .int s), (2, .int (nI N)), (3, .int q), (4, .int v), (5, .int w), (6, .int p), (7, .int a1.1), (8, .int a1.2.1), (9, .int a1.2.2.1), (10, .int (nI k1)), (11, .int (vX10_lateness_t (rX10_weekBy_498 (h 8) a1.2.2.2.1 (h 73) (h 497) a1.2.2.2.2 (jj_gd h 64 8) n m (s + (nI k1)) ((q : Int32).toNatClampNeg) v) n))] [.int (vX10_less a1.1 (vX10_lateness_t (rX10_weekBy_498 (h 8) a1.2.2.2.1 (h 73) (h 497) a1.2.2.2.2 (jj_gd h 64 8) n m (s + (nI k1)) ((q : Int32).toNatClampNeg) v) n))] Q
              refine rr_istore [(0, .ref 49), (1, .int s), (2, .int (nI N)), (3, .int q), (4, .int v), (5, .int w), (6, .int p), (7, .int (vX10_less a1.1 (vX10_lateness_t (rX10_weekBy_498 (h 8) a1.2.2.2.1 (h 73) (h 497) a1.2.2.2.2 (jj_gd h 64 8) n m (s + (nI k1)) ((q : Int32).toNatClampNeg) v) n))), (8, .int a1.2.1), (9, .int a1.2.2.1), (10, .int (nI k1)), (11, .int (vX10_lateness_t (rX10_weekBy_498 (h 8) a1.2.2.2.1 (h 73) (h 497) a1.2.2.2.2 (jj_gd h 64 8) n m (s + (nI k1)) ((q : Int32).toNatClampNeg) v) n))] dX10_span_116 (by decide) rfl ?_
              refine rr_iload 8 rfl dX10_span_118 ?_
              refine rr_iload 11 rfl dX10_span_120 ?_
              refine rr_callS (As := [.int a1.2.1, .int (vX10_lateness_t (rX10_weekBy_498 (h 8) a1.2.2.2.1 (h 73) (h 497) a1.2.2.2.2 (jj_gd h 64 8) n m (s + (nI k1)) ((q : Int32).toNatClampNeg) v) n)]) (rest := []) (kc2 := 0) (ks2 := 0) dX10_span_122 okX10_more lX10_238 rfl (Nat.le_of_ble_eq_true rfl) (Nat.le_of_ble_eq_true rfl) rfl (by omega) (by simp [jj_rk]) (by simp [jj_rk]) ?_
              refine sp_X10_more  ?_
              show jj_R _ _ kc ks (jj_S, 782, (jj_rs h8 [(49, (rX10_weekBy_49 (h 8) a1.2.2.2.1 (h 73) (h 497) a1.2.2.2.2 (jj_gd h 64 8) n m (s + (nI k1)) ((q : Int32).toNatClampNeg) v)), (498, (rX10_weekBy_498 (h 8) a1.2.2.2.1 (h 73) (h 497) a1.2.2.2.2 (jj_gd h 64 8) n m (s + (nI k1)) ((q : Int32).toNatClampNeg) v))]), g) 125 [(0, .ref 49), (1, .int s), (2, .int (nI N)), (3, .int q), (4, .int v), (5, .int w), (6, .int p), (7, .int (vX10_less a1.1 (vX10_lateness_t (rX10_weekBy_498 (h 8) a1.2.2.2.1 (h 73) (h 497) a1.2.2.2.2 (jj_gd h 64 8) n m (s + (nI k1)) ((q : Int32).toNatClampNeg) v) n))), (8, .int a1.2.1), (9, .int a1.2.2.1), (10, .int (nI k1)), (11, .int (vX10_lateness_t (rX10_weekBy_498 (h 8) a1.2.2.2.1 (h 73) (h 497) a1.2.2.2.2 (jj_gd h 64 8) n m (s + (nI k1)) ((q : Int32).toNatClampNeg) v) n))] [.int (vX10_more a1.2.1 (vX10_lateness_t (rX10_weekBy_498 (h 8) a1.2.2.2.1 (h 73) (h 497) a1.2.2.2.2 (jj_gd h 64 8) n m (s + (nI k1)) ((q : Int32).toNatClampNeg) v) n))] Q
              refine rr_istore [(0, .ref 49), (1, .int s), (2, .int (nI N)), (3, .int q), (4, .int v), (5, .int w), (6, .int p), (7, .int (vX10_less a1.1 (vX10_lateness_t (rX10_weekBy_498 (h 8) a1.2.2.2.1 (h 73) (h 497) a1.2.2.2.2 (jj_gd h 64 8) n m (s + (nI k1)) ((q : Int32).toNatClampNeg) v) n))), (8, .int (vX10_more a1.2.1 (vX10_lateness_t (rX10_weekBy_498 (h 8) a1.2.2.2.1 (h 73) (h 497) a1.2.2.2.2 (jj_gd h 64 8) n m (s + (nI k1)) ((q : Int32).toNatClampNeg) v) n))), (9, .int a1.2.2.1), (10, .int (nI k1)), (11, .int (vX10_lateness_t (rX10_weekBy_498 (h 8) a1.2.2.2.1 (h 73) (h 497) a1.2.2.2.2 (jj_gd h 64 8) n m (s + (nI k1)) ((q : Int32).toNatClampNeg) v) n))] dX10_span_125 (by decide) rfl ?_
              refine rr_iload 9 rfl dX10_span_127 ?_
              refine rr_aload_n 0 rfl rfl dX10_span_129 ?_
              refine rr_getR dX10_span_130 fX10_64 lo_49 sh_49 rfl ?_
              refine rr_iload 6 rfl dX10_span_133 ?_
              refine rr_callS (As := [.ref 498, .int p]) (rest := [.int a1.2.2.1]) (kc2 := 0) (ks2 := 0) dX10_span_135 okX10_behind lX10_260 rfl (Nat.le_of_ble_eq_true rfl) (Nat.le_of_ble_eq_true rfl) rfl (by omega) (by simp [jj_rk]) (by simp [jj_rk]) ?_
              refine sp_X10_behind_t (by first | assumption | (rw [show (jj_rs h8 [(49, (rX10_weekBy_49 (h 8) a1.2.2.2.1 (h 73) (h 497) a1.2.2.2.2 (jj_gd h 64 8) n m (s + (nI k1)) ((q : Int32).toNatClampNeg) v)), (498, (rX10_weekBy_498 (h 8) a1.2.2.2.1 (h 73) (h 497) a1.2.2.2.2 (jj_gd h 64 8) n m (s + (nI k1)) ((q : Int32).toNatClampNeg) v))]) 7 = h8 7 from rfl]; rw [e7 7 (by decide)]; assumption) | (rw [show (jj_rs h8 [(49, (rX10_weekBy_49 (h 8) a1.2.2.2.1 (h 73) (h 497) a1.2.2.2.2 (jj_gd h 64 8) n m (s + (nI k1)) ((q : Int32).toNatClampNeg) v)), (498, (rX10_weekBy_498 (h 8) a1.2.2.2.1 (h 73) (h 497) a1.2.2.2.2 (jj_gd h 64 8) n m (s + (nI k1)) ((q : Int32).toNatClampNeg) v))]) 1 = h8 1 from rfl]; rw [e7 1 (by decide)]; assumption) | exact jj_pM hn (by assumption) | exact jj_pM hn (jj_two (by assumption)).1 | exact jj_pM hn (jj_two (by assumption)).2 | decide | omega) ?_
              show jj_R _ _ kc ks (jj_S, 782, (jj_rs h8 [(49, (rX10_weekBy_49 (h 8) a1.2.2.2.1 (h 73) (h 497) a1.2.2.2.2 (jj_gd h 64 8) n m (s + (nI k1)) ((q : Int32).toNatClampNeg) v)), (498, (rX10_weekBy_498 (h 8) a1.2.2.2.1 (h 73) (h 497) a1.2.2.2.2 (jj_gd h 64 8) n m (s + (nI k1)) ((q : Int32).toNatClampNeg) v))]), g) 138 [(0, .ref 49), (1, .int s), (2, .int (nI N)), (3, .int q), (4, .int v), (5, .int w), (6, .int p), (7, .int (vX10_less a1.1 (vX10_lateness_t (rX10_weekBy_498 (h 8) a1.2.2.2.1 (h 73) (h 497) a1.2.2.2.2 (jj_gd h 64 8) n m (s + (nI k1)) ((q : Int32).toNatClampNeg) v) n))), (8, .int (vX10_more a1.2.1 (vX10_lateness_t (rX10_weekBy_498 (h 8) a1.2.2.2.1 (h 73) (h 497) a1.2.2.2.2 (jj_gd h 64 8) n m (s + (nI k1)) ((q : Int32).toNatClampNeg) v) n))), (9, .int a1.2.2.1), (10, .int (nI k1)), (11, .int (vX10_lateness_t (rX10_weekBy_498 (h 8) a1.2.2.2.1 (h 73) (h 497) a1.2.2.2.2 (jj_gd h 64 8) n m (s + (nI k1)) ((q : Int32).toNatClampNeg) v) n))] [.int (vX10_behind_t (rX10_weekBy_498 (h 8) a1.2.2.2.1 (h 73) (h 497) a1.2.2.2.2 (jj_gd h 64 8) n m (s + (nI k1)) ((q : Int32).toNatClampNeg) v) p), .int a1.2.2.1] Q
              refine rr_if_ne dX10_span_138 (fun c10 => ?_) (fun c10 => ?_)
              · skip
                refine rr_iconst 0 rfl dX10_span_145 ?_
                refine rr_iadd dX10_span_146 ?_
                refine rr_istore [(0, .ref 49), (1, .int s), (2, .int (nI N)), (3, .int q), (4, .int v), (5, .int w), (6, .int p), (7, .int (vX10_less a1.1 (vX10_lateness_t (rX10_weekBy_498 (h 8) a1.2.2.2.1 (h 73) (h 497) a1.2.2.2.2 (jj_gd h 64 8) n m (s + (nI k1)) ((q : Int32).toNatClampNeg) v) n))), (8, .int (vX10_more a1.2.1 (vX10_lateness_t (rX10_weekBy_498 (h 8) a1.2.2.2.1 (h 73) (h 497) a1.2.2.2.2 (jj_gd h 64 8) n m (s + (nI k1)) ((q : Int32).toNatClampNeg) v) n))), (9, .int (a1.2.2.1 + 0)), (10, .int (nI k1)), (11, .int (vX10_lateness_t (rX10_weekBy_498 (h 8) a1.2.2.2.1 (h 73) (h 497) a1.2.2.2.2 (jj_gd h 64 8) n m (s + (nI k1)) ((q : Int32).toNatClampNeg) v) n))] dX10_span_147 (by decide) rfl ?_
                refine rr_iinc 10 1 [(0, .ref 49), (1, .int s), (2, .int (nI N)), (3, .int q), (4, .int v), (5, .int w), (6, .int p), (7, .int (vX10_less a1.1 (vX10_lateness_t (rX10_weekBy_498 (h 8) a1.2.2.2.1 (h 73) (h 497) a1.2.2.2.2 (jj_gd h 64 8) n m (s + (nI k1)) ((q : Int32).toNatClampNeg) v) n))), (8, .int (vX10_more a1.2.1 (vX10_lateness_t (rX10_weekBy_498 (h 8) a1.2.2.2.1 (h 73) (h 497) a1.2.2.2.2 (jj_gd h 64 8) n m (s + (nI k1)) ((q : Int32).toNatClampNeg) v) n))), (9, .int (a1.2.2.1 + 0)), (10, .int ((nI k1) + 1)), (11, .int (vX10_lateness_t (rX10_weekBy_498 (h 8) a1.2.2.2.1 (h 73) (h 497) a1.2.2.2.2 (jj_gd h 64 8) n m (s + (nI k1)) ((q : Int32).toNatClampNeg) v) n))] dX10_span_149 rfl rfl (by decide) rfl ?_
                refine rr_goto dX10_span_152 ?_
                try simp only [(nI_clamp (show k1 < 2 ^ 31 by omega))] at c9
                try simp only [(nI_clamp (show k1 < 2 ^ 31 by omega))] at c10
                refine rr_drop (ls := [(0, .ref 49), (1, .int s), (2, .int (nI N)), (3, .int q), (4, .int v), (5, .int w), (6, .int p), (7, .int (vX10_less a1.1 (vX10_lateness_t (rX10_weekBy_498 (h 8) a1.2.2.2.1 (h 73) (h 497) a1.2.2.2.2 (jj_gd h 64 8) n m (s + (nI k1)) ((q : Int32).toNatClampNeg) v) n))), (8, .int (vX10_more a1.2.1 (vX10_lateness_t (rX10_weekBy_498 (h 8) a1.2.2.2.1 (h 73) (h 497) a1.2.2.2.2 (jj_gd h 64 8) n m (s + (nI k1)) ((q : Int32).toNatClampNeg) v) n))), (9, .int (a1.2.2.1 + 0)), (10, .int ((nI k1) + 1))]) [0, 1, 2, 3, 4, 5, 6, 7, 8, 9, 10] rfl ?_
                simp only [(nI_clamp (show k1 < 2 ^ 31 by omega)), fX10_span_1, if_neg c9, if_neg c10] at ih1
                simpa only [nI_1, (nI_clamp (show k1 < 2 ^ 31 by omega)), fX10_span_1, if_neg c9, if_neg c10] using ih1 (wb_17.trans hi1) h8 e7
              · skip
                refine rr_iconst 1 rfl dX10_span_141 ?_
                refine rr_goto dX10_span_142 ?_
                refine rr_iadd dX10_span_146 ?_
                refine rr_istore [(0, .ref 49), (1, .int s), (2, .int (nI N)), (3, .int q), (4, .int v), (5, .int w), (6, .int p), (7, .int (vX10_less a1.1 (vX10_lateness_t (rX10_weekBy_498 (h 8) a1.2.2.2.1 (h 73) (h 497) a1.2.2.2.2 (jj_gd h 64 8) n m (s + (nI k1)) ((q : Int32).toNatClampNeg) v) n))), (8, .int (vX10_more a1.2.1 (vX10_lateness_t (rX10_weekBy_498 (h 8) a1.2.2.2.1 (h 73) (h 497) a1.2.2.2.2 (jj_gd h 64 8) n m (s + (nI k1)) ((q : Int32).toNatClampNeg) v) n))), (9, .int (a1.2.2.1 + 1)), (10, .int (nI k1)), (11, .int (vX10_lateness_t (rX10_weekBy_498 (h 8) a1.2.2.2.1 (h 73) (h 497) a1.2.2.2.2 (jj_gd h 64 8) n m (s + (nI k1)) ((q : Int32).toNatClampNeg) v) n))] dX10_span_147 (by decide) rfl ?_
                refine rr_iinc 10 1 [(0, .ref 49), (1, .int s), (2, .int (nI N)), (3, .int q), (4, .int v), (5, .int w), (6, .int p), (7, .int (vX10_less a1.1 (vX10_lateness_t (rX10_weekBy_498 (h 8) a1.2.2.2.1 (h 73) (h 497) a1.2.2.2.2 (jj_gd h 64 8) n m (s + (nI k1)) ((q : Int32).toNatClampNeg) v) n))), (8, .int (vX10_more a1.2.1 (vX10_lateness_t (rX10_weekBy_498 (h 8) a1.2.2.2.1 (h 73) (h 497) a1.2.2.2.2 (jj_gd h 64 8) n m (s + (nI k1)) ((q : Int32).toNatClampNeg) v) n))), (9, .int (a1.2.2.1 + 1)), (10, .int ((nI k1) + 1)), (11, .int (vX10_lateness_t (rX10_weekBy_498 (h 8) a1.2.2.2.1 (h 73) (h 497) a1.2.2.2.2 (jj_gd h 64 8) n m (s + (nI k1)) ((q : Int32).toNatClampNeg) v) n))] dX10_span_149 rfl rfl (by decide) rfl ?_
                refine rr_goto dX10_span_152 ?_
                try simp only [(nI_clamp (show k1 < 2 ^ 31 by omega))] at c9
                try simp only [(nI_clamp (show k1 < 2 ^ 31 by omega))] at c10
                refine rr_drop (ls := [(0, .ref 49), (1, .int s), (2, .int (nI N)), (3, .int q), (4, .int v), (5, .int w), (6, .int p), (7, .int (vX10_less a1.1 (vX10_lateness_t (rX10_weekBy_498 (h 8) a1.2.2.2.1 (h 73) (h 497) a1.2.2.2.2 (jj_gd h 64 8) n m (s + (nI k1)) ((q : Int32).toNatClampNeg) v) n))), (8, .int (vX10_more a1.2.1 (vX10_lateness_t (rX10_weekBy_498 (h 8) a1.2.2.2.1 (h 73) (h 497) a1.2.2.2.2 (jj_gd h 64 8) n m (s + (nI k1)) ((q : Int32).toNatClampNeg) v) n))), (9, .int (a1.2.2.1 + 1)), (10, .int ((nI k1) + 1))]) [0, 1, 2, 3, 4, 5, 6, 7, 8, 9, 10] rfl ?_
                simp only [(nI_clamp (show k1 < 2 ^ 31 by omega)), fX10_span_1, if_neg c9, if_pos c10] at ih1
                simpa only [nI_1, (nI_clamp (show k1 < 2 ^ 31 by omega)), fX10_span_1, if_neg c9, if_pos c10] using ih1 (wb_17.trans hi1) h8 e7
            · skip
              refine rr_iload 11 rfl dX10_span_104 ?_
              refine rr_goto dX10_span_106 ?_
              refine rr_istore [(0, .ref 49), (1, .int s), (2, .int (nI N)), (3, .int q), (4, .int v), (5, .int w), (6, .int p), (7, .int (vX10_lateness_t (rX10_weekBy_498 (h 8) a1.2.2.2.1 (h 73) (h 497) a1.2.2.2.2 (jj_gd h 64 8) n m (s + (nI k1)) ((q : Int32).toNatClampNeg) v) n)), (8, .int a1.2.1), (9, .int a1.2.2.1), (10, .int (nI k1)), (11, .int (vX10_lateness_t (rX10_weekBy_498 (h 8) a1.2.2.2.1 (h 73) (h 497) a1.2.2.2.2 (jj_gd h 64 8) n m (s + (nI k1)) ((q : Int32).toNatClampNeg) v) n))] dX10_span_116 (by decide) rfl ?_
              refine rr_iload 8 rfl dX10_span_118 ?_
              refine rr_iload 11 rfl dX10_span_120 ?_
              refine rr_callS (As := [.int a1.2.1, .int (vX10_lateness_t (rX10_weekBy_498 (h 8) a1.2.2.2.1 (h 73) (h 497) a1.2.2.2.2 (jj_gd h 64 8) n m (s + (nI k1)) ((q : Int32).toNatClampNeg) v) n)]) (rest := []) (kc2 := 0) (ks2 := 0) dX10_span_122 okX10_more lX10_238 rfl (Nat.le_of_ble_eq_true rfl) (Nat.le_of_ble_eq_true rfl) rfl (by omega) (by simp [jj_rk]) (by simp [jj_rk]) ?_
              refine sp_X10_more  ?_
              show jj_R _ _ kc ks (jj_S, 782, (jj_rs h8 [(49, (rX10_weekBy_49 (h 8) a1.2.2.2.1 (h 73) (h 497) a1.2.2.2.2 (jj_gd h 64 8) n m (s + (nI k1)) ((q : Int32).toNatClampNeg) v)), (498, (rX10_weekBy_498 (h 8) a1.2.2.2.1 (h 73) (h 497) a1.2.2.2.2 (jj_gd h 64 8) n m (s + (nI k1)) ((q : Int32).toNatClampNeg) v))]), g) 125 [(0, .ref 49), (1, .int s), (2, .int (nI N)), (3, .int q), (4, .int v), (5, .int w), (6, .int p), (7, .int (vX10_lateness_t (rX10_weekBy_498 (h 8) a1.2.2.2.1 (h 73) (h 497) a1.2.2.2.2 (jj_gd h 64 8) n m (s + (nI k1)) ((q : Int32).toNatClampNeg) v) n)), (8, .int a1.2.1), (9, .int a1.2.2.1), (10, .int (nI k1)), (11, .int (vX10_lateness_t (rX10_weekBy_498 (h 8) a1.2.2.2.1 (h 73) (h 497) a1.2.2.2.2 (jj_gd h 64 8) n m (s + (nI k1)) ((q : Int32).toNatClampNeg) v) n))] [.int (vX10_more a1.2.1 (vX10_lateness_t (rX10_weekBy_498 (h 8) a1.2.2.2.1 (h 73) (h 497) a1.2.2.2.2 (jj_gd h 64 8) n m (s + (nI k1)) ((q : Int32).toNatClampNeg) v) n))] Q
              refine rr_istore [(0, .ref 49), (1, .int s), (2, .int (nI N)), (3, .int q), (4, .int v), (5, .int w), (6, .int p), (7, .int (vX10_lateness_t (rX10_weekBy_498 (h 8) a1.2.2.2.1 (h 73) (h 497) a1.2.2.2.2 (jj_gd h 64 8) n m (s + (nI k1)) ((q : Int32).toNatClampNeg) v) n)), (8, .int (vX10_more a1.2.1 (vX10_lateness_t (rX10_weekBy_498 (h 8) a1.2.2.2.1 (h 73) (h 497) a1.2.2.2.2 (jj_gd h 64 8) n m (s + (nI k1)) ((q : Int32).toNatClampNeg) v) n))), (9, .int a1.2.2.1), (10, .int (nI k1)), (11, .int (vX10_lateness_t (rX10_weekBy_498 (h 8) a1.2.2.2.1 (h 73) (h 497) a1.2.2.2.2 (jj_gd h 64 8) n m (s + (nI k1)) ((q : Int32).toNatClampNeg) v) n))] dX10_span_125 (by decide) rfl ?_
              refine rr_iload 9 rfl dX10_span_127 ?_
              refine rr_aload_n 0 rfl rfl dX10_span_129 ?_
              refine rr_getR dX10_span_130 fX10_64 lo_49 sh_49 rfl ?_
              refine rr_iload 6 rfl dX10_span_133 ?_
              refine rr_callS (As := [.ref 498, .int p]) (rest := [.int a1.2.2.1]) (kc2 := 0) (ks2 := 0) dX10_span_135 okX10_behind lX10_260 rfl (Nat.le_of_ble_eq_true rfl) (Nat.le_of_ble_eq_true rfl) rfl (by omega) (by simp [jj_rk]) (by simp [jj_rk]) ?_
              refine sp_X10_behind_t (by first | assumption | (rw [show (jj_rs h8 [(49, (rX10_weekBy_49 (h 8) a1.2.2.2.1 (h 73) (h 497) a1.2.2.2.2 (jj_gd h 64 8) n m (s + (nI k1)) ((q : Int32).toNatClampNeg) v)), (498, (rX10_weekBy_498 (h 8) a1.2.2.2.1 (h 73) (h 497) a1.2.2.2.2 (jj_gd h 64 8) n m (s + (nI k1)) ((q : Int32).toNatClampNeg) v))]) 7 = h8 7 from rfl]; rw [e7 7 (by decide)]; assumption) | (rw [show (jj_rs h8 [(49, (rX10_weekBy_49 (h 8) a1.2.2.2.1 (h 73) (h 497) a1.2.2.2.2 (jj_gd h 64 8) n m (s + (nI k1)) ((q : Int32).toNatClampNeg) v)), (498, (rX10_weekBy_498 (h 8) a1.2.2.2.1 (h 73) (h 497) a1.2.2.2.2 (jj_gd h 64 8) n m (s + (nI k1)) ((q : Int32).toNatClampNeg) v))]) 1 = h8 1 from rfl]; rw [e7 1 (by decide)]; assumption) | exact jj_pM hn (by assumption) | exact jj_pM hn (jj_two (by assumption)).1 | exact jj_pM hn (jj_two (by assumption)).2 | decide | omega) ?_
              show jj_R _ _ kc ks (jj_S, 782, (jj_rs h8 [(49, (rX10_weekBy_49 (h 8) a1.2.2.2.1 (h 73) (h 497) a1.2.2.2.2 (jj_gd h 64 8) n m (s + (nI k1)) ((q : Int32).toNatClampNeg) v)), (498, (rX10_weekBy_498 (h 8) a1.2.2.2.1 (h 73) (h 497) a1.2.2.2.2 (jj_gd h 64 8) n m (s + (nI k1)) ((q : Int32).toNatClampNeg) v))]), g) 138 [(0, .ref 49), (1, .int s), (2, .int (nI N)), (3, .int q), (4, .int v), (5, .int w), (6, .int p), (7, .int (vX10_lateness_t (rX10_weekBy_498 (h 8) a1.2.2.2.1 (h 73) (h 497) a1.2.2.2.2 (jj_gd h 64 8) n m (s + (nI k1)) ((q : Int32).toNatClampNeg) v) n)), (8, .int (vX10_more a1.2.1 (vX10_lateness_t (rX10_weekBy_498 (h 8) a1.2.2.2.1 (h 73) (h 497) a1.2.2.2.2 (jj_gd h 64 8) n m (s + (nI k1)) ((q : Int32).toNatClampNeg) v) n))), (9, .int a1.2.2.1), (10, .int (nI k1)), (11, .int (vX10_lateness_t (rX10_weekBy_498 (h 8) a1.2.2.2.1 (h 73) (h 497) a1.2.2.2.2 (jj_gd h 64 8) n m (s + (nI k1)) ((q : Int32).toNatClampNeg) v) n))] [.int (vX10_behind_t (rX10_weekBy_498 (h 8) a1.2.2.2.1 (h 73) (h 497) a1.2.2.2.2 (jj_gd h 64 8) n m (s + (nI k1)) ((q : Int32).toNatClampNeg) v) p), .int a1.2.2.1] Q
              refine rr_if_ne dX10_span_138 (fun c11 => ?_) (fun c11 => ?_)
              · skip
                refine rr_iconst 0 rfl dX10_span_145 ?_
                refine rr_iadd dX10_span_146 ?_
                refine rr_istore [(0, .ref 49), (1, .int s), (2, .int (nI N)), (3, .int q), (4, .int v), (5, .int w), (6, .int p), (7, .int (vX10_lateness_t (rX10_weekBy_498 (h 8) a1.2.2.2.1 (h 73) (h 497) a1.2.2.2.2 (jj_gd h 64 8) n m (s + (nI k1)) ((q : Int32).toNatClampNeg) v) n)), (8, .int (vX10_more a1.2.1 (vX10_lateness_t (rX10_weekBy_498 (h 8) a1.2.2.2.1 (h 73) (h 497) a1.2.2.2.2 (jj_gd h 64 8) n m (s + (nI k1)) ((q : Int32).toNatClampNeg) v) n))), (9, .int (a1.2.2.1 + 0)), (10, .int (nI k1)), (11, .int (vX10_lateness_t (rX10_weekBy_498 (h 8) a1.2.2.2.1 (h 73) (h 497) a1.2.2.2.2 (jj_gd h 64 8) n m (s + (nI k1)) ((q : Int32).toNatClampNeg) v) n))] dX10_span_147 (by decide) rfl ?_
                refine rr_iinc 10 1 [(0, .ref 49), (1, .int s), (2, .int (nI N)), (3, .int q), (4, .int v), (5, .int w), (6, .int p), (7, .int (vX10_lateness_t (rX10_weekBy_498 (h 8) a1.2.2.2.1 (h 73) (h 497) a1.2.2.2.2 (jj_gd h 64 8) n m (s + (nI k1)) ((q : Int32).toNatClampNeg) v) n)), (8, .int (vX10_more a1.2.1 (vX10_lateness_t (rX10_weekBy_498 (h 8) a1.2.2.2.1 (h 73) (h 497) a1.2.2.2.2 (jj_gd h 64 8) n m (s + (nI k1)) ((q : Int32).toNatClampNeg) v) n))), (9, .int (a1.2.2.1 + 0)), (10, .int ((nI k1) + 1)), (11, .int (vX10_lateness_t (rX10_weekBy_498 (h 8) a1.2.2.2.1 (h 73) (h 497) a1.2.2.2.2 (jj_gd h 64 8) n m (s + (nI k1)) ((q : Int32).toNatClampNeg) v) n))] dX10_span_149 rfl rfl (by decide) rfl ?_
                refine rr_goto dX10_span_152 ?_
                try simp only [(nI_clamp (show k1 < 2 ^ 31 by omega))] at c9
                try simp only [(nI_clamp (show k1 < 2 ^ 31 by omega))] at c11
                refine rr_drop (ls := [(0, .ref 49), (1, .int s), (2, .int (nI N)), (3, .int q), (4, .int v), (5, .int w), (6, .int p), (7, .int (vX10_lateness_t (rX10_weekBy_498 (h 8) a1.2.2.2.1 (h 73) (h 497) a1.2.2.2.2 (jj_gd h 64 8) n m (s + (nI k1)) ((q : Int32).toNatClampNeg) v) n)), (8, .int (vX10_more a1.2.1 (vX10_lateness_t (rX10_weekBy_498 (h 8) a1.2.2.2.1 (h 73) (h 497) a1.2.2.2.2 (jj_gd h 64 8) n m (s + (nI k1)) ((q : Int32).toNatClampNeg) v) n))), (9, .int (a1.2.2.1 + 0)), (10, .int ((nI k1) + 1))]) [0, 1, 2, 3, 4, 5, 6, 7, 8, 9, 10] rfl ?_
                simp only [(nI_clamp (show k1 < 2 ^ 31 by omega)), fX10_span_1, if_pos c9, if_neg c11] at ih1
                simpa only [nI_1, (nI_clamp (show k1 < 2 ^ 31 by omega)), fX10_span_1, if_pos c9, if_neg c11] using ih1 (wb_17.trans hi1) h8 e7
              · skip
                refine rr_iconst 1 rfl dX10_span_141 ?_
                refine rr_goto dX10_span_142 ?_
                refine rr_iadd dX10_span_146 ?_
                refine rr_istore [(0, .ref 49), (1, .int s), (2, .int (nI N)), (3, .int q), (4, .int v), (5, .int w), (6, .int p), (7, .int (vX10_lateness_t (rX10_weekBy_498 (h 8) a1.2.2.2.1 (h 73) (h 497) a1.2.2.2.2 (jj_gd h 64 8) n m (s + (nI k1)) ((q : Int32).toNatClampNeg) v) n)), (8, .int (vX10_more a1.2.1 (vX10_lateness_t (rX10_weekBy_498 (h 8) a1.2.2.2.1 (h 73) (h 497) a1.2.2.2.2 (jj_gd h 64 8) n m (s + (nI k1)) ((q : Int32).toNatClampNeg) v) n))), (9, .int (a1.2.2.1 + 1)), (10, .int (nI k1)), (11, .int (vX10_lateness_t (rX10_weekBy_498 (h 8) a1.2.2.2.1 (h 73) (h 497) a1.2.2.2.2 (jj_gd h 64 8) n m (s + (nI k1)) ((q : Int32).toNatClampNeg) v) n))] dX10_span_147 (by decide) rfl ?_
                refine rr_iinc 10 1 [(0, .ref 49), (1, .int s), (2, .int (nI N)), (3, .int q), (4, .int v), (5, .int w), (6, .int p), (7, .int (vX10_lateness_t (rX10_weekBy_498 (h 8) a1.2.2.2.1 (h 73) (h 497) a1.2.2.2.2 (jj_gd h 64 8) n m (s + (nI k1)) ((q : Int32).toNatClampNeg) v) n)), (8, .int (vX10_more a1.2.1 (vX10_lateness_t (rX10_weekBy_498 (h 8) a1.2.2.2.1 (h 73) (h 497) a1.2.2.2.2 (jj_gd h 64 8) n m (s + (nI k1)) ((q : Int32).toNatClampNeg) v) n))), (9, .int (a1.2.2.1 + 1)), (10, .int ((nI k1) + 1)), (11, .int (vX10_lateness_t (rX10_weekBy_498 (h 8) a1.2.2.2.1 (h 73) (h 497) a1.2.2.2.2 (jj_gd h 64 8) n m (s + (nI k1)) ((q : Int32).toNatClampNeg) v) n))] dX10_span_149 rfl rfl (by decide) rfl ?_
                refine rr_goto dX10_span_152 ?_
                try simp only [(nI_clamp (show k1 < 2 ^ 31 by omega))] at c9
                try simp only [(nI_clamp (show k1 < 2 ^ 31 by omega))] at c11
                refine rr_drop (ls := [(0, .ref 49), (1, .int s), (2, .int (nI N)), (3, .int q), (4, .int v), (5, .int w), (6, .int p), (7, .int (vX10_lateness_t (rX10_weekBy_498 (h 8) a1.2.2.2.1 (h 73) (h 497) a1.2.2.2.2 (jj_gd h 64 8) n m (s + (nI k1)) ((q : Int32).toNatClampNeg) v) n)), (8, .int (vX10_more a1.2.1 (vX10_lateness_t (rX10_weekBy_498 (h 8) a1.2.2.2.1 (h 73) (h 497) a1.2.2.2.2 (jj_gd h 64 8) n m (s + (nI k1)) ((q : Int32).toNatClampNeg) v) n))), (9, .int (a1.2.2.1 + 1)), (10, .int ((nI k1) + 1))]) [0, 1, 2, 3, 4, 5, 6, 7, 8, 9, 10] rfl ?_
                simp only [(nI_clamp (show k1 < 2 ^ 31 by omega)), fX10_span_1, if_pos c9, if_pos c11] at ih1
                simpa only [nI_1, (nI_clamp (show k1 < 2 ^ 31 by omega)), fX10_span_1, if_pos c9, if_pos c11] using ih1 (wb_17.trans hi1) h8 e7
          · try dsimp only
            intro hi1
            intro hc1 ec1
            refine rr_iload 10 rfl dX10_span_71 ?_
            refine rr_iload_n 2 rfl rfl dX10_span_73 ?_
            refine rr_icmp_ge dX10_span_74 (fun _ => ?_) (fun c => absurd (jj_le_rf _) c)
            refine rr_iload 5 rfl dX10_span_155 ?_
            refine rr_if_ne dX10_span_157 (fun c12 => ?_) (fun c12 => ?_)
            · skip
              refine rr_iload 5 rfl dX10_span_165 ?_
              refine rr_iconst 1 rfl dX10_span_167 ?_
              refine rr_icmp_ne dX10_span_168 (fun c13 => ?_) (fun c13 => ?_)
              · skip
                refine rr_iload 9 rfl dX10_span_176 ?_
                refine rr_ireturn dX10_span_178 rfl ?_
                refine jj_Qh (jj_rs_add (B := hc1) (L := [(49, (jj_fo (fX10_span_1 (h 8) (h 73) (h 497) (jj_gd h 64 8) n m s q v p) N ((-1), 0, 0, (upd (h 49) (0) 0), (h 498))).2.2.2.1), (498, (jj_fo (fX10_span_1 (h 8) (h 73) (h 497) (jj_gd h 64 8) n m s q v p) N ((-1), 0, 0, (upd (h 49) (0) 0), (h 498))).2.2.2.2)]) (L2 := [(49, (jj_fo (fX10_span_1 (h 8) (h 73) (h 497) (jj_gd h 64 8) n m s q v p) N ((-1), 0, 0, (upd (h 49) (0) 0), (h 498))).2.2.2.1), (51, (h 51)), (498, (jj_fo (fX10_span_1 (h 8) (h 73) (h 497) (jj_gd h 64 8) n m s q v p) N ((-1), 0, 0, (upd (h 49) (0) 0), (h 498))).2.2.2.2)]) (o := 51) (r := (h 51)) ((show jj_rs hc1 [(49, (jj_fo (fX10_span_1 (h 8) (h 73) (h 497) (jj_gd h 64 8) n m s q v p) N ((-1), 0, 0, (upd (h 49) (0) 0), (h 498))).2.2.2.1), (498, (jj_fo (fX10_span_1 (h 8) (h 73) (h 497) (jj_gd h 64 8) n m s q v p) N ((-1), 0, 0, (upd (h 49) (0) 0), (h 498))).2.2.2.2)] 51 = hc1 51 from rfl).trans (ec1 51 (by decide))) rfl) ?_
                first | simpa only [vX10_span, rX10_span_49, rX10_span_51, rX10_span_498, if_neg c1, if_neg c2, if_neg c3, if_neg c4, if_neg c12, if_neg c13, nI_clamp (show N < 2 ^ 31 by omega)] using kq hc1 ec1 | simpa only [vX10_span, rX10_span_49, rX10_span_51, rX10_span_498, if_neg c1, if_neg c2, if_neg c3, if_neg c4, if_neg c12, if_neg c13] using kq hc1 ec1
              · skip
                refine rr_iload 8 rfl dX10_span_171 ?_
                refine rr_goto dX10_span_173 ?_
                refine rr_ireturn dX10_span_178 rfl ?_
                refine jj_Qh (jj_rs_add (B := hc1) (L := [(49, (jj_fo (fX10_span_1 (h 8) (h 73) (h 497) (jj_gd h 64 8) n m s q v p) N ((-1), 0, 0, (upd (h 49) (0) 0), (h 498))).2.2.2.1), (498, (jj_fo (fX10_span_1 (h 8) (h 73) (h 497) (jj_gd h 64 8) n m s q v p) N ((-1), 0, 0, (upd (h 49) (0) 0), (h 498))).2.2.2.2)]) (L2 := [(49, (jj_fo (fX10_span_1 (h 8) (h 73) (h 497) (jj_gd h 64 8) n m s q v p) N ((-1), 0, 0, (upd (h 49) (0) 0), (h 498))).2.2.2.1), (51, (h 51)), (498, (jj_fo (fX10_span_1 (h 8) (h 73) (h 497) (jj_gd h 64 8) n m s q v p) N ((-1), 0, 0, (upd (h 49) (0) 0), (h 498))).2.2.2.2)]) (o := 51) (r := (h 51)) ((show jj_rs hc1 [(49, (jj_fo (fX10_span_1 (h 8) (h 73) (h 497) (jj_gd h 64 8) n m s q v p) N ((-1), 0, 0, (upd (h 49) (0) 0), (h 498))).2.2.2.1), (498, (jj_fo (fX10_span_1 (h 8) (h 73) (h 497) (jj_gd h 64 8) n m s q v p) N ((-1), 0, 0, (upd (h 49) (0) 0), (h 498))).2.2.2.2)] 51 = hc1 51 from rfl).trans (ec1 51 (by decide))) rfl) ?_
                first | simpa only [vX10_span, rX10_span_49, rX10_span_51, rX10_span_498, if_neg c1, if_neg c2, if_neg c3, if_neg c4, if_neg c12, if_pos c13, nI_clamp (show N < 2 ^ 31 by omega)] using kq hc1 ec1 | simpa only [vX10_span, rX10_span_49, rX10_span_51, rX10_span_498, if_neg c1, if_neg c2, if_neg c3, if_neg c4, if_neg c12, if_pos c13] using kq hc1 ec1
            · skip
              refine rr_iload 7 rfl dX10_span_160 ?_
              refine rr_goto dX10_span_162 ?_
              refine rr_ireturn dX10_span_178 rfl ?_
              refine jj_Qh (jj_rs_add (B := hc1) (L := [(49, (jj_fo (fX10_span_1 (h 8) (h 73) (h 497) (jj_gd h 64 8) n m s q v p) N ((-1), 0, 0, (upd (h 49) (0) 0), (h 498))).2.2.2.1), (498, (jj_fo (fX10_span_1 (h 8) (h 73) (h 497) (jj_gd h 64 8) n m s q v p) N ((-1), 0, 0, (upd (h 49) (0) 0), (h 498))).2.2.2.2)]) (L2 := [(49, (jj_fo (fX10_span_1 (h 8) (h 73) (h 497) (jj_gd h 64 8) n m s q v p) N ((-1), 0, 0, (upd (h 49) (0) 0), (h 498))).2.2.2.1), (51, (h 51)), (498, (jj_fo (fX10_span_1 (h 8) (h 73) (h 497) (jj_gd h 64 8) n m s q v p) N ((-1), 0, 0, (upd (h 49) (0) 0), (h 498))).2.2.2.2)]) (o := 51) (r := (h 51)) ((show jj_rs hc1 [(49, (jj_fo (fX10_span_1 (h 8) (h 73) (h 497) (jj_gd h 64 8) n m s q v p) N ((-1), 0, 0, (upd (h 49) (0) 0), (h 498))).2.2.2.1), (498, (jj_fo (fX10_span_1 (h 8) (h 73) (h 497) (jj_gd h 64 8) n m s q v p) N ((-1), 0, 0, (upd (h 49) (0) 0), (h 498))).2.2.2.2)] 51 = hc1 51 from rfl).trans (ec1 51 (by decide))) rfl) ?_
              first | simpa only [vX10_span, rX10_span_49, rX10_span_51, rX10_span_498, if_neg c1, if_neg c2, if_neg c3, if_neg c4, if_pos c12, nI_clamp (show N < 2 ^ 31 by omega)] using kq hc1 ec1 | simpa only [vX10_span, rX10_span_49, rX10_span_51, rX10_span_498, if_neg c1, if_neg c2, if_neg c3, if_neg c4, if_pos c12] using kq hc1 ec1
        · skip
          refine rr_iconst 1 rfl dX10_span_44 ?_
          refine rr_goto dX10_span_45 ?_
          refine rr_iconst 1 rfl dX10_span_49 ?_
          refine rr_iconst 1 rfl dX10_span_50 ?_
          refine rr_callV (As := [.int 1, .int 1, .int 1]) (rest := []) (kc2 := 0) (ks2 := 0) dX10_span_51 okX10_bad lX10_171 lo_49 sh_49 rfl rfl (Nat.le_of_ble_eq_true rfl) (Nat.le_of_ble_eq_true rfl) rfl (by omega) (by simp [jj_rk]) (by simp [jj_rk]) ?_
          refine sp_X10_bad1_11 rfl ?_
          show jj_R _ _ kc ks (jj_S, 782, (jj_rs (jj_rs h [(49, (upd (h 49) (0) 0))]) [(49, (upd (upd (h 49) (0) 0) (0) 1)), (51, (upd (h 51) (1) (((h 51) 1) + 1)))]), g) 54 [(0, .ref 49), (1, .int s), (2, .int y), (3, .int q), (4, .int v), (5, .int w), (6, .int p)] [.int 1] Q
          rw [jj_rs_rs (B := h) (L := [(49, (upd (h 49) (0) 0))]) (M := [(49, (upd (upd (h 49) (0) 0) (0) 1)), (51, (upd (h 51) (1) (((h 51) 1) + 1)))]) (L2 := [(49, (upd (upd (h 49) (0) 0) (0) 1)), (51, (upd (h 51) (1) (((h 51) 1) + 1)))]) rfl]
          refine rr_if_eq dX10_span_54 (fun c => absurd c (by decide)) (fun _ => ?_)
          refine rr_iconst 0 rfl dX10_span_57 ?_
          refine rr_ireturn dX10_span_58 rfl ?_
          refine jj_Qh (jj_rs_add (B := h) (L := [(49, (upd (upd (h 49) (0) 0) (0) 1)), (51, (upd (h 51) (1) (((h 51) 1) + 1)))]) (L2 := [(49, (upd (upd (h 49) (0) 0) (0) 1)), (51, (upd (h 51) (1) (((h 51) 1) + 1))), (498, (h 498))]) (o := 498) (r := (h 498)) rfl rfl) ?_
          first | simpa only [vX10_span, rX10_span_49, rX10_span_51, rX10_span_498, if_neg c1, if_neg c2, if_neg c3, if_pos c4, nI_clamp (show N < 2 ^ 31 by omega)] using kq h jj_eq.rf | simpa only [vX10_span, rX10_span_49, rX10_span_51, rX10_span_498, if_neg c1, if_neg c2, if_neg c3, if_pos c4] using kq h jj_eq.rf
def fX10_share_1 (r497 : Nat → Int32) (n : Nat) (v : Int32) (q : Int32) (k1 : Nat) (a1 : Unit) : Sum (Unit) (Int32) := (if q < (vX10_givenBy r497 n v ((nI k1) + 1)) then (.inr (nI k1)) else (.inl ()))
def vX10_share (r49 : Nat → Int32) (r51 : Nat → Int32) (r497 : Nat → Int32) (n : Nat) (p : Int32) (v : Int32) (q : Int32) : Int32 := (if (vX10_isPerson n p) = 0 then 0 else (if (vX10_in v 0 (vX10_everybody n)) = 0 then 0 else (if (vX10_in q 0 9999) = 0 then 0 else (Sum.elim (fun a1 => (if (vX10_has v p) = 0 then 0 else (vX10_less (nI 999) (vX10_behind_n r497 p)))) (fun r1_ => (if (vX10_has v p) = 0 then 0 else (vX10_less r1_ (vX10_behind_n r497 p)))) (jj_fx (fX10_share_1 r497 n v q) 999 ())))))
def rX10_share_49 (r49 : Nat → Int32) (r51 : Nat → Int32) (r497 : Nat → Int32) (n : Nat) (p : Int32) (v : Int32) (q : Int32) : Nat → Int32 := (if (vX10_isPerson n p) = 0 then (upd (upd r49 (0) 0) (0) 1) else (if (vX10_in v 0 (vX10_everybody n)) = 0 then (upd (upd r49 (0) 0) (0) 2) else (if (vX10_in q 0 9999) = 0 then (upd (upd r49 (0) 0) (0) 2) else (upd r49 (0) 0))))
def rX10_share_51 (r49 : Nat → Int32) (r51 : Nat → Int32) (r497 : Nat → Int32) (n : Nat) (p : Int32) (v : Int32) (q : Int32) : Nat → Int32 := (if (vX10_isPerson n p) = 0 then (upd r51 (0) ((r51 0) + 1)) else (if (vX10_in v 0 (vX10_everybody n)) = 0 then (upd r51 (1) ((r51 1) + 1)) else (if (vX10_in q 0 9999) = 0 then (upd r51 (1) ((r51 1) + 1)) else r51)))
set_option maxHeartbeats 1000000 in
theorem sp_X10_share {d kc ks : Nat} {h : Nat → Nat → Int32} {g : Nat → Nat → Int64} {Q : jj_Rs → jj_St → Prop} {n : Nat} {p : Int32} {v : Int32} {q : Int32} (hT : h 53 0 = nI n) (hn : n ≤ 8) (kq : Q (.inl (some (.int (vX10_share (h 49) (h 51) (h 497) n p v q)))) (jj_S, 782, (jj_rs h [(49, (rX10_share_49 (h 49) (h 51) (h 497) n p v q)), (51, (rX10_share_51 (h 49) (h 51) (h 497) n p v q))]), g)) : jj_R mX10_share (d + 2) kc ks (jj_S, 782, h, g) 0 [(0, .ref 49), (1, .int p), (2, .int v), (3, .int q)] [] Q := by
  refine rr_aload_n 0 rfl rfl dX10_share_0 ?_
  refine rr_iconst 0 rfl dX10_share_1 ?_
  refine rr_putI dX10_share_2 fX10_95 ni10_0 lo_49 sh_49 rfl ?_
  rw [jj_rs_set0 (B := h) (o := 49) (r := (h 49)) rfl]
  refine rr_aload_n 0 rfl rfl dX10_share_5 ?_
  refine rr_aload_n 0 rfl rfl dX10_share_6 ?_
  refine rr_iload_n 1 rfl rfl dX10_share_7 ?_
  refine rr_callV (As := [.int p]) (rest := [.ref 49]) (kc2 := 0) (ks2 := 0) dX10_share_8 okX10_isPerson lX10_321 lo_49 sh_49 rfl rfl (Nat.le_of_ble_eq_true rfl) (Nat.le_of_ble_eq_true rfl) rfl (by omega) (by simp [jj_rk]) (by simp [jj_rk]) ?_
  refine sp_X10_isPerson (by first | exact hT | exact (congrFun (jj_eq.rf 53 (by decide)) 0).trans hT) hn ?_
  show jj_R _ _ kc ks (jj_S, 782, (jj_rs h [(49, (upd (h 49) (0) 0))]), g) 11 [(0, .ref 49), (1, .int p), (2, .int v), (3, .int q)] [.int (vX10_isPerson n p), .ref 49] Q
  refine rr_if_ne dX10_share_11 (fun c1 => ?_) (fun c1 => ?_)
  · skip
    refine rr_iconst 0 rfl dX10_share_18 ?_
    refine rr_iconst 1 rfl dX10_share_19 ?_
    refine rr_iconst 0 rfl dX10_share_20 ?_
    refine rr_callV (As := [.int 0, .int 1, .int 0]) (rest := []) (kc2 := 0) (ks2 := 0) dX10_share_21 okX10_bad lX10_171 lo_49 sh_49 rfl rfl (Nat.le_of_ble_eq_true rfl) (Nat.le_of_ble_eq_true rfl) rfl (by omega) (by simp [jj_rk]) (by simp [jj_rk]) ?_
    refine sp_X10_bad0_10 rfl ?_
    show jj_R _ _ kc ks (jj_S, 782, (jj_rs h [(49, (upd (h 49) (0) 0))]), g) 24 [(0, .ref 49), (1, .int p), (2, .int v), (3, .int q)] [.int 0] Q
    refine rr_if_ne dX10_share_24 (fun c => absurd c (by decide)) (fun _ => ?_)
    refine rr_aload_n 0 rfl rfl dX10_share_27 ?_
    refine rr_iload_n 2 rfl rfl dX10_share_28 ?_
    refine rr_iconst 0 rfl dX10_share_29 ?_
    refine rr_aload_n 0 rfl rfl dX10_share_30 ?_
    refine rr_callV (As := []) (rest := [.int 0, .int v, .ref 49]) (kc2 := 0) (ks2 := 0) dX10_share_31 okX10_everybody lX10_333 lo_49 sh_49 rfl rfl (Nat.le_of_ble_eq_true rfl) (Nat.le_of_ble_eq_true rfl) rfl (by omega) (by simp [jj_rk]) (by simp [jj_rk]) ?_
    refine sp_X10_everybody (by first | exact hT | exact (congrFun (jj_eq.rf 53 (by decide)) 0).trans hT) hn ?_
    show jj_R _ _ kc ks (jj_S, 782, (jj_rs h [(49, (upd (h 49) (0) 0))]), g) 34 [(0, .ref 49), (1, .int p), (2, .int v), (3, .int q)] [.int (vX10_everybody n), .int 0, .int v, .ref 49] Q
    refine rr_callS (As := [.int v, .int 0, .int (vX10_everybody n)]) (rest := [.ref 49]) (kc2 := 0) (ks2 := 0) dX10_share_34 okX10_in lX10_129 rfl (Nat.le_of_ble_eq_true rfl) (Nat.le_of_ble_eq_true rfl) rfl (by omega) (by simp [jj_rk]) (by simp [jj_rk]) ?_
    refine sp_X10_in  ?_
    show jj_R _ _ kc ks (jj_S, 782, (jj_rs h [(49, (upd (h 49) (0) 0))]), g) 37 [(0, .ref 49), (1, .int p), (2, .int v), (3, .int q)] [.int (vX10_in v 0 (vX10_everybody n)), .ref 49] Q
    refine rr_if_eq dX10_share_37 (fun c2 => ?_) (fun c2 => ?_)
    · skip
      refine rr_iconst 1 rfl dX10_share_51 ?_
      refine rr_goto dX10_share_52 ?_
      refine rr_iconst 2 rfl dX10_share_56 ?_
      refine rr_iconst 1 rfl dX10_share_57 ?_
      refine rr_callV (As := [.int 1, .int 2, .int 1]) (rest := []) (kc2 := 0) (ks2 := 0) dX10_share_58 okX10_bad lX10_171 lo_49 sh_49 rfl rfl (Nat.le_of_ble_eq_true rfl) (Nat.le_of_ble_eq_true rfl) rfl (by omega) (by simp [jj_rk]) (by simp [jj_rk]) ?_
      refine sp_X10_bad1_21 rfl ?_
      show jj_R _ _ kc ks (jj_S, 782, (jj_rs (jj_rs h [(49, (upd (h 49) (0) 0))]) [(49, (upd (upd (h 49) (0) 0) (0) 2)), (51, (upd (h 51) (1) (((h 51) 1) + 1)))]), g) 61 [(0, .ref 49), (1, .int p), (2, .int v), (3, .int q)] [.int 1] Q
      rw [jj_rs_rs (B := h) (L := [(49, (upd (h 49) (0) 0))]) (M := [(49, (upd (upd (h 49) (0) 0) (0) 2)), (51, (upd (h 51) (1) (((h 51) 1) + 1)))]) (L2 := [(49, (upd (upd (h 49) (0) 0) (0) 2)), (51, (upd (h 51) (1) (((h 51) 1) + 1)))]) rfl]
      refine rr_if_eq dX10_share_61 (fun c => absurd c (by decide)) (fun _ => ?_)
      refine rr_iconst 0 rfl dX10_share_64 ?_
      refine rr_ireturn dX10_share_65 rfl ?_
      simpa only [vX10_share, rX10_share_49, rX10_share_51, if_neg c1, if_pos c2] using kq
    · skip
      refine rr_iload_n 3 rfl rfl dX10_share_40 ?_
      refine rr_iconst 0 rfl dX10_share_41 ?_
      refine rr_sipush 9999 rfl dX10_share_42 ?_
      refine rr_callS (As := [.int q, .int 0, .int 9999]) (rest := [.ref 49]) (kc2 := 0) (ks2 := 0) dX10_share_45 okX10_in lX10_129 rfl (Nat.le_of_ble_eq_true rfl) (Nat.le_of_ble_eq_true rfl) rfl (by omega) (by simp [jj_rk]) (by simp [jj_rk]) ?_
      refine sp_X10_in  ?_
      show jj_R _ _ kc ks (jj_S, 782, (jj_rs h [(49, (upd (h 49) (0) 0))]), g) 48 [(0, .ref 49), (1, .int p), (2, .int v), (3, .int q)] [.int (vX10_in q 0 9999), .ref 49] Q
      refine rr_if_ne dX10_share_48 (fun c3 => ?_) (fun c3 => ?_)
      · skip
        refine rr_iconst 0 rfl dX10_share_55 ?_
        refine rr_iconst 2 rfl dX10_share_56 ?_
        refine rr_iconst 1 rfl dX10_share_57 ?_
        refine rr_callV (As := [.int 0, .int 2, .int 1]) (rest := []) (kc2 := 0) (ks2 := 0) dX10_share_58 okX10_bad lX10_171 lo_49 sh_49 rfl rfl (Nat.le_of_ble_eq_true rfl) (Nat.le_of_ble_eq_true rfl) rfl (by omega) (by simp [jj_rk]) (by simp [jj_rk]) ?_
        refine sp_X10_bad0_21 rfl ?_
        show jj_R _ _ kc ks (jj_S, 782, (jj_rs h [(49, (upd (h 49) (0) 0))]), g) 61 [(0, .ref 49), (1, .int p), (2, .int v), (3, .int q)] [.int 0] Q
        refine rr_if_eq dX10_share_61 (fun _ => ?_) (fun c => absurd (by decide) c)
        refine rr_iconst 0 rfl dX10_share_66 ?_
        refine rr_istore [(0, .ref 49), (1, .int p), (2, .int v), (3, .int q), (4, .int 0)] dX10_share_67 (by decide) rfl ?_
        refine jj_forx (fun k1 (a1 : Unit) => jj_R _ _ kc ks (jj_S, 782, (jj_rs h [(49, (upd (h 49) (0) 0))]), g) 69 [(0, .ref 49), (1, .int p), (2, .int v), (3, .int q), (4, .int (nI k1))] [] Q) (fX10_share_1 (h 497) n v q) 999 () (fun (r1_ : Int32) => jj_R mX10_share (d + 2) kc ks (jj_S, 782, (jj_rs h [(49, (upd (h 49) (0) 0))]), g) 96 [(0, .ref 49), (1, .int p), (2, .int v), (3, .int q), (4, .int r1_)] [] Q) ?_ ?_ ?_
        · intro k1 hk1 a1 ih1 ix1
          try dsimp only at ih1 ix1 ⊢
          refine rr_iload 4 rfl dX10_share_69 ?_
          refine rr_sipush 999 rfl dX10_share_71 ?_
          refine rr_icmp_ge dX10_share_74 (fun c => absurd c (nI_ge (a := k1) (b := 999) (by omega) (by omega))) (fun _ => ?_)
          refine rr_aload_n 0 rfl rfl dX10_share_77 ?_
          refine rr_iload_n 2 rfl rfl dX10_share_78 ?_
          refine rr_iload 4 rfl dX10_share_79 ?_
          refine rr_iconst 1 rfl dX10_share_81 ?_
          refine rr_iadd dX10_share_82 ?_
          refine rr_callV (As := [.int v, .int ((nI k1) + 1)]) (rest := []) (kc2 := 0) (ks2 := 0) dX10_share_83 okX10_givenBy lX10_366 lo_49 sh_49 rfl rfl (Nat.le_of_ble_eq_true rfl) (Nat.le_of_ble_eq_true rfl) rfl (by omega) (by simp [jj_rk]) (by simp [jj_rk]) ?_
          refine sp_X10_givenBy (by first | exact hT | exact (congrFun (jj_eq.rf 53 (by decide)) 0).trans hT) hn ?_
          show jj_R _ _ kc ks (jj_S, 782, (jj_rs h [(49, (upd (h 49) (0) 0))]), g) 86 [(0, .ref 49), (1, .int p), (2, .int v), (3, .int q), (4, .int (nI k1))] [.int (vX10_givenBy (h 497) n v ((nI k1) + 1))] Q
          refine rr_iload_n 3 rfl rfl dX10_share_86 ?_
          refine rr_icmp_gt dX10_share_87 (fun c4 => ?_) (fun c4 => ?_)
          · skip
            try simp only [(nI_clamp (show k1 < 2 ^ 31 by omega))] at c4
            simpa only [nI_1, (nI_clamp (show k1 < 2 ^ 31 by omega)), fX10_share_1, if_pos c4] using ix1 (nI k1) (by simp only [(nI_clamp (show k1 < 2 ^ 31 by omega)), fX10_share_1, if_pos c4])
          · skip
            refine rr_iinc 4 1 [(0, .ref 49), (1, .int p), (2, .int v), (3, .int q), (4, .int ((nI k1) + 1))] dX10_share_90 rfl rfl (by decide) rfl ?_
            refine rr_goto dX10_share_93 ?_
            try simp only [(nI_clamp (show k1 < 2 ^ 31 by omega))] at c4
            simpa only [nI_1, (nI_clamp (show k1 < 2 ^ 31 by omega)), fX10_share_1, if_neg c4] using ih1 () (by simp only [(nI_clamp (show k1 < 2 ^ 31 by omega)), fX10_share_1, if_neg c4])
        · intro a1 hx1
          try dsimp only
          refine rr_iload 4 rfl dX10_share_69 ?_
          refine rr_sipush 999 rfl dX10_share_71 ?_
          refine rr_icmp_ge dX10_share_74 (fun _ => ?_) (fun c => absurd (jj_le_rf _) c)
          refine rr_iload_n 2 rfl rfl dX10_share_96 ?_
          refine rr_iload_n 1 rfl rfl dX10_share_97 ?_
          refine rr_callS (As := [.int v, .int p]) (rest := []) (kc2 := 0) (ks2 := 0) dX10_share_98 okX10_has lX10_254 rfl (Nat.le_of_ble_eq_true rfl) (Nat.le_of_ble_eq_true rfl) rfl (by omega) (by simp [jj_rk]) (by simp [jj_rk]) ?_
          refine sp_X10_has  ?_
          show jj_R _ _ kc ks (jj_S, 782, (jj_rs h [(49, (upd (h 49) (0) 0))]), g) 101 [(0, .ref 49), (1, .int p), (2, .int v), (3, .int q), (4, .int (nI 999))] [.int (vX10_has v p)] Q
          refine rr_if_eq dX10_share_101 (fun c5 => ?_) (fun c5 => ?_)
          · skip
            refine rr_iconst 0 rfl dX10_share_120 ?_
            refine rr_ireturn dX10_share_121 rfl ?_
            refine jj_Qh (jj_rs_add (B := h) (L := [(49, (upd (h 49) (0) 0))]) (L2 := [(49, (upd (h 49) (0) 0)), (51, (h 51))]) (o := 51) (r := (h 51)) rfl rfl) ?_
            simpa only [vX10_share, rX10_share_49, rX10_share_51, if_neg c1, if_neg c2, if_neg c3, hx1, if_pos c5, Sum.elim_inl, Sum.elim_inr] using kq
          · skip
            refine rr_iload 4 rfl dX10_share_104 ?_
            refine rr_aload_n 0 rfl rfl dX10_share_106 ?_
            refine rr_getR dX10_share_107 fX10_61 lo_49 sh_49 rfl ?_
            refine rr_iload_n 1 rfl rfl dX10_share_110 ?_
            refine rr_callS (As := [.ref 497, .int p]) (rest := [.int (nI 999)]) (kc2 := 0) (ks2 := 0) dX10_share_111 okX10_behind lX10_260 rfl (Nat.le_of_ble_eq_true rfl) (Nat.le_of_ble_eq_true rfl) rfl (by omega) (by simp [jj_rk]) (by simp [jj_rk]) ?_
            refine sp_X10_behind_n (by first | assumption | (rw [show (jj_rs h [(49, (upd (h 49) (0) 0))]) 7 = h 7 from rfl]; assumption) | (rw [show (jj_rs h [(49, (upd (h 49) (0) 0))]) 1 = h 1 from rfl]; assumption) | exact jj_pM hn (by assumption) | exact jj_pM hn (jj_two (by assumption)).1 | exact jj_pM hn (jj_two (by assumption)).2 | decide | omega) ?_
            show jj_R _ _ kc ks (jj_S, 782, (jj_rs h [(49, (upd (h 49) (0) 0))]), g) 114 [(0, .ref 49), (1, .int p), (2, .int v), (3, .int q), (4, .int (nI 999))] [.int (vX10_behind_n (h 497) p), .int (nI 999)] Q
            refine rr_callS (As := [.int (nI 999), .int (vX10_behind_n (h 497) p)]) (rest := []) (kc2 := 0) (ks2 := 0) dX10_share_114 okX10_less lX10_235 rfl (Nat.le_of_ble_eq_true rfl) (Nat.le_of_ble_eq_true rfl) rfl (by omega) (by simp [jj_rk]) (by simp [jj_rk]) ?_
            refine sp_X10_less  ?_
            show jj_R _ _ kc ks (jj_S, 782, (jj_rs h [(49, (upd (h 49) (0) 0))]), g) 117 [(0, .ref 49), (1, .int p), (2, .int v), (3, .int q), (4, .int (nI 999))] [.int (vX10_less (nI 999) (vX10_behind_n (h 497) p))] Q
            refine rr_goto dX10_share_117 ?_
            refine rr_ireturn dX10_share_121 rfl ?_
            refine jj_Qh (jj_rs_add (B := h) (L := [(49, (upd (h 49) (0) 0))]) (L2 := [(49, (upd (h 49) (0) 0)), (51, (h 51))]) (o := 51) (r := (h 51)) rfl rfl) ?_
            simpa only [vX10_share, rX10_share_49, rX10_share_51, if_neg c1, if_neg c2, if_neg c3, hx1, if_neg c5, Sum.elim_inl, Sum.elim_inr] using kq
        · intro r1_ hx1
          try dsimp only
          refine rr_iload_n 2 rfl rfl dX10_share_96 ?_
          refine rr_iload_n 1 rfl rfl dX10_share_97 ?_
          refine rr_callS (As := [.int v, .int p]) (rest := []) (kc2 := 0) (ks2 := 0) dX10_share_98 okX10_has lX10_254 rfl (Nat.le_of_ble_eq_true rfl) (Nat.le_of_ble_eq_true rfl) rfl (by omega) (by simp [jj_rk]) (by simp [jj_rk]) ?_
          refine sp_X10_has  ?_
          show jj_R _ _ kc ks (jj_S, 782, (jj_rs h [(49, (upd (h 49) (0) 0))]), g) 101 [(0, .ref 49), (1, .int p), (2, .int v), (3, .int q), (4, .int r1_)] [.int (vX10_has v p)] Q
          refine rr_if_eq dX10_share_101 (fun c6 => ?_) (fun c6 => ?_)
          · skip
            refine rr_iconst 0 rfl dX10_share_120 ?_
            refine rr_ireturn dX10_share_121 rfl ?_
            refine jj_Qh (jj_rs_add (B := h) (L := [(49, (upd (h 49) (0) 0))]) (L2 := [(49, (upd (h 49) (0) 0)), (51, (h 51))]) (o := 51) (r := (h 51)) rfl rfl) ?_
            simpa only [vX10_share, rX10_share_49, rX10_share_51, if_neg c1, if_neg c2, if_neg c3, hx1, if_pos c6, Sum.elim_inl, Sum.elim_inr] using kq
          · skip
            refine rr_iload 4 rfl dX10_share_104 ?_
            refine rr_aload_n 0 rfl rfl dX10_share_106 ?_
            refine rr_getR dX10_share_107 fX10_61 lo_49 sh_49 rfl ?_
            refine rr_iload_n 1 rfl rfl dX10_share_110 ?_
            refine rr_callS (As := [.ref 497, .int p]) (rest := [.int r1_]) (kc2 := 0) (ks2 := 0) dX10_share_111 okX10_behind lX10_260 rfl (Nat.le_of_ble_eq_true rfl) (Nat.le_of_ble_eq_true rfl) rfl (by omega) (by simp [jj_rk]) (by simp [jj_rk]) ?_
            refine sp_X10_behind_n (by first | assumption | (rw [show (jj_rs h [(49, (upd (h 49) (0) 0))]) 7 = h 7 from rfl]; assumption) | (rw [show (jj_rs h [(49, (upd (h 49) (0) 0))]) 1 = h 1 from rfl]; assumption) | exact jj_pM hn (by assumption) | exact jj_pM hn (jj_two (by assumption)).1 | exact jj_pM hn (jj_two (by assumption)).2 | decide | omega) ?_
            show jj_R _ _ kc ks (jj_S, 782, (jj_rs h [(49, (upd (h 49) (0) 0))]), g) 114 [(0, .ref 49), (1, .int p), (2, .int v), (3, .int q), (4, .int r1_)] [.int (vX10_behind_n (h 497) p), .int r1_] Q
            refine rr_callS (As := [.int r1_, .int (vX10_behind_n (h 497) p)]) (rest := []) (kc2 := 0) (ks2 := 0) dX10_share_114 okX10_less lX10_235 rfl (Nat.le_of_ble_eq_true rfl) (Nat.le_of_ble_eq_true rfl) rfl (by omega) (by simp [jj_rk]) (by simp [jj_rk]) ?_
            refine sp_X10_less  ?_
            show jj_R _ _ kc ks (jj_S, 782, (jj_rs h [(49, (upd (h 49) (0) 0))]), g) 117 [(0, .ref 49), (1, .int p), (2, .int v), (3, .int q), (4, .int r1_)] [.int (vX10_less r1_ (vX10_behind_n (h 497) p))] Q
            refine rr_goto dX10_share_117 ?_
            refine rr_ireturn dX10_share_121 rfl ?_
            refine jj_Qh (jj_rs_add (B := h) (L := [(49, (upd (h 49) (0) 0))]) (L2 := [(49, (upd (h 49) (0) 0)), (51, (h 51))]) (o := 51) (r := (h 51)) rfl rfl) ?_
            simpa only [vX10_share, rX10_share_49, rX10_share_51, if_neg c1, if_neg c2, if_neg c3, hx1, if_neg c6, Sum.elim_inl, Sum.elim_inr] using kq
      · skip
        refine rr_iconst 1 rfl dX10_share_51 ?_
        refine rr_goto dX10_share_52 ?_
        refine rr_iconst 2 rfl dX10_share_56 ?_
        refine rr_iconst 1 rfl dX10_share_57 ?_
        refine rr_callV (As := [.int 1, .int 2, .int 1]) (rest := []) (kc2 := 0) (ks2 := 0) dX10_share_58 okX10_bad lX10_171 lo_49 sh_49 rfl rfl (Nat.le_of_ble_eq_true rfl) (Nat.le_of_ble_eq_true rfl) rfl (by omega) (by simp [jj_rk]) (by simp [jj_rk]) ?_
        refine sp_X10_bad1_21 rfl ?_
        show jj_R _ _ kc ks (jj_S, 782, (jj_rs (jj_rs h [(49, (upd (h 49) (0) 0))]) [(49, (upd (upd (h 49) (0) 0) (0) 2)), (51, (upd (h 51) (1) (((h 51) 1) + 1)))]), g) 61 [(0, .ref 49), (1, .int p), (2, .int v), (3, .int q)] [.int 1] Q
        rw [jj_rs_rs (B := h) (L := [(49, (upd (h 49) (0) 0))]) (M := [(49, (upd (upd (h 49) (0) 0) (0) 2)), (51, (upd (h 51) (1) (((h 51) 1) + 1)))]) (L2 := [(49, (upd (upd (h 49) (0) 0) (0) 2)), (51, (upd (h 51) (1) (((h 51) 1) + 1)))]) rfl]
        refine rr_if_eq dX10_share_61 (fun c => absurd c (by decide)) (fun _ => ?_)
        refine rr_iconst 0 rfl dX10_share_64 ?_
        refine rr_ireturn dX10_share_65 rfl ?_
        simpa only [vX10_share, rX10_share_49, rX10_share_51, if_neg c1, if_neg c2, if_pos c3] using kq
  · skip
    refine rr_iconst 1 rfl dX10_share_14 ?_
    refine rr_goto dX10_share_15 ?_
    refine rr_iconst 1 rfl dX10_share_19 ?_
    refine rr_iconst 0 rfl dX10_share_20 ?_
    refine rr_callV (As := [.int 1, .int 1, .int 0]) (rest := []) (kc2 := 0) (ks2 := 0) dX10_share_21 okX10_bad lX10_171 lo_49 sh_49 rfl rfl (Nat.le_of_ble_eq_true rfl) (Nat.le_of_ble_eq_true rfl) rfl (by omega) (by simp [jj_rk]) (by simp [jj_rk]) ?_
    refine sp_X10_bad1_10 rfl ?_
    show jj_R _ _ kc ks (jj_S, 782, (jj_rs (jj_rs h [(49, (upd (h 49) (0) 0))]) [(49, (upd (upd (h 49) (0) 0) (0) 1)), (51, (upd (h 51) (0) (((h 51) 0) + 1)))]), g) 24 [(0, .ref 49), (1, .int p), (2, .int v), (3, .int q)] [.int 1] Q
    rw [jj_rs_rs (B := h) (L := [(49, (upd (h 49) (0) 0))]) (M := [(49, (upd (upd (h 49) (0) 0) (0) 1)), (51, (upd (h 51) (0) (((h 51) 0) + 1)))]) (L2 := [(49, (upd (upd (h 49) (0) 0) (0) 1)), (51, (upd (h 51) (0) (((h 51) 0) + 1)))]) rfl]
    refine rr_if_ne dX10_share_24 (fun _ => ?_) (fun c => absurd c (by decide))
    refine rr_iconst 0 rfl dX10_share_64 ?_
    refine rr_ireturn dX10_share_65 rfl ?_
    simpa only [vX10_share, rX10_share_49, rX10_share_51, if_pos c1] using kq
def fX10_isTold_1 (g397 : Nat → Nat → Int32) (p : Int32) (k1 : Nat) (a1 : Unit) : Sum (Unit) (Int32) := (if (g397 k1 0) = p then (.inr 1) else (.inl ()))
def vX10_isTold (g397 : Nat → Nat → Int32) (nl : Nat) (p : Int32) : Int32 := (Sum.elim (fun a1 => 0) (fun r1_ => r1_) (jj_fx (fX10_isTold_1 g397 p) nl ()))
set_option maxHeartbeats 1000000 in
theorem sp_X10_isTold {d kc ks : Nat} {h : Nat → Nat → Int32} {g : Nat → Nat → Int64} {Q : jj_Rs → jj_St → Prop} {nl : Nat} {p : Int32} (hl : h 49 31 = nI nl) (hl2 : nl ≤ 8) (hlw : ∀ k, k < nl → vp_in (jj_gd h 397 8 k 0) 8) (kq : Q (.inl (some (.int (vX10_isTold (jj_gd h 397 8) nl p)))) (jj_S, 782, h, g)) : jj_R mX10_isTold (d + 0) kc ks (jj_S, 782, h, g) 0 [(0, .ref 49), (1, .int p)] [] Q := by
  refine rr_iconst 0 rfl dX10_isTold_0 ?_
  refine rr_istore_n [(0, .ref 49), (1, .int p), (2, .int 0)] dX10_isTold_1 rfl (by decide) rfl ?_
  refine jj_forx (fun k1 (a1 : Unit) => jj_R _ _ kc ks (jj_S, 782, h, g) 2 [(0, .ref 49), (1, .int p), (2, .int (nI k1))] [] Q) (fX10_isTold_1 (jj_gd h 397 8) p) nl () (fun (r1_ : Int32) => Q (.inl (some (.int r1_))) (jj_S, 782, h, g)) ?_ ?_ ?_
  · intro k1 hk1 a1 ih1 ix1
    try dsimp only at ih1 ix1 ⊢
    refine rr_iload_n 2 rfl rfl dX10_isTold_2 ?_
    refine rr_aload_n 0 rfl rfl dX10_isTold_3 ?_
    refine rr_getI dX10_isTold_4 fX10_191 lo_49 sh_49 rfl ?_
    rw [show (h 49) 31 = (nI nl) from hl]
    refine rr_icmp_ge dX10_isTold_7 (fun c => absurd c (nI_ge (a := k1) (b := nl) (by omega) (by omega))) (fun _ => ?_)
    refine rr_aload_n 0 rfl rfl dX10_isTold_10 ?_
    refine rr_getR dX10_isTold_11 fX10_46 lo_49 sh_49 rfl ?_
    refine rr_iload_n 2 rfl rfl dX10_isTold_14 ?_
    refine rr_aaload dX10_isTold_15 lo_396 sh_396 (vp_in_nI (by omega) (by decide)) ?_
    refine rr_iconst 0 rfl dX10_isTold_16 ?_
    refine rr_iaload dX10_isTold_17 (lr_396 (jj_ink (i := (nI k1)) (vp_in_nI (by omega) (by decide)))) (sr_396 (jj_ink (i := (nI k1)) (vp_in_nI (by omega) (by decide)))) (jj_inL rfl) ?_
    rw [show h (397 + ((nI k1) : Int32).toNatClampNeg) = jj_gd h 397 8 ((nI k1) : Int32).toNatClampNeg from (jj_gd_at (jj_ink (i := (nI k1)) (vp_in_nI (by omega) (by decide))))]
    rw [show jj_gd h 397 8 ((nI k1) : Int32).toNatClampNeg (0 : Int32).toNatClampNeg = jj_gd h 397 8 ((nI k1) : Int32).toNatClampNeg 0 from rfl]
    refine rr_iload_n 1 rfl rfl dX10_isTold_18 ?_
    refine rr_icmp_ne dX10_isTold_19 (fun c1 => ?_) (fun c1 => ?_)
    · skip
      refine rr_iinc 2 1 [(0, .ref 49), (1, .int p), (2, .int ((nI k1) + 1))] dX10_isTold_24 rfl rfl (by decide) rfl ?_
      refine rr_goto dX10_isTold_27 ?_
      try simp only [(nI_clamp (show k1 < 2 ^ 31 by omega))] at c1
      simpa only [nI_1, (nI_clamp (show k1 < 2 ^ 31 by omega)), fX10_isTold_1, if_neg c1] using ih1 () (by simp only [(nI_clamp (show k1 < 2 ^ 31 by omega)), fX10_isTold_1, if_neg c1])
    · skip
      refine rr_iconst 1 rfl dX10_isTold_22 ?_
      refine rr_nreturn dX10_isTold_23 rfl (by first | rfl | assumption) ?_
      try simp only [(nI_clamp (show k1 < 2 ^ 31 by omega))] at c1
      simpa only [nI_1, (nI_clamp (show k1 < 2 ^ 31 by omega)), fX10_isTold_1, if_pos c1] using ix1 1 (by simp only [(nI_clamp (show k1 < 2 ^ 31 by omega)), fX10_isTold_1, if_pos c1])
  · intro a1 hx1
    try dsimp only
    refine rr_iload_n 2 rfl rfl dX10_isTold_2 ?_
    refine rr_aload_n 0 rfl rfl dX10_isTold_3 ?_
    refine rr_getI dX10_isTold_4 fX10_191 lo_49 sh_49 rfl ?_
    rw [show (h 49) 31 = (nI nl) from hl]
    refine rr_icmp_ge dX10_isTold_7 (fun _ => ?_) (fun c => absurd (jj_le_rf _) c)
    refine rr_iconst 0 rfl dX10_isTold_30 ?_
    refine rr_nreturn dX10_isTold_31 rfl (by first | rfl | assumption) ?_
    simpa only [vX10_isTold, hx1, Sum.elim_inl, Sum.elim_inr] using kq
  · intro r1_ hx1
    try dsimp only
    simpa only [vX10_isTold, hx1, Sum.elim_inl, Sum.elim_inr] using kq
def fX10_isSo_1 (r8 : Nat → Int32) (r73 : Nat → Int32) (r497 : Nat → Int32) (r498 : Nat → Int32) (g64 : Nat → Nat → Int32) (g397 : Nat → Nat → Int32) (m : Nat) (a : Int32) (b : Int32) (k1 : Nat) (a1 : Unit) : Sum (Unit) (Int32) := (if ((rX10_ties_t_498 r8 r73 (rX10_copies_nt_498 r497 r498) g64 m a b 0) (((0 : Int32) + (g397 k1 0)) : Int32).toNatClampNeg) = (g397 k1 1) then (.inl ()) else (.inr 0))
def vX10_isSo (r8 : Nat → Int32) (r73 : Nat → Int32) (r497 : Nat → Int32) (r498 : Nat → Int32) (g64 : Nat → Nat → Int32) (g397 : Nat → Nat → Int32) (m : Nat) (nl : Nat) (a : Int32) (b : Int32) : Int32 := (Sum.elim (fun a1 => 1) (fun r1_ => r1_) (jj_fx (fX10_isSo_1 r8 r73 r497 r498 g64 g397 m a b) nl ()))
def rX10_isSo_498 (r8 : Nat → Int32) (r73 : Nat → Int32) (r497 : Nat → Int32) (r498 : Nat → Int32) (g64 : Nat → Nat → Int32) (g397 : Nat → Nat → Int32) (m : Nat) (nl : Nat) (a : Int32) (b : Int32) : Nat → Int32 := (rX10_ties_t_498 r8 r73 (rX10_copies_nt_498 r497 r498) g64 m a b 0)
set_option maxHeartbeats 1000000 in
theorem sp_X10_isSo {d kc ks : Nat} {h : Nat → Nat → Int32} {g : Nat → Nat → Int64} {Q : jj_Rs → jj_St → Prop} {m : Nat} {nl : Nat} {a : Int32} {b : Int32} (ha : vp_in a 8) (hb : vp_in b 8) (hM : h 49 17 = nI m) (hm2 : m ≤ 150) (hw : lawok (h 8) (jj_gd h 75 160) m) (hl : h 49 31 = nI nl) (hl2 : nl ≤ 8) (hlw : ∀ k, k < nl → vp_in (jj_gd h 397 8 k 0) 8) (kq : ∀ h9, jj_eq [414, 415] h h9 → Q (.inl (some (.int (vX10_isSo (h 8) (h 73) (h 497) (h 498) (jj_gd h 64 8) (jj_gd h 397 8) m nl a b)))) (jj_S, 782, (jj_rs h9 [(498, (rX10_isSo_498 (h 8) (h 73) (h 497) (h 498) (jj_gd h 64 8) (jj_gd h 397 8) m nl a b))]), g)) : jj_R mX10_isSo (d + 6) kc ks (jj_S, 782, h, g) 0 [(0, .ref 49), (1, .int a), (2, .int b)] [] Q := by
  refine rr_aload_n 0 rfl rfl dX10_isSo_0 ?_
  refine rr_getR dX10_isSo_1 fX10_61 lo_49 sh_49 rfl ?_
  refine rr_aload_n 0 rfl rfl dX10_isSo_4 ?_
  refine rr_getR dX10_isSo_5 fX10_64 lo_49 sh_49 rfl ?_
  refine rr_callS (As := [.ref 497, .ref 498]) (rest := []) (kc2 := 0) (ks2 := 0) dX10_isSo_8 okX10_copies lX10_304 rfl (Nat.le_of_ble_eq_true rfl) (Nat.le_of_ble_eq_true rfl) rfl (by omega) (by simp [jj_rk]) (by simp [jj_rk]) ?_
  refine sp_X10_copies_nt  ?_
  show jj_R _ _ kc ks (jj_S, 782, (jj_rs h [(498, (rX10_copies_nt_498 (h 497) (h 498)))]), g) 11 [(0, .ref 49), (1, .int a), (2, .int b)] [] Q
  refine rr_aload_n 0 rfl rfl dX10_isSo_11 ?_
  refine rr_aload_n 0 rfl rfl dX10_isSo_12 ?_
  refine rr_getR dX10_isSo_13 fX10_64 lo_49 sh_49 rfl ?_
  refine rr_iload_n 1 rfl rfl dX10_isSo_16 ?_
  refine rr_iload_n 2 rfl rfl dX10_isSo_17 ?_
  refine rr_iconst 0 rfl dX10_isSo_18 ?_
  refine rr_callV (As := [.ref 498, .int a, .int b, .int 0]) (rest := []) (kc2 := 0) (ks2 := 0) dX10_isSo_19 okX10_ties lX10_280 lo_49 sh_49 rfl rfl (Nat.le_of_ble_eq_true rfl) (Nat.le_of_ble_eq_true rfl) rfl (by omega) (by simp [jj_rk]) (by simp [jj_rk]) ?_
  refine sp_X10_ties_t (by first | assumption | (rw [show (jj_rs h [(498, (rX10_copies_nt_498 (h 497) (h 498)))]) 7 = h 7 from rfl]; assumption) | (rw [show (jj_rs h [(498, (rX10_copies_nt_498 (h 497) (h 498)))]) 1 = h 1 from rfl]; assumption) | exact jj_pM hn (by assumption) | exact jj_pM hn (jj_two (by assumption)).1 | exact jj_pM hn (jj_two (by assumption)).2 | decide | omega) (by first | assumption | (rw [show (jj_rs h [(498, (rX10_copies_nt_498 (h 497) (h 498)))]) 7 = h 7 from rfl]; assumption) | (rw [show (jj_rs h [(498, (rX10_copies_nt_498 (h 497) (h 498)))]) 1 = h 1 from rfl]; assumption) | exact jj_pM hn (by assumption) | exact jj_pM hn (jj_two (by assumption)).1 | exact jj_pM hn (jj_two (by assumption)).2 | decide | omega) (by first | exact hM | exact (congrFun (jj_eq.rf 49 (by decide)) 17).trans hM | assumption) hm2 (lw_to (jj_gd_rs (B := h) (L := [(498, (rX10_copies_nt_498 (h 497) (h 498)))]) (b := 75) (len := 160) rfl) (show (jj_rs h [(498, (rX10_copies_nt_498 (h 497) (h 498)))]) 8 = h 8 from rfl) hw) (fun h1 e2 => ?_)
  obtain ⟨h4, e3, rfl⟩ := jj_lo (X := [414, 415]) (jj_eq.rf (X := [414, 415])) e2 (by decide) (by simp [List.lookup])
  show jj_R _ _ kc ks (jj_S, 782, (jj_rs (jj_rs h4 [(498, (rX10_copies_nt_498 (h 497) (h 498)))]) [(498, (rX10_ties_t_498 (h 8) (h 73) (rX10_copies_nt_498 (h 497) (h 498)) (jj_gd (jj_rs h [(498, (rX10_copies_nt_498 (h 497) (h 498)))]) 64 8) m a b 0))]), g) 22 [(0, .ref 49), (1, .int a), (2, .int b)] [.int (vX10_ties_t (h 8) (h 73) (rX10_copies_nt_498 (h 497) (h 498)) (jj_gd (jj_rs h [(498, (rX10_copies_nt_498 (h 497) (h 498)))]) 64 8) m a b 0)] Q
  rw [jj_rs_rs (B := h4) (L := [(498, (rX10_copies_nt_498 (h 497) (h 498)))]) (M := [(498, (rX10_ties_t_498 (h 8) (h 73) (rX10_copies_nt_498 (h 497) (h 498)) (jj_gd (jj_rs h [(498, (rX10_copies_nt_498 (h 497) (h 498)))]) 64 8) m a b 0))]) (L2 := [(498, (rX10_ties_t_498 (h 8) (h 73) (rX10_copies_nt_498 (h 497) (h 498)) (jj_gd (jj_rs h [(498, (rX10_copies_nt_498 (h 497) (h 498)))]) 64 8) m a b 0))]) rfl]
  try rw [show jj_gd (jj_rs h [(498, (rX10_copies_nt_498 (h 497) (h 498)))]) 64 8 = jj_gd h 64 8 from (jj_gd_rs (B := h) (L := [(498, (rX10_copies_nt_498 (h 497) (h 498)))]) (b := 64) (len := 8) rfl)]
  refine rr_pop rfl dX10_isSo_22 ?_
  refine rr_iconst 0 rfl dX10_isSo_23 ?_
  refine rr_istore_n [(0, .ref 49), (1, .int a), (2, .int b), (3, .int 0)] dX10_isSo_24 rfl (by decide) rfl ?_
  refine jj_forx (fun k1 (a1 : Unit) => ∀ hc1, jj_eq [414, 415] h hc1 → jj_R _ _ kc ks (jj_S, 782, (jj_rs hc1 [(498, (rX10_ties_t_498 (h 8) (h 73) (rX10_copies_nt_498 (h 497) (h 498)) (jj_gd h 64 8) m a b 0))]), g) 25 [(0, .ref 49), (1, .int a), (2, .int b), (3, .int (nI k1))] [] Q) (fX10_isSo_1 (h 8) (h 73) (h 497) (h 498) (jj_gd h 64 8) (jj_gd h 397 8) m a b) nl () (fun (r1_ : Int32) => ∀ hc1, jj_eq [414, 415] h hc1 → Q (.inl (some (.int r1_))) (jj_S, 782, (jj_rs hc1 [(498, (rX10_ties_t_498 (h 8) (h 73) (rX10_copies_nt_498 (h 497) (h 498)) (jj_gd h 64 8) m a b 0))]), g)) ?_ ?_ ?_ h4 e3
  · intro k1 hk1 a1 ih1 ix1 hc1 ec1
    try dsimp only at ih1 ix1 ⊢
    refine rr_iload_n 3 rfl rfl dX10_isSo_25 ?_
    refine rr_aload_n 0 rfl rfl dX10_isSo_26 ?_
    refine rr_getI dX10_isSo_27 fX10_191 lo_49 sh_49 rfl ?_
    rw [show (jj_rs hc1 [(498, (rX10_ties_t_498 (h 8) (h 73) (rX10_copies_nt_498 (h 497) (h 498)) (jj_gd h 64 8) m a b 0))]) 49 = hc1 49 from rfl]
    rw [ec1 49 (by decide)]
    rw [show (h 49) 31 = (nI nl) from hl]
    refine rr_icmp_ge dX10_isSo_30 (fun c => absurd c (nI_ge (a := k1) (b := nl) (by omega) (by omega))) (fun _ => ?_)
    refine rr_aload_n 0 rfl rfl dX10_isSo_33 ?_
    refine rr_getR dX10_isSo_34 fX10_64 lo_49 sh_49 rfl ?_
    refine rr_iconst 0 rfl dX10_isSo_37 ?_
    refine rr_aload_n 0 rfl rfl dX10_isSo_38 ?_
    refine rr_getR dX10_isSo_39 fX10_46 lo_49 sh_49 rfl ?_
    refine rr_iload_n 3 rfl rfl dX10_isSo_42 ?_
    refine rr_aaload dX10_isSo_43 lo_396 sh_396 (vp_in_nI (by omega) (by decide)) ?_
    refine rr_iconst 0 rfl dX10_isSo_44 ?_
    refine rr_iaload dX10_isSo_45 (lr_396 (jj_ink (i := (nI k1)) (vp_in_nI (by omega) (by decide)))) (sr_396 (jj_ink (i := (nI k1)) (vp_in_nI (by omega) (by decide)))) (jj_inL rfl) ?_
    rw [show (jj_rs hc1 [(498, (rX10_ties_t_498 (h 8) (h 73) (rX10_copies_nt_498 (h 497) (h 498)) (jj_gd h 64 8) m a b 0))]) (397 + ((nI k1) : Int32).toNatClampNeg) = jj_gd h 397 8 ((nI k1) : Int32).toNatClampNeg from ((jj_gd_at (jj_ink (i := (nI k1)) (vp_in_nI (by omega) (by decide)))).trans (congrFun ((jj_gd_rs (B := hc1) (L := [(498, (rX10_ties_t_498 (h 8) (h 73) (rX10_copies_nt_498 (h 497) (h 498)) (jj_gd h 64 8) m a b 0))]) (b := 397) (len := 8) rfl).trans (jj_gd_eq (b := 397) (len := 8) ec1 rfl)) _))]
    rw [show jj_gd h 397 8 ((nI k1) : Int32).toNatClampNeg (0 : Int32).toNatClampNeg = jj_gd h 397 8 ((nI k1) : Int32).toNatClampNeg 0 from rfl]
    refine rr_iadd dX10_isSo_46 ?_
    refine rr_iaload dX10_isSo_47 lo_498 sh_498 (jj_rowin (n := 8) (o := 0) (by rw [nI_clamp (show k1 < 2 ^ 31 by omega)]; exact hlw _ (by assumption)) (by decide) (by decide)) ?_
    rw [show (jj_rs hc1 [(498, (rX10_ties_t_498 (h 8) (h 73) (rX10_copies_nt_498 (h 497) (h 498)) (jj_gd h 64 8) m a b 0))]) 498 = (rX10_ties_t_498 (h 8) (h 73) (rX10_copies_nt_498 (h 497) (h 498)) (jj_gd h 64 8) m a b 0) from rfl]
    refine rr_aload_n 0 rfl rfl dX10_isSo_48 ?_
    refine rr_getR dX10_isSo_49 fX10_46 lo_49 sh_49 rfl ?_
    refine rr_iload_n 3 rfl rfl dX10_isSo_52 ?_
    refine rr_aaload dX10_isSo_53 lo_396 sh_396 (vp_in_nI (by omega) (by decide)) ?_
    refine rr_iconst 1 rfl dX10_isSo_54 ?_
    refine rr_iaload dX10_isSo_55 (lr_396 (jj_ink (i := (nI k1)) (vp_in_nI (by omega) (by decide)))) (sr_396 (jj_ink (i := (nI k1)) (vp_in_nI (by omega) (by decide)))) (jj_inL rfl) ?_
    rw [show (jj_rs hc1 [(498, (rX10_ties_t_498 (h 8) (h 73) (rX10_copies_nt_498 (h 497) (h 498)) (jj_gd h 64 8) m a b 0))]) (397 + ((nI k1) : Int32).toNatClampNeg) = jj_gd h 397 8 ((nI k1) : Int32).toNatClampNeg from ((jj_gd_at (jj_ink (i := (nI k1)) (vp_in_nI (by omega) (by decide)))).trans (congrFun ((jj_gd_rs (B := hc1) (L := [(498, (rX10_ties_t_498 (h 8) (h 73) (rX10_copies_nt_498 (h 497) (h 498)) (jj_gd h 64 8) m a b 0))]) (b := 397) (len := 8) rfl).trans (jj_gd_eq (b := 397) (len := 8) ec1 rfl)) _))]
    rw [show jj_gd h 397 8 ((nI k1) : Int32).toNatClampNeg (1 : Int32).toNatClampNeg = jj_gd h 397 8 ((nI k1) : Int32).toNatClampNeg 1 from rfl]
    refine rr_icmp_eq dX10_isSo_56 (fun c5 => ?_) (fun c5 => ?_)
    · skip
      refine rr_iinc 3 1 [(0, .ref 49), (1, .int a), (2, .int b), (3, .int ((nI k1) + 1))] dX10_isSo_61 rfl rfl (by decide) rfl ?_
      refine rr_goto dX10_isSo_64 ?_
      try simp only [(nI_clamp (show k1 < 2 ^ 31 by omega))] at c5
      simpa only [nI_1, (nI_clamp (show k1 < 2 ^ 31 by omega)), fX10_isSo_1, if_pos c5] using ih1 () (by simp only [(nI_clamp (show k1 < 2 ^ 31 by omega)), fX10_isSo_1, if_pos c5]) hc1 ec1
    · skip
      refine rr_iconst 0 rfl dX10_isSo_59 ?_
      refine rr_nreturn dX10_isSo_60 rfl (by first | rfl | assumption) ?_
      try simp only [(nI_clamp (show k1 < 2 ^ 31 by omega))] at c5
      simpa only [nI_1, (nI_clamp (show k1 < 2 ^ 31 by omega)), fX10_isSo_1, if_neg c5] using ix1 0 (by simp only [(nI_clamp (show k1 < 2 ^ 31 by omega)), fX10_isSo_1, if_neg c5]) hc1 ec1
  · intro a1 hx1 hc1 ec1
    try dsimp only
    refine rr_iload_n 3 rfl rfl dX10_isSo_25 ?_
    refine rr_aload_n 0 rfl rfl dX10_isSo_26 ?_
    refine rr_getI dX10_isSo_27 fX10_191 lo_49 sh_49 rfl ?_
    rw [show (jj_rs hc1 [(498, (rX10_ties_t_498 (h 8) (h 73) (rX10_copies_nt_498 (h 497) (h 498)) (jj_gd h 64 8) m a b 0))]) 49 = hc1 49 from rfl]
    rw [ec1 49 (by decide)]
    rw [show (h 49) 31 = (nI nl) from hl]
    refine rr_icmp_ge dX10_isSo_30 (fun _ => ?_) (fun c => absurd (jj_le_rf _) c)
    refine rr_iconst 1 rfl dX10_isSo_67 ?_
    refine rr_nreturn dX10_isSo_68 rfl (by first | rfl | assumption) ?_
    simpa only [vX10_isSo, rX10_isSo_498, hx1, Sum.elim_inl, Sum.elim_inr] using kq hc1 ec1
  · intro r1_ hx1 hc1 ec1
    try dsimp only
    simpa only [vX10_isSo, rX10_isSo_498, hx1, Sum.elim_inl, Sum.elim_inr] using kq hc1 ec1
def fX10_fits_2 (r8 : Nat → Int32) (r73 : Nat → Int32) (r497 : Nat → Int32) (g64 : Nat → Nat → Int32) (g397 : Nat → Nat → Int32) (m : Nat) (nl : Nat) (k1 : Nat) (k2 : Nat) (a2 : Int32 × Int32 × (Nat → Int32)) : Int32 × Int32 × (Nat → Int32) := (if (vX10_isSo r8 r73 r497 a2.2.2 g64 g397 m nl (nI k1) (nI k2)) = 0 then (a2.1, a2.2.1, (rX10_isSo_498 r8 r73 r497 a2.2.2 g64 g397 m nl (nI k1) (nI k2))) else (if a2.1 = 0 then ((a2.1 + 1), (((10 : Int32) * (nI k1)) + (nI k2)), (rX10_isSo_498 r8 r73 r497 a2.2.2 g64 g397 m nl (nI k1) (nI k2))) else ((a2.1 + 1), a2.2.1, (rX10_isSo_498 r8 r73 r497 a2.2.2 g64 g397 m nl (nI k1) (nI k2)))))
def fX10_fits_1 (r8 : Nat → Int32) (r73 : Nat → Int32) (r497 : Nat → Int32) (g64 : Nat → Nat → Int32) (g397 : Nat → Nat → Int32) (n : Nat) (m : Nat) (nl : Nat) (k1 : Nat) (a1 : Int32 × Int32 × (Nat → Int32)) : Int32 × Int32 × (Nat → Int32) := ((jj_fo (fX10_fits_2 r8 r73 r497 g64 g397 m nl k1) n (a1.1, a1.2.1, a1.2.2)).1, (jj_fo (fX10_fits_2 r8 r73 r497 g64 g397 m nl k1) n (a1.1, a1.2.1, a1.2.2)).2.1, (jj_fo (fX10_fits_2 r8 r73 r497 g64 g397 m nl k1) n (a1.1, a1.2.1, a1.2.2)).2.2)
def vX10_fits (r8 : Nat → Int32) (r49 : Nat → Int32) (r51 : Nat → Int32) (r73 : Nat → Int32) (r497 : Nat → Int32) (r498 : Nat → Int32) (g64 : Nat → Nat → Int32) (g397 : Nat → Nat → Int32) (n : Nat) (m : Nat) (nl : Nat) (w : Int32) : Int32 := (if (vX10_in w 0 1) = 0 then 0 else (if w = 0 then (jj_fo (fX10_fits_1 r8 r73 r497 g64 g397 n m nl) n (0, (-1), r498)).1 else (jj_fo (fX10_fits_1 r8 r73 r497 g64 g397 n m nl) n (0, (-1), r498)).2.1))
def rX10_fits_49 (r8 : Nat → Int32) (r49 : Nat → Int32) (r51 : Nat → Int32) (r73 : Nat → Int32) (r497 : Nat → Int32) (r498 : Nat → Int32) (g64 : Nat → Nat → Int32) (g397 : Nat → Nat → Int32) (n : Nat) (m : Nat) (nl : Nat) (w : Int32) : Nat → Int32 := (if (vX10_in w 0 1) = 0 then (upd (upd r49 (0) 0) (0) 1) else (upd r49 (0) 0))
def rX10_fits_51 (r8 : Nat → Int32) (r49 : Nat → Int32) (r51 : Nat → Int32) (r73 : Nat → Int32) (r497 : Nat → Int32) (r498 : Nat → Int32) (g64 : Nat → Nat → Int32) (g397 : Nat → Nat → Int32) (n : Nat) (m : Nat) (nl : Nat) (w : Int32) : Nat → Int32 := (if (vX10_in w 0 1) = 0 then (upd r51 (1) ((r51 1) + 1)) else r51)
def rX10_fits_498 (r8 : Nat → Int32) (r49 : Nat → Int32) (r51 : Nat → Int32) (r73 : Nat → Int32) (r497 : Nat → Int32) (r498 : Nat → Int32) (g64 : Nat → Nat → Int32) (g397 : Nat → Nat → Int32) (n : Nat) (m : Nat) (nl : Nat) (w : Int32) : Nat → Int32 := (if (vX10_in w 0 1) = 0 then r498 else (jj_fo (fX10_fits_1 r8 r73 r497 g64 g397 n m nl) n (0, (-1), r498)).2.2)
set_option maxHeartbeats 1000000 in
theorem sp_X10_fits {d kc ks : Nat} {h : Nat → Nat → Int32} {g : Nat → Nat → Int64} {Q : jj_Rs → jj_St → Prop} {n : Nat} {m : Nat} {nl : Nat} {w : Int32} (hT : h 53 0 = nI n) (hn : n ≤ 8) (hM : h 49 17 = nI m) (hm2 : m ≤ 150) (hw : lawok (h 8) (jj_gd h 75 160) m) (hl : h 49 31 = nI nl) (hl2 : nl ≤ 8) (hlw : ∀ k, k < nl → vp_in (jj_gd h 397 8 k 0) 8) (kq : ∀ h9, jj_eq [414, 415] h h9 → Q (.inl (some (.int (vX10_fits (h 8) (h 49) (h 51) (h 73) (h 497) (h 498) (jj_gd h 64 8) (jj_gd h 397 8) n m nl w)))) (jj_S, 782, (jj_rs h9 [(49, (rX10_fits_49 (h 8) (h 49) (h 51) (h 73) (h 497) (h 498) (jj_gd h 64 8) (jj_gd h 397 8) n m nl w)), (51, (rX10_fits_51 (h 8) (h 49) (h 51) (h 73) (h 497) (h 498) (jj_gd h 64 8) (jj_gd h 397 8) n m nl w)), (498, (rX10_fits_498 (h 8) (h 49) (h 51) (h 73) (h 497) (h 498) (jj_gd h 64 8) (jj_gd h 397 8) n m nl w))]), g)) : jj_R mX10_fits (d + 7) kc ks (jj_S, 782, h, g) 0 [(0, .ref 49), (1, .int w)] [] Q := by
  refine rr_aload_n 0 rfl rfl dX10_fits_0 ?_
  refine rr_iconst 0 rfl dX10_fits_1 ?_
  refine rr_putI dX10_fits_2 fX10_95 ni10_0 lo_49 sh_49 rfl ?_
  rw [jj_rs_set0 (B := h) (o := 49) (r := (h 49)) rfl]
  refine rr_aload_n 0 rfl rfl dX10_fits_5 ?_
  refine rr_iload_n 1 rfl rfl dX10_fits_6 ?_
  refine rr_iconst 0 rfl dX10_fits_7 ?_
  refine rr_iconst 1 rfl dX10_fits_8 ?_
  refine rr_callS (As := [.int w, .int 0, .int 1]) (rest := [.ref 49]) (kc2 := 0) (ks2 := 0) dX10_fits_9 okX10_in lX10_129 rfl (Nat.le_of_ble_eq_true rfl) (Nat.le_of_ble_eq_true rfl) rfl (by omega) (by simp [jj_rk]) (by simp [jj_rk]) ?_
  refine sp_X10_in  ?_
  show jj_R _ _ kc ks (jj_S, 782, (jj_rs h [(49, (upd (h 49) (0) 0))]), g) 12 [(0, .ref 49), (1, .int w)] [.int (vX10_in w 0 1), .ref 49] Q
  refine rr_if_ne dX10_fits_12 (fun c1 => ?_) (fun c1 => ?_)
  · skip
    refine rr_iconst 0 rfl dX10_fits_19 ?_
    refine rr_iconst 1 rfl dX10_fits_20 ?_
    refine rr_iconst 1 rfl dX10_fits_21 ?_
    refine rr_callV (As := [.int 0, .int 1, .int 1]) (rest := []) (kc2 := 0) (ks2 := 0) dX10_fits_22 okX10_bad lX10_171 lo_49 sh_49 rfl rfl (Nat.le_of_ble_eq_true rfl) (Nat.le_of_ble_eq_true rfl) rfl (by omega) (by simp [jj_rk]) (by simp [jj_rk]) ?_
    refine sp_X10_bad0_11 rfl ?_
    show jj_R _ _ kc ks (jj_S, 782, (jj_rs h [(49, (upd (h 49) (0) 0))]), g) 25 [(0, .ref 49), (1, .int w)] [.int 0] Q
    refine rr_if_eq dX10_fits_25 (fun _ => ?_) (fun c => absurd (by decide) c)
    refine rr_iconst 0 rfl dX10_fits_30 ?_
    refine rr_istore_n [(0, .ref 49), (1, .int w), (2, .int 0)] dX10_fits_31 rfl (by decide) rfl ?_
    refine rr_iconst (-1) rfl dX10_fits_32 ?_
    refine rr_istore_n [(0, .ref 49), (1, .int w), (2, .int 0), (3, .int (-1))] dX10_fits_33 rfl (by decide) rfl ?_
    refine rr_iconst 0 rfl dX10_fits_34 ?_
    refine rr_istore [(0, .ref 49), (1, .int w), (2, .int 0), (3, .int (-1)), (4, .int 0)] dX10_fits_35 (by decide) rfl ?_
    refine jj_Rh (jj_rs_add (B := h) (L := [(49, (upd (h 49) (0) 0))]) (L2 := [(49, (upd (h 49) (0) 0)), (498, (h 498))]) (o := 498) (r := (h 498)) rfl rfl) ?_
    refine jj_for (fun k1 (a1 : Int32 × Int32 × (Nat → Int32)) => ∀ hc1, jj_eq [414, 415] h hc1 → jj_R _ _ kc ks (jj_S, 782, (jj_rs hc1 [(49, (upd (h 49) (0) 0)), (498, a1.2.2)]), g) 37 [(0, .ref 49), (1, .int w), (2, .int a1.1), (3, .int a1.2.1), (4, .int (nI k1))] [] Q) (fX10_fits_1 (h 8) (h 73) (h 497) (jj_gd h 64 8) (jj_gd h 397 8) n m nl) n (0, (-1), (h 498)) ?_ ?_ h jj_eq.rf
    · intro k1 hk1 ih1 hc1 ec1
      generalize jj_fo _ k1 _ = a1 at ih1 ⊢
      try dsimp only at ih1 ⊢
      refine rr_iload 4 rfl dX10_fits_37 ?_
      refine rr_aload_n 0 rfl rfl dX10_fits_39 ?_
      refine rr_getR dX10_fits_40 fX10_23 lo_49 sh_49 rfl ?_
      refine rr_iconst 0 rfl dX10_fits_43 ?_
      refine rr_iaload dX10_fits_44 lo_53 sh_53 (jj_inL rfl) ?_
      rw [show (jj_rs hc1 [(49, (upd (h 49) (0) 0)), (498, a1.2.2)]) 53 = hc1 53 from rfl]
      rw [ec1 53 (by decide)]
      rw [show (h 53) (0 : Int32).toNatClampNeg = (nI n) from hT]
      refine rr_icmp_ge dX10_fits_45 (fun c => absurd c (nI_ge (a := k1) (b := n) (by omega) (by omega))) (fun _ => ?_)
      refine rr_iconst 0 rfl dX10_fits_48 ?_
      refine rr_istore [(0, .ref 49), (1, .int w), (2, .int a1.1), (3, .int a1.2.1), (4, .int (nI k1)), (5, .int 0)] dX10_fits_49 (by decide) rfl ?_
      refine jj_for (fun k2 (a2 : Int32 × Int32 × (Nat → Int32)) => ∀ hc2, jj_eq [414, 415] h hc2 → jj_R _ _ kc ks (jj_S, 782, (jj_rs hc2 [(49, (upd (h 49) (0) 0)), (498, a2.2.2)]), g) 51 [(0, .ref 49), (1, .int w), (2, .int a2.1), (3, .int a2.2.1), (4, .int (nI k1)), (5, .int (nI k2))] [] Q) (fX10_fits_2 (h 8) (h 73) (h 497) (jj_gd h 64 8) (jj_gd h 397 8) m nl k1) n (a1.1, a1.2.1, a1.2.2) ?_ ?_ hc1 ec1
      · intro k2 hk2 ih2 hc2 ec2
        generalize jj_fo _ k2 _ = a2 at ih2 ⊢
        try dsimp only at ih2 ⊢
        refine rr_iload 5 rfl dX10_fits_51 ?_
        refine rr_aload_n 0 rfl rfl dX10_fits_53 ?_
        refine rr_getR dX10_fits_54 fX10_23 lo_49 sh_49 rfl ?_
        refine rr_iconst 0 rfl dX10_fits_57 ?_
        refine rr_iaload dX10_fits_58 lo_53 sh_53 (jj_inL rfl) ?_
        rw [show (jj_rs hc2 [(49, (upd (h 49) (0) 0)), (498, a2.2.2)]) 53 = hc2 53 from rfl]
        rw [ec2 53 (by decide)]
        rw [show (h 53) (0 : Int32).toNatClampNeg = (nI n) from hT]
        refine rr_icmp_ge dX10_fits_59 (fun c => absurd c (nI_ge (a := k2) (b := n) (by omega) (by omega))) (fun _ => ?_)
        refine rr_aload_n 0 rfl rfl dX10_fits_62 ?_
        refine rr_iload 4 rfl dX10_fits_63 ?_
        refine rr_iload 5 rfl dX10_fits_65 ?_
        refine rr_callV (As := [.int (nI k1), .int (nI k2)]) (rest := []) (kc2 := 0) (ks2 := 0) dX10_fits_67 okX10_isSo lX10_349 lo_49 sh_49 rfl rfl (Nat.le_of_ble_eq_true rfl) (Nat.le_of_ble_eq_true rfl) rfl (by omega) (by simp [jj_rk]) (by simp [jj_rk]) ?_
        refine sp_X10_isSo (vp_in_nI (by omega) (by decide)) (vp_in_nI (by omega) (by decide)) (by first | exact hM | exact (congrFun (ec2 49 (by decide)) 17).trans hM | assumption) hm2 (lw_to ((jj_gd_rs (B := hc2) (L := [(49, (upd (h 49) (0) 0)), (498, a2.2.2)]) (b := 75) (len := 160) rfl).trans (jj_gd_eq (b := 75) (len := 160) ec2 rfl)) (show (jj_rs hc2 [(49, (upd (h 49) (0) 0)), (498, a2.2.2)]) 8 = h 8 from ec2 8 (by decide)) hw) (by first | exact hl | exact (congrFun (ec2 49 (by decide)) 31).trans hl | assumption) hl2 (ln_to ((jj_gd_rs (B := hc2) (L := [(49, (upd (h 49) (0) 0)), (498, a2.2.2)]) (b := 397) (len := 8) rfl).trans (jj_gd_eq (b := 397) (len := 8) ec2 rfl)) hlw) (fun h2 e3 => ?_)
        obtain ⟨h5, e4, rfl⟩ := jj_lo (X := [414, 415]) ec2 e3 (by decide) (by simp [List.lookup])
        show jj_R _ _ kc ks (jj_S, 782, (jj_rs (jj_rs h5 [(49, (upd (h 49) (0) 0)), (498, a2.2.2)]) [(498, (rX10_isSo_498 (hc2 8) (hc2 73) (hc2 497) a2.2.2 (jj_gd (jj_rs hc2 [(49, (upd (h 49) (0) 0)), (498, a2.2.2)]) 64 8) (jj_gd (jj_rs hc2 [(49, (upd (h 49) (0) 0)), (498, a2.2.2)]) 397 8) m nl (nI k1) (nI k2)))]), g) 70 [(0, .ref 49), (1, .int w), (2, .int a2.1), (3, .int a2.2.1), (4, .int (nI k1)), (5, .int (nI k2))] [.int (vX10_isSo (hc2 8) (hc2 73) (hc2 497) a2.2.2 (jj_gd (jj_rs hc2 [(49, (upd (h 49) (0) 0)), (498, a2.2.2)]) 64 8) (jj_gd (jj_rs hc2 [(49, (upd (h 49) (0) 0)), (498, a2.2.2)]) 397 8) m nl (nI k1) (nI k2))] Q
        rw [jj_rs_rs (B := h5) (L := [(49, (upd (h 49) (0) 0)), (498, a2.2.2)]) (M := [(498, (rX10_isSo_498 (hc2 8) (hc2 73) (hc2 497) a2.2.2 (jj_gd (jj_rs hc2 [(49, (upd (h 49) (0) 0)), (498, a2.2.2)]) 64 8) (jj_gd (jj_rs hc2 [(49, (upd (h 49) (0) 0)), (498, a2.2.2)]) 397 8) m nl (nI k1) (nI k2)))]) (L2 := [(49, (upd (h 49) (0) 0)), (498, (rX10_isSo_498 (hc2 8) (hc2 73) (hc2 497) a2.2.2 (jj_gd (jj_rs hc2 [(49, (upd (h 49) (0) 0)), (498, a2.2.2)]) 64 8) (jj_gd (jj_rs hc2 [(49, (upd (h 49) (0) 0)), (498, a2.2.2)]) 397 8) m nl (nI k1) (nI k2)))]) rfl]
        try rw [ec2 8 (by decide)]
        try rw [ec2 73 (by decide)]
        try rw [ec2 497 (by decide)]
        try rw [show jj_gd (jj_rs hc2 [(49, (upd (h 49) (0) 0)), (498, a2.2.2)]) 64 8 = jj_gd h 64 8 from ((jj_gd_rs (B := hc2) (L := [(49, (upd (h 49) (0) 0)), (498, a2.2.2)]) (b := 64) (len := 8) rfl).trans (jj_gd_eq (b := 64) (len := 8) ec2 rfl))]
        try rw [show jj_gd (jj_rs hc2 [(49, (upd (h 49) (0) 0)), (498, a2.2.2)]) 397 8 = jj_gd h 397 8 from ((jj_gd_rs (B := hc2) (L := [(49, (upd (h 49) (0) 0)), (498, a2.2.2)]) (b := 397) (len := 8) rfl).trans (jj_gd_eq (b := 397) (len := 8) ec2 rfl))]
        refine rr_if_ne dX10_fits_70 (fun c6 => ?_) (fun c6 => ?_)
        · skip
          refine rr_iload_n 2 rfl rfl dX10_fits_76 ?_
          refine rr_if_ne dX10_fits_77 (fun c7 => ?_) (fun c7 => ?_)
          · skip
            refine rr_iload_n 3 rfl rfl dX10_fits_91 ?_
            refine rr_istore_n [(0, .ref 49), (1, .int w), (2, .int a2.1), (3, .int a2.2.1), (4, .int (nI k1)), (5, .int (nI k2))] dX10_fits_92 rfl (by decide) rfl ?_
            refine rr_iinc 2 1 [(0, .ref 49), (1, .int w), (2, .int (a2.1 + 1)), (3, .int a2.2.1), (4, .int (nI k1)), (5, .int (nI k2))] dX10_fits_93 rfl rfl (by decide) rfl ?_
            refine rr_iinc 5 1 [(0, .ref 49), (1, .int w), (2, .int (a2.1 + 1)), (3, .int a2.2.1), (4, .int (nI k1)), (5, .int ((nI k2) + 1))] dX10_fits_96 rfl rfl (by decide) rfl ?_
            refine rr_goto dX10_fits_99 ?_
            try simp only [(nI_clamp (show k2 < 2 ^ 31 by omega))] at c6
            try simp only [(nI_clamp (show k2 < 2 ^ 31 by omega))] at c7
            simpa only [nI_1, (nI_clamp (show k2 < 2 ^ 31 by omega)), fX10_fits_2, if_neg c6, if_neg c7] using ih2 h5 e4
          · skip
            refine rr_bipush 10 rfl dX10_fits_80 ?_
            refine rr_iload 4 rfl dX10_fits_82 ?_
            refine rr_imul dX10_fits_84 ?_
            refine rr_iload 5 rfl dX10_fits_85 ?_
            refine rr_iadd dX10_fits_87 ?_
            refine rr_goto dX10_fits_88 ?_
            refine rr_istore_n [(0, .ref 49), (1, .int w), (2, .int a2.1), (3, .int (((10 : Int32) * (nI k1)) + (nI k2))), (4, .int (nI k1)), (5, .int (nI k2))] dX10_fits_92 rfl (by decide) rfl ?_
            refine rr_iinc 2 1 [(0, .ref 49), (1, .int w), (2, .int (a2.1 + 1)), (3, .int (((10 : Int32) * (nI k1)) + (nI k2))), (4, .int (nI k1)), (5, .int (nI k2))] dX10_fits_93 rfl rfl (by decide) rfl ?_
            refine rr_iinc 5 1 [(0, .ref 49), (1, .int w), (2, .int (a2.1 + 1)), (3, .int (((10 : Int32) * (nI k1)) + (nI k2))), (4, .int (nI k1)), (5, .int ((nI k2) + 1))] dX10_fits_96 rfl rfl (by decide) rfl ?_
            refine rr_goto dX10_fits_99 ?_
            try simp only [(nI_clamp (show k2 < 2 ^ 31 by omega))] at c6
            try simp only [(nI_clamp (show k2 < 2 ^ 31 by omega))] at c7
            simpa only [nI_1, (nI_clamp (show k2 < 2 ^ 31 by omega)), fX10_fits_2, if_neg c6, if_pos c7] using ih2 h5 e4
        · skip
          refine rr_goto dX10_fits_73 ?_
          refine rr_iinc 5 1 [(0, .ref 49), (1, .int w), (2, .int a2.1), (3, .int a2.2.1), (4, .int (nI k1)), (5, .int ((nI k2) + 1))] dX10_fits_96 rfl rfl (by decide) rfl ?_
          refine rr_goto dX10_fits_99 ?_
          try simp only [(nI_clamp (show k2 < 2 ^ 31 by omega))] at c6
          simpa only [nI_1, (nI_clamp (show k2 < 2 ^ 31 by omega)), fX10_fits_2, if_pos c6] using ih2 h5 e4
      · try dsimp only
        intro hc2 ec2
        refine rr_iload 5 rfl dX10_fits_51 ?_
        refine rr_aload_n 0 rfl rfl dX10_fits_53 ?_
        refine rr_getR dX10_fits_54 fX10_23 lo_49 sh_49 rfl ?_
        refine rr_iconst 0 rfl dX10_fits_57 ?_
        refine rr_iaload dX10_fits_58 lo_53 sh_53 (jj_inL rfl) ?_
        rw [show (jj_rs hc2 [(49, (upd (h 49) (0) 0)), (498, (jj_fo (fX10_fits_2 (h 8) (h 73) (h 497) (jj_gd h 64 8) (jj_gd h 397 8) m nl k1) n (a1.1, a1.2.1, a1.2.2)).2.2)]) 53 = hc2 53 from rfl]
        rw [ec2 53 (by decide)]
        rw [show (h 53) (0 : Int32).toNatClampNeg = (nI n) from hT]
        refine rr_icmp_ge dX10_fits_59 (fun _ => ?_) (fun c => absurd (jj_le_rf _) c)
        refine rr_iinc 4 1 [(0, .ref 49), (1, .int w), (2, .int (jj_fo (fX10_fits_2 (h 8) (h 73) (h 497) (jj_gd h 64 8) (jj_gd h 397 8) m nl k1) n (a1.1, a1.2.1, a1.2.2)).1), (3, .int (jj_fo (fX10_fits_2 (h 8) (h 73) (h 497) (jj_gd h 64 8) (jj_gd h 397 8) m nl k1) n (a1.1, a1.2.1, a1.2.2)).2.1), (4, .int ((nI k1) + 1)), (5, .int (nI n))] dX10_fits_102 rfl rfl (by decide) rfl ?_
        refine rr_goto dX10_fits_105 ?_
        refine rr_drop (ls := [(0, .ref 49), (1, .int w), (2, .int (jj_fo (fX10_fits_2 (h 8) (h 73) (h 497) (jj_gd h 64 8) (jj_gd h 397 8) m nl k1) n (a1.1, a1.2.1, a1.2.2)).1), (3, .int (jj_fo (fX10_fits_2 (h 8) (h 73) (h 497) (jj_gd h 64 8) (jj_gd h 397 8) m nl k1) n (a1.1, a1.2.1, a1.2.2)).2.1), (4, .int ((nI k1) + 1))]) [0, 1, 2, 3, 4] rfl ?_
        simpa only [nI_1, (nI_clamp (show k1 < 2 ^ 31 by omega)), fX10_fits_1] using ih1 hc2 ec2
    · try dsimp only
      intro hc1 ec1
      refine rr_iload 4 rfl dX10_fits_37 ?_
      refine rr_aload_n 0 rfl rfl dX10_fits_39 ?_
      refine rr_getR dX10_fits_40 fX10_23 lo_49 sh_49 rfl ?_
      refine rr_iconst 0 rfl dX10_fits_43 ?_
      refine rr_iaload dX10_fits_44 lo_53 sh_53 (jj_inL rfl) ?_
      rw [show (jj_rs hc1 [(49, (upd (h 49) (0) 0)), (498, (jj_fo (fX10_fits_1 (h 8) (h 73) (h 497) (jj_gd h 64 8) (jj_gd h 397 8) n m nl) n (0, (-1), (h 498))).2.2)]) 53 = hc1 53 from rfl]
      rw [ec1 53 (by decide)]
      rw [show (h 53) (0 : Int32).toNatClampNeg = (nI n) from hT]
      refine rr_icmp_ge dX10_fits_45 (fun _ => ?_) (fun c => absurd (jj_le_rf _) c)
      refine rr_iload_n 1 rfl rfl dX10_fits_108 ?_
      refine rr_if_ne dX10_fits_109 (fun c8 => ?_) (fun c8 => ?_)
      · skip
        refine rr_iload_n 3 rfl rfl dX10_fits_116 ?_
        refine rr_ireturn dX10_fits_117 rfl ?_
        refine jj_Qh (jj_rs_add (B := hc1) (L := [(49, (upd (h 49) (0) 0)), (498, (jj_fo (fX10_fits_1 (h 8) (h 73) (h 497) (jj_gd h 64 8) (jj_gd h 397 8) n m nl) n (0, (-1), (h 498))).2.2)]) (L2 := [(49, (upd (h 49) (0) 0)), (51, (h 51)), (498, (jj_fo (fX10_fits_1 (h 8) (h 73) (h 497) (jj_gd h 64 8) (jj_gd h 397 8) n m nl) n (0, (-1), (h 498))).2.2)]) (o := 51) (r := (h 51)) ((show jj_rs hc1 [(49, (upd (h 49) (0) 0)), (498, (jj_fo (fX10_fits_1 (h 8) (h 73) (h 497) (jj_gd h 64 8) (jj_gd h 397 8) n m nl) n (0, (-1), (h 498))).2.2)] 51 = hc1 51 from rfl).trans (ec1 51 (by decide))) rfl) ?_
        simpa only [vX10_fits, rX10_fits_49, rX10_fits_51, rX10_fits_498, if_neg c1, if_neg c8] using kq hc1 ec1
      · skip
        refine rr_iload_n 2 rfl rfl dX10_fits_112 ?_
        refine rr_goto dX10_fits_113 ?_
        refine rr_ireturn dX10_fits_117 rfl ?_
        refine jj_Qh (jj_rs_add (B := hc1) (L := [(49, (upd (h 49) (0) 0)), (498, (jj_fo (fX10_fits_1 (h 8) (h 73) (h 497) (jj_gd h 64 8) (jj_gd h 397 8) n m nl) n (0, (-1), (h 498))).2.2)]) (L2 := [(49, (upd (h 49) (0) 0)), (51, (h 51)), (498, (jj_fo (fX10_fits_1 (h 8) (h 73) (h 497) (jj_gd h 64 8) (jj_gd h 397 8) n m nl) n (0, (-1), (h 498))).2.2)]) (o := 51) (r := (h 51)) ((show jj_rs hc1 [(49, (upd (h 49) (0) 0)), (498, (jj_fo (fX10_fits_1 (h 8) (h 73) (h 497) (jj_gd h 64 8) (jj_gd h 397 8) n m nl) n (0, (-1), (h 498))).2.2)] 51 = hc1 51 from rfl).trans (ec1 51 (by decide))) rfl) ?_
        simpa only [vX10_fits, rX10_fits_49, rX10_fits_51, rX10_fits_498, if_neg c1, if_pos c8] using kq hc1 ec1
  · skip
    refine rr_iconst 1 rfl dX10_fits_15 ?_
    refine rr_goto dX10_fits_16 ?_
    refine rr_iconst 1 rfl dX10_fits_20 ?_
    refine rr_iconst 1 rfl dX10_fits_21 ?_
    refine rr_callV (As := [.int 1, .int 1, .int 1]) (rest := []) (kc2 := 0) (ks2 := 0) dX10_fits_22 okX10_bad lX10_171 lo_49 sh_49 rfl rfl (Nat.le_of_ble_eq_true rfl) (Nat.le_of_ble_eq_true rfl) rfl (by omega) (by simp [jj_rk]) (by simp [jj_rk]) ?_
    refine sp_X10_bad1_11 rfl ?_
    show jj_R _ _ kc ks (jj_S, 782, (jj_rs (jj_rs h [(49, (upd (h 49) (0) 0))]) [(49, (upd (upd (h 49) (0) 0) (0) 1)), (51, (upd (h 51) (1) (((h 51) 1) + 1)))]), g) 25 [(0, .ref 49), (1, .int w)] [.int 1] Q
    rw [jj_rs_rs (B := h) (L := [(49, (upd (h 49) (0) 0))]) (M := [(49, (upd (upd (h 49) (0) 0) (0) 1)), (51, (upd (h 51) (1) (((h 51) 1) + 1)))]) (L2 := [(49, (upd (upd (h 49) (0) 0) (0) 1)), (51, (upd (h 51) (1) (((h 51) 1) + 1)))]) rfl]
    refine rr_if_eq dX10_fits_25 (fun c => absurd c (by decide)) (fun _ => ?_)
    refine rr_iconst 0 rfl dX10_fits_28 ?_
    refine rr_ireturn dX10_fits_29 rfl ?_
    refine jj_Qh (jj_rs_add (B := h) (L := [(49, (upd (upd (h 49) (0) 0) (0) 1)), (51, (upd (h 51) (1) (((h 51) 1) + 1)))]) (L2 := [(49, (upd (upd (h 49) (0) 0) (0) 1)), (51, (upd (h 51) (1) (((h 51) 1) + 1))), (498, (h 498))]) (o := 498) (r := (h 498)) rfl rfl) ?_
    simpa only [vX10_fits, rX10_fits_49, rX10_fits_51, rX10_fits_498, if_pos c1] using kq h jj_eq.rf
theorem so_day {r8 r73 r497 r498 : Nat → Int32} {g64 g397 : Nat → Nat → Int32} {m nl : Nat} {a b p : Int32} (hd : dayok r497) (ha : vp_in a 8) (hb : vp_in b 8) (hp : vp_in p 8) : vp_in (rX10_isSo_498 r8 r73 r497 r498 g64 g397 m nl a b ((0 : Int32) + p).toNatClampNeg) 1000 := by
  obtain ⟨P, hP, rfl⟩ := vp_in_of hp (by decide)
  rw [show ((0 : Int32) + nI P).toNatClampNeg = 0 + P from jj_rc (o := 0) hP (by decide)]
  have h := (tie_day (r8 := r8) (r73 := r73) (g64 := g64) (m := m) (a := a) (b := b) (tw := 0) (cp_day (r498 := r498) hd) ha hb).1 (0 + P) (by omega)
  unfold rX10_isSo_498
  exact h
