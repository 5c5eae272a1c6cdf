/-! ===== weeks ===== -/
theorem ushr_ (x : Int32) : ((x.toUInt32 >>> ((16 : Int32).toUInt32 &&& Int32.toUInt32 31)).toInt32 &&& 32767) = ((x >>> ((16 : Int32) &&& 31)) &&& 32767) := by
  refine b_ext (fun i hi => ?_)
  rw [b_and, b_and]
  by_cases l : i < 15
  · have e1 : bt ((x.toUInt32 >>> ((16 : Int32).toUInt32 &&& Int32.toUInt32 31)).toInt32) i = bt x (16 + i) := by
      show (x.toUInt32.toBitVec >>> (((16 : Int32).toUInt32 &&& Int32.toUInt32 31).toBitVec % 32)).getLsbD i = x.toBitVec.getLsbD (16 + i)
      rw [show (((16 : Int32).toUInt32 &&& Int32.toUInt32 31).toBitVec % 32) = 16#32 by decide, BitVec.ushiftRight_eq']
      rw [show (16#32).toNat = 16 by decide, BitVec.getLsbD_ushiftRight]
      rfl
    have e2 : bt (x >>> ((16 : Int32) &&& 31)) i = bt x (16 + i) := by
      have := b_sshr 16 (by decide) x hi
      rw [if_pos (by omega)] at this
      exact this
    rw [e1, e2]
  · have e3 : bt 32767 i = false := by
      have key : ∀ i, i < 32 → ¬ i < 15 → bt 32767 i = false := by decide +kernel
      exact key i hi l
    rw [e3, Bool.and_false, Bool.and_false]
theorem draw_is {r49 : Nat → Int32} {n : Nat} (h0 : 0 < n) (hn : n ≤ 16) : ∃ j, j < n ∧ vX10_draw r49 n = nI j := by
  obtain ⟨j, hj, e⟩ := pk_andE ((((r49 45) * 1103515245) + 12345) >>> (16 &&& 31)) (m := 32767) 15 (by decide)
  unfold vX10_draw
  rw [e, pk_rem (by omega) h0 (by omega)]
  exact ⟨j % n, Nat.mod_lt _ h0, rfl⟩
theorem draw_eq {r12 r49 : Nat → Int32} {n : Nat} (h : r49 45 = r12 2) (h0 : 0 < n) (hn : n ≤ 16) : vX3_drawnBy r12 (nI n) = vX10_draw r49 n := by
  unfold vX3_drawnBy vX10_draw
  rw [if_neg (nI_nle h0 (by omega)), jj_ueq rfl, h, ushr_]
theorem draw_up {r12 r49 : Nat → Int32} {n : Nat} {k : Int32} (h : r49 45 = r12 2) : rX10_draw_49 r49 n 45 = rX3_drawnBy_12 r12 k 2 := by
  unfold rX10_draw_49 rX3_drawnBy_12
  rw [jj_ueq rfl, jj_ueq rfl, h]
theorem draw_ne {r49 : Nat → Int32} {n i : Nat} (h : ¬ i = 45) : rX10_draw_49 r49 n i = r49 i := jj_une h
def wkR (r49 : Nat → Int32) (B : Nat) (a : (Nat → Int32) × (Nat → Int32) × (Nat → Int32) × (Nat → Int32) × (Nat → Int32) × (Nat → Int32)) (b : (Nat → Int32) × (Nat → Int32)) : Prop := b.1 45 = a.1 2 ∧ (∀ i, ¬ i = 45 → b.1 i = r49 i) ∧ nr a.2.1 a.2.2.1 a.2.2.2.1 a.2.2.2.2.1 a.2.2.2.2.2 b.2 ∧ nok B a.2.1 a.2.2.1 a.2.2.2.1 a.2.2.2.2.2
section
variable {r2 r3 r4 r5 r6 r8 r12 r38 r39 r40 r41 r42 r43 r44 r45 r46 r47 r49 r73 r r498 : Nat → Int32} {g64 : Nat → Nat → Int32} {n m B q : Nat} {v s : Int32}
theorem w2_step (hs : srl n r2 r3 r4 r5 r6 r73 g64) (hn : n ≤ 8) {k : Nat} (hk : k < n) {a : (Nat → Int32) × (Nat → Int32) × (Nat → Int32) × (Nat → Int32) × (Nat → Int32) × (Nat → Int32)} {b : (Nat → Int32) × (Nat → Int32)} (h : wkR r49 B a b) : wkR r49 B (fX3_passWeek_2 r2 r3 r6 r8 n m v k a) (fX10_weekBy_2 r8 r73 g64 n m v k b) := by
  obtain ⟨h1, h2, h3, h4⟩ := h
  have n0 : 0 < n := by omega
  have d1 : rX10_draw_49 b.1 n 45 = rX3_drawnBy_12 a.1 (nI n) 2 := draw_up h1
  have d2 : rX10_draw_49 (rX10_draw_49 b.1 n) n 45 = rX3_drawnBy_12 (rX3_drawnBy_12 a.1 (nI n)) (nI n) 2 := draw_up d1
  have d3 : rX10_draw_49 (rX10_draw_49 (rX10_draw_49 b.1 n) n) 16 45 = rX3_drawnBy_12 (rX3_drawnBy_12 (rX3_drawnBy_12 a.1 (nI n)) (nI n)) 16 2 := draw_up d2
  have f : ∀ i, ¬ i = 45 → rX10_draw_49 (rX10_draw_49 (rX10_draw_49 b.1 n) n) 16 i = r49 i := fun i hi => by rw [draw_ne hi, draw_ne hi, draw_ne hi]; exact h2 i hi
  obtain ⟨ja, la, ea⟩ := draw_is (r49 := b.1) n0 (show n ≤ 16 by omega)
  obtain ⟨jb, lb, eb⟩ := draw_is (r49 := rX10_draw_49 b.1 n) n0 (show n ≤ 16 by omega)
  have w3 : vX3_drawnBy (rX3_drawnBy_12 (rX3_drawnBy_12 a.1 (nI n)) (nI n)) 16 = vX10_draw (rX10_draw_49 (rX10_draw_49 b.1 n) n) 16 := draw_eq (n := 16) d2 (by decide) (by decide)
  unfold fX3_passWeek_2 fX10_weekBy_2
  rw [w3, draw_eq h1 n0 (by omega), draw_eq d1 n0 (by omega), ea, eb]
  by_cases c : v ≤ vX10_draw (rX10_draw_49 (rX10_draw_49 b.1 n) n) 16
  · rw [if_pos c, if_pos c]
    have e := e_ties (m := m) (r8 := r8) h3 h4 hs hn la lb (tw := 0) (Or.inl rfl)
    exact ⟨d3, f, e.2.1, e.2.2⟩
  · rw [if_neg c, if_neg c]
    have e := e_ties (m := m) (r8 := r8) h3 h4 hs hn la lb (tw := 1) (Or.inr rfl)
    exact ⟨d3, f, e.2.1, e.2.2⟩
theorem w1_step (hs : srl n r2 r3 r4 r5 r6 r73 g64) (hn : n ≤ 8) {k : Nat} {a : (Nat → Int32) × (Nat → Int32) × (Nat → Int32) × (Nat → Int32) × (Nat → Int32) × (Nat → Int32)} {b : (Nat → Int32) × (Nat → Int32)} (h : wkR r49 B a b) : wkR r49 (B + 1) (fX3_passWeek_1 r2 r3 r6 r8 n m v k a) (fX10_weekBy_1 r8 r73 g64 n m v k b) := by
  have key := fo_rel (R := fun _ a b => wkR r49 B a b) (f := fX3_passWeek_2 r2 r3 r6 r8 n m v) (g := fX10_weekBy_2 r8 r73 g64 n m v) n (a.1, a.2.1, a.2.2.1, a.2.2.2.1, a.2.2.2.2.1, a.2.2.2.2.2) (b.1, b.2) h (fun k a b hk ih => w2_step hs hn hk ih)
  unfold fX3_passWeek_1 fX10_weekBy_1
  revert key
  generalize jj_fo (fX3_passWeek_2 r2 r3 r6 r8 n m v) n (a.1, a.2.1, a.2.2.1, a.2.2.2.1, a.2.2.2.2.1, a.2.2.2.2.2) = x
  generalize jj_fo (fX10_weekBy_2 r8 r73 g64 n m v) n (b.1, b.2) = y
  intro key
  obtain ⟨h1, h2, h3, h4⟩ := key
  have e := e_day h3 h4 hn
  exact ⟨h1, h2, e.1, e.2⟩
theorem e_weekBy (h : nr r38 r39 r40 r41 r42 r) (hk : nok B r38 r39 r40 r42) (hs : srl n r2 r3 r4 r5 r6 r73 g64) (hn : n ≤ 8) : wkR (upd r49 45 s) (B + q) (rX3_passWeek_12 r2 r3 r6 r8 r12 r38 r39 r40 r41 r42 r43 r44 r45 r46 r47 n m s q v, rX3_passWeek_43 r2 r3 r6 r8 r12 r38 r39 r40 r41 r42 r43 r44 r45 r46 r47 n m s q v, rX3_passWeek_44 r2 r3 r6 r8 r12 r38 r39 r40 r41 r42 r43 r44 r45 r46 r47 n m s q v, rX3_passWeek_45 r2 r3 r6 r8 r12 r38 r39 r40 r41 r42 r43 r44 r45 r46 r47 n m s q v, rX3_passWeek_46 r2 r3 r6 r8 r12 r38 r39 r40 r41 r42 r43 r44 r45 r46 r47 n m s q v, rX3_passWeek_47 r2 r3 r6 r8 r12 r38 r39 r40 r41 r42 r43 r44 r45 r46 r47 n m s q v) (rX10_weekBy_49 r8 r49 r73 r r498 g64 n m s q v, rX10_weekBy_498 r8 r49 r73 r r498 g64 n m s q v) :=
  fo_rel (R := fun k a b => wkR (upd r49 45 s) (B + k) a b) (f := fX3_passWeek_1 r2 r3 r6 r8 n m v) (g := fX10_weekBy_1 r8 r73 g64 n m v) q (upd r12 2 s, rX6_copyFrom_43 r38 r39 r40 r41 r42 r43 r44 r45 r46 r47, rX6_copyFrom_44 r38 r39 r40 r41 r42 r43 r44 r45 r46 r47, rX6_copyFrom_45 r38 r39 r40 r41 r42 r43 r44 r45 r46 r47, rX6_copyFrom_46 r38 r39 r40 r41 r42 r43 r44 r45 r46 r47, rX6_copyFrom_47 r38 r39 r40 r41 r42 r43 r44 r45 r46 r47) (upd r49 45 s, rX10_copies_nt_498 r r498) ⟨rfl, fun _ _ => rfl, e_copy h, nok_copy hk⟩ (fun k a b _ ih => w1_step hs hn ih)
theorem late_lim (h : nok B r38 r39 r40 r42) (hB : B ≤ 1000) (hn : n ≤ 8) : ∃ x, x ≤ n * B ∧ vX6_behindTogether_n r38 r39 n = nI x :=
  fo_inv (P := fun k (a : Int32) => ∃ x, x ≤ k * B ∧ a = nI x) n 0 ⟨0, Nat.zero_le _, rfl⟩ (fun k a hk ih => by
    obtain ⟨x, hx, rfl⟩ := ih
    obtain ⟨y, hy, e⟩ := nok_b h (by omega) (show k < 8 by omega)
    refine ⟨x + y, ?_, ?_⟩
    · rw [Nat.add_mul, Nat.one_mul]; omega
    · rw [e, nI_add])
end
/-! spans -/
theorem more_is (a x : Int32) : (if a < x then x else a) = vX10_more a x := by
  unfold vX10_more
  by_cases c : a < x
  · rw [if_pos c, if_pos (Int32.le_of_lt c)]
  · rw [if_neg c]
    by_cases d : a ≤ x
    · rw [if_pos d]; exact Int32.le_antisymm d (Int32.not_lt.mp c)
    · rw [if_neg d]
theorem less_is (a x : Int32) : (if x < a then x else a) = vX10_less a x := by
  unfold vX10_less
  by_cases c : x < a
  · rw [if_pos c, if_pos (Int32.le_of_lt c)]
  · rw [if_neg c]
    by_cases d : x ≤ a
    · rw [if_pos d]; exact Int32.le_antisymm (Int32.not_lt.mp c) d
    · rw [if_neg d]
abbrev spA : Type := Int32 × Int32 × Int32 × (Nat → Int32) × (Nat → Int32) × (Nat → Int32) × (Nat → Int32) × (Nat → Int32) × (Nat → Int32)
abbrev spB : Type := Int32 × Int32 × Int32 × (Nat → Int32) × (Nat → Int32)
def spR (r49 : Nat → Int32) (k : Nat) (a : spA) (b : spB) : Prop := (k = 0 → a.1 = 1000000 ∧ b.1 = -1) ∧ (0 < k → a.1 = b.1 ∧ ∃ l, l < 1000000 ∧ a.1 = nI l) ∧ a.2.1 = b.2.1 ∧ a.2.2.1 = b.2.2.1 ∧ ∀ i, ¬ i = 45 → b.2.2.2.1 i = r49 i
theorem sp_up {r49 : Nat → Int32} {k x : Nat} {a : spA} {b : spB} {X c d1 : Int32} {z : (Nat → Int32) × (Nat → Int32) × (Nat → Int32) × (Nat → Int32) × (Nat → Int32) × (Nat → Int32)} {y49 y498 : Nat → Int32} (h : spR r49 k a b) (hX : X = nI x) (hx : x < 1000000) (hy : ∀ i, ¬ i = 45 → y49 i = r49 i) (ec : a.2.2.1 + d1 = c) : spR r49 (k + 1) ((if X < a.1 then X else a.1), (if a.2.1 < X then X else a.2.1), c, z) (if b.1 = -1 then (X, vX10_more b.2.1 X, b.2.2.1 + d1, y49, y498) else (vX10_less b.1 X, vX10_more b.2.1 X, b.2.2.1 + d1, y49, y498)) := by
  obtain ⟨h1, h2, h3, h4, h5⟩ := h
  rcases Nat.eq_zero_or_pos k with k0 | k0
  · obtain ⟨e1, e2⟩ := h1 k0
    rw [if_pos e2, e1, if_pos (by rw [hX]; exact nI_lt (b := 1000000) hx (by decide))]
    exact ⟨fun q => absurd q (by omega), fun _ => ⟨rfl, x, hx, hX⟩, by rw [← h3, more_is], by rw [← ec, h4], hy⟩
  · obtain ⟨e1, l, hl, e2⟩ := h2 k0
    rw [if_neg (show ¬ b.1 = -1 by rw [← e1, e2]; exact nI_ne1 (by omega))]
    refine ⟨fun q => absurd q (by omega), fun _ => ⟨?_, ?_⟩, by rw [← h3, more_is], by rw [← ec, h4], hy⟩
    · rw [← e1, less_is]
    · by_cases q : X < a.1
      · rw [if_pos q]; exact ⟨x, hx, hX⟩
      · rw [if_neg q]; exact ⟨l, hl, e2⟩
theorem q_week {c : Nat → Nat} {T n m u t : Nat} {L : bL_} {h : hp_} (I : IV c T n m u t L h) (s q v w : Int32) : res 1 (vX9_week (h 0) (h 2) (h 3) (h 6) (h 8) (h 12) (h 38) (h 39) (h 40) (h 41) (h 42) (h 43) (h 44) (h 45) (h 46) (h 47) n m s q v w) (h 0) (rX9_week_0 (h 0) (h 2) (h 3) (h 6) (h 8) (h 12) (h 38) (h 39) (h 40) (h 41) (h 42) (h 43) (h 44) (h 45) (h 46) (h 47) n m s q v w) ((rX10_week_49 (h 8) (h 49) (h 51) (h 73) (h 497) (h 498) (jj_gd h 64 8) n m s q v w) 0) (.int (vX10_week (h 8) (h 49) (h 51) (h 73) (h 497) (h 498) (jj_gd h 64 8) n m s q v w)) (h 51) (rX10_week_51 (h 8) (h 49) (h 51) (h 73) (h 497) (h 498) (jj_gd h 64 8) n m s q v w) := by
  have hn := iv_8 I
  unfold vX9_week rX9_week_0 vX10_week rX10_week_49 rX10_week_51
  simp only [in_if, two_if, iv_p I, e_bit, e_week, e_bits hn]
  refine res_if (fun _ => (Or.inr (Or.inr ⟨rfl, rfl, rfl, rfl⟩))) (fun c1 => ?_)
  refine res_if (fun _ => (Or.inr (Or.inr ⟨rfl, rfl, rfl, rfl⟩))) (fun c2 => ?_)
  refine res_if (fun _ => (Or.inr (Or.inr ⟨rfl, rfl, rfl, rfl⟩))) (fun c3 => ?_)
  have E := e_weekBy (m := m) (q := (q : Int32).toNatClampNeg) (s := s) (v := v) (r12 := h 12) (r43 := h 43) (r44 := h 44) (r45 := h 45) (r46 := h 46) (r47 := h 47) (r8 := h 8) (r49 := upd (h 49) 0 0) (r498 := h 498) (iv_n I) (iv_k I) (iv_s I) hn
  refine res_ok ?_ (E.2.1 0 (by decide))
  refine ok_if (fun _ => t_lateness E.2.2.1 hn) (fun _ => ?_)
  refine ok_if (fun _ => t_tied E.2.2.1 hn 1) (fun _ => ?_)
  refine ok_if (fun _ => ?_) (fun _ => ok_e ?_)
  · rw [show vX6_slipsTogether_t _ n = _ from t_slips E.2.2.1 hn, t_slips (iv_n I) hn]; rfl
  · have e1 := E.2.2.1.1.2.1
    have e2 := (iv_n I).1.2.1
    dsimp only at e1
    rw [e1, e2]
set_option maxHeartbeats 4000000 in
theorem q_span {c : Nat → Nat} {T n m u t : Nat} {L : bL_} {h : hp_} (I : IV c T n m u t L h) (s y q v w p : Int32) : res 1 (vX9_span (h 0) (h 1) (h 2) (h 3) (h 6) (h 8) (h 12) (h 38) (h 39) (h 40) (h 41) (h 42) (h 43) (h 44) (h 45) (h 46) (h 47) n m s y q v w p) (h 0) (rX9_span_0 (h 0) (h 1) (h 2) (h 3) (h 6) (h 8) (h 12) (h 38) (h 39) (h 40) (h 41) (h 42) (h 43) (h 44) (h 45) (h 46) (h 47) n m s y q v w p) ((rX10_span_49 (h 8) (h 49) (h 51) (h 73) (h 497) (h 498) (jj_gd h 64 8) n m s y q v w p) 0) (.int (vX10_span (h 8) (h 49) (h 51) (h 73) (h 497) (h 498) (jj_gd h 64 8) n m s y q v w p)) (h 51) (rX10_span_51 (h 8) (h 49) (h 51) (h 73) (h 497) (h 498) (jj_gd h 64 8) n m s y q v w p) := by
  have hn := iv_8 I
  unfold vX9_span rX9_span_0 vX10_span rX10_span_49 rX10_span_51
  simp only [in_if, iv_p I, e_week]
  simp only [or_if]
  refine res_iff ?_ (Or.inr (Or.inr ⟨rfl, rfl, rfl, rfl⟩)) (fun cc => ?_)
  · simp only [or_assoc, or_comm, or_left_comm]
  have c1 : ¬ vX10_isPerson n p = 0 := fun z => cc (by simp [z])
  have cq : ¬ vX10_isWeek q v = 0 := fun z => cc (by simp [z])
  have cy : ¬ y < 1 := fun z => cc (by simp [z])
  obtain ⟨Pp, hp, rfl⟩ := jj_persM hn c1
  have hq : (q : Int32).toNatClampNeg ≤ 96 := by
    unfold vX10_isWeek at cq
    rw [in_if] at cq
    by_cases z1 : q < 1
    · rw [if_pos z1] at cq; exact absurd rfl cq
    · rw [if_neg z1] at cq
      by_cases z2 : 96 < q
      · rw [if_pos z2] at cq; exact absurd rfl cq
      · exact jj_nle (b := 96) (by decide) z2
  have hy : 0 < (y : Int32).toNatClampNeg := by
    have y0 : ¬ y < 0 := fun z => cy (Int32.lt_trans z (by decide))
    obtain ⟨j, hj, rfl⟩ := nI_of y0
    rw [nI_clamp hj]
    rcases Nat.eq_zero_or_pos j with z | z
    · subst z; exact absurd (show nI 0 < 1 by decide) cy
    · exact z
  have S : ∀ k (a : spA) (b : spB), spR (upd (h 49) 0 0) k a b → spR (upd (h 49) 0 0) (k + 1) (fX9_span_1 (h 2) (h 3) (h 6) (h 8) (h 38) (h 39) (h 40) (h 41) (h 42) n m s q v (nI Pp) k a) (fX10_span_1 (h 8) (h 73) (h 497) (jj_gd h 64 8) n m s q v (nI Pp) k b) := by
    intro k a b hR
    have E := e_weekBy (m := m) (q := (q : Int32).toNatClampNeg) (s := s + nI k) (v := v) (r12 := a.2.2.2.1) (r43 := a.2.2.2.2.1) (r44 := a.2.2.2.2.2.1) (r45 := a.2.2.2.2.2.2.1) (r46 := a.2.2.2.2.2.2.2.1) (r47 := a.2.2.2.2.2.2.2.2) (r8 := h 8) (r49 := b.2.2.2.1) (r498 := b.2.2.2.2) (iv_n I) (iv_k I) (iv_s I) hn
    unfold fX9_span_1 fX10_span_1
    generalize rX3_passWeek_12 (h 2) (h 3) (h 6) (h 8) a.2.2.2.1 (h 38) (h 39) (h 40) (h 41) (h 42) a.2.2.2.2.1 a.2.2.2.2.2.1 a.2.2.2.2.2.2.1 a.2.2.2.2.2.2.2.1 a.2.2.2.2.2.2.2.2 n m (s + nI k) (q : Int32).toNatClampNeg v = z12 at E ⊢
    generalize rX3_passWeek_43 (h 2) (h 3) (h 6) (h 8) a.2.2.2.1 (h 38) (h 39) (h 40) (h 41) (h 42) a.2.2.2.2.1 a.2.2.2.2.2.1 a.2.2.2.2.2.2.1 a.2.2.2.2.2.2.2.1 a.2.2.2.2.2.2.2.2 n m (s + nI k) (q : Int32).toNatClampNeg v = z43 at E ⊢
    generalize rX3_passWeek_44 (h 2) (h 3) (h 6) (h 8) a.2.2.2.1 (h 38) (h 39) (h 40) (h 41) (h 42) a.2.2.2.2.1 a.2.2.2.2.2.1 a.2.2.2.2.2.2.1 a.2.2.2.2.2.2.2.1 a.2.2.2.2.2.2.2.2 n m (s + nI k) (q : Int32).toNatClampNeg v = z44 at E ⊢
    generalize rX3_passWeek_45 (h 2) (h 3) (h 6) (h 8) a.2.2.2.1 (h 38) (h 39) (h 40) (h 41) (h 42) a.2.2.2.2.1 a.2.2.2.2.2.1 a.2.2.2.2.2.2.1 a.2.2.2.2.2.2.2.1 a.2.2.2.2.2.2.2.2 n m (s + nI k) (q : Int32).toNatClampNeg v = z45 at E ⊢
    generalize rX3_passWeek_46 (h 2) (h 3) (h 6) (h 8) a.2.2.2.1 (h 38) (h 39) (h 40) (h 41) (h 42) a.2.2.2.2.1 a.2.2.2.2.2.1 a.2.2.2.2.2.2.1 a.2.2.2.2.2.2.2.1 a.2.2.2.2.2.2.2.2 n m (s + nI k) (q : Int32).toNatClampNeg v = z46 at E ⊢
    generalize rX3_passWeek_47 (h 2) (h 3) (h 6) (h 8) a.2.2.2.1 (h 38) (h 39) (h 40) (h 41) (h 42) a.2.2.2.2.1 a.2.2.2.2.2.1 a.2.2.2.2.2.2.1 a.2.2.2.2.2.2.2.1 a.2.2.2.2.2.2.2.2 n m (s + nI k) (q : Int32).toNatClampNeg v = z47 at E ⊢
    generalize rX10_weekBy_49 (h 8) b.2.2.2.1 (h 73) (h 497) b.2.2.2.2 (jj_gd h 64 8) n m (s + nI k) (q : Int32).toNatClampNeg v = y49 at E ⊢
    generalize rX10_weekBy_498 (h 8) b.2.2.2.1 (h 73) (h 497) b.2.2.2.2 (jj_gd h 64 8) n m (s + nI k) (q : Int32).toNatClampNeg v = y498 at E ⊢
    obtain ⟨w1, w2, w3, w4⟩ := E
    have w2 : ∀ i, ¬ i = 45 → y49 i = upd (h 49) 0 0 i := fun i hi => (w2 i hi).trans ((jj_une hi).trans (hR.2.2.2.2 i hi))
    obtain ⟨x, hx, ex⟩ := late_lim w4 (by omega) hn
    have ex2 : vX6_behindTogether_t z43 z44 n = nI x := ex
    have el : vX10_lateness_t y498 n = vX6_behindTogether_t z43 z44 n := (t_lateness w3 hn).symm
    have eb : vX10_behind_t y498 (nI Pp) = vX6_behindOf_t z43 z44 (nI Pp) := e_behind w3 (by omega)
    rw [el, eb]
    have hx2 : x < 1000000 := Nat.lt_of_le_of_lt hx (Nat.lt_of_le_of_lt (Nat.mul_le_mul hn (show 900 + (q : Int32).toNatClampNeg ≤ 1000 by omega)) (by decide))
    by_cases z : vX6_behindOf_t z43 z44 (nI Pp) = 0
    · simp only [if_pos z]
      exact sp_up hR ex2 hx2 w2 rfl
    · simp only [if_neg z]
      exact sp_up hR ex2 hx2 w2 rfl
  have F := fo_rel (R := spR (upd (h 49) 0 0)) (f := fX9_span_1 (h 2) (h 3) (h 6) (h 8) (h 38) (h 39) (h 40) (h 41) (h 42) n m s q v (nI Pp)) (g := fX10_span_1 (h 8) (h 73) (h 497) (jj_gd h 64 8) n m s q v (nI Pp)) (y : Int32).toNatClampNeg (1000000, 0, 0, h 12, h 43, h 44, h 45, h 46, h 47) ((-1), 0, 0, upd (h 49) 0 0, h 498) ⟨fun _ => ⟨rfl, rfl⟩, fun z => absurd z (by decide), rfl, rfl, fun _ _ => rfl⟩ (fun k a b _ ih => S k a b ih)
  refine res_ok ?_ ((F.2.2.2.2 0 (by decide)).trans rfl)
  refine ok_if (fun _ => (F.2.1 hy).1) (fun _ => ?_)
  refine ok_if (fun _ => F.2.2.1) (fun _ => ok_e F.2.2.2.1)
