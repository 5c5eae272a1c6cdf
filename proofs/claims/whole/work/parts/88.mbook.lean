/-! ===== the reference's book ===== -/
def pR (x : Nat) : Bool := decide (406 ≤ x) && decide (x < 414)
def fW (i : Nat) : Bool := i == 4 || (i == 5 || i == 6)
theorem fW_no {i : Nat} (p : fW i = false) : ¬ i = 4 ∧ ¬ i = 5 ∧ ¬ i = 6 := by simpa [fW] using p
theorem fW_N : ∀ i, fN i = false → fW i = false := fun i p => by
  have := fN_no p
  simp [fW]
  omega
theorem pR_no {x : Nat} (h : ¬ (406 ≤ x ∧ x < 414)) : pR x = false := by
  unfold pR
  rw [Bool.and_eq_false_iff, decide_eq_false_iff_not, decide_eq_false_iff_not]
  omega
def rbst (c : Nat → Nat) (e n : Nat) (L : bL_) (h0 : hp_) (x : Nat) (h : hp_) : Prop := mst c e x h ∧ h 53 0 = nI n ∧ fr 49 pR fW h0 h ∧ (∀ i z, L[i]? = some z → h (406 + i) 0 = nI z.1 ∧ h (406 + i) 1 = nI z.2) ∧ bok n L
def rber (c : Nat → Nat) (e : Nat) (h0 : hp_) (k p : Nat) (h : hp_) : Prop := h 49 5 = nI k ∧ h 49 6 = nI p ∧ (¬ h 49 5 = 0) ∧ fr 49 pR fW h0 h ∧ h 49 2 = nI e ∧ fedok (h 50) c ∧ ∃ y : Nat, y ≤ e ∧ h 49 4 = nI y
theorem rbst_R {c : Nat → Nat} {e n : Nat} {L : bL_} {h0 : hp_} : rdr c e (rbst c e n L h0) (rber c e h0) := by
  refine ⟨fun x h m => m.1, fun x y h r m hxy hy r4 r5 ro => ?_, fun x h r k p m hk hk2 r5 r6 r4 ro => ?_, fun k p h m => ⟨m.2.2.2.2.1, m.2.2.2.2.2.1, m.2.2.2.2.2.2, m.2.2.1⟩, fun k p y h r m hy r4 ro => ?_⟩
  · obtain ⟨m1, m2, m3, m4, m5⟩ := m
    refine ⟨mst_mv m1 hy r4 r5 (ro 2 (by decide) (by decide) (by decide)), m2, fr_tr m3 (fr_put (fun i p => ro i (fW_no p).1 (fW_no p).2.1 (fW_no p).2.2)), fun i z hi => ?_, m5⟩
    rw [rs_ne (by omega)]
    exact m4 i z hi
  · exact ⟨r5, r6, (fun q => nI_k0 hk hk2 (r5.symm.trans q)), fr_tr m.2.2.1 (fr_put (fun i p => ro i (fW_no p).1 (fW_no p).2.1 (fW_no p).2.2)), (ro 2 (by decide) (by decide) (by decide)).trans m.1.1, m.1.2.2.1, r4⟩
  · obtain ⟨m1, m2, m3, m4, m5, m6, m7⟩ := m
    exact ⟨(ro 5 (by decide)).trans m1, (ro 6 (by decide)).trans m2, (fun q => m3 ((ro 5 (by decide)).symm.trans q)), fr_tr m4 (fr_put (fun i p => ro i (fW_no p).1)), (ro 2 (by decide)).trans m5, m6, y, hy, r4⟩
theorem rber_R {c : Nat → Nat} {e : Nat} {h0 : hp_} : rdr c e (fun _ _ => False) (rber c e h0) := ⟨fun x h m => m.elim, fun x y h r m => m.elim, fun x h r k p m => m.elim, (rbst_R (n := 0) (L := [])).2.2.2.1, (rbst_R (n := 0) (L := [])).2.2.2.2⟩
def bitL (B : Int32) (L : bL_) : Prop := ∀ p, p < 8 → bt B p = (L.lookup p).isSome
theorem bitL_add {B : Int32} {L : bL_} {a v : Nat} (h : bitL B L) (ha : a < 8) (hl : L.lookup a = none) : bitL (B ||| (1 <<< (nI a &&& 31))) (L ++ [(a, v)]) := by
  intro p hp
  rw [b_or, bt_1s a ha p (by omega), lkp_add hl, h p hp]
  by_cases q : p = a
  · rw [if_pos q, decide_eq_true q, Bool.or_true]; rfl
  · rw [if_neg q, decide_eq_false q, Bool.or_false]
theorem rb_add {c : Nat → Nat} {e n a x v : Nat} {L : bL_} {h0 h h9 : hp_} {G : Nat → Nat → Int32} (m : rbst c e n L h0 a h) (hn : n ≤ 8) (hx : x < n) (hv : v < 1000) (hl : L.lookup x = none) (hL : L.length < 8) (eG : G = jj_ug (jj_ug (jj_gd h 406 8) ((nI L.length) : Int32).toNatClampNeg 0 (nI x)) ((nI L.length) : Int32).toNatClampNeg 1 (nI v)) (e9 : h9 = jj_gs h 406 8 G) : rbst c e n (L ++ [(x, v)]) h0 a h9 := by
  obtain ⟨⟨m1, m1b, m1c, m1d, m1e⟩, m2, m3, m4, m5⟩ := m
  have ho : ∀ y, ¬ (406 ≤ y ∧ y < 414) → h9 y = h y := fun y q => by
    rw [e9]
    unfold jj_gs
    rw [if_neg (by omega)]
  have hi_ : ∀ i, i < 8 → h9 (406 + i) = G i := fun i q => by
    rw [e9]
    unfold jj_gs
    rw [if_pos (by omega), show 406 + i - 406 = i by omega]
  rw [nI_clamp (by omega)] at eG
  refine ⟨⟨by rw [ho 49 (by decide)]; exact m1, by rw [ho 49 (by decide)]; exact m1b, by rw [ho 50 (by decide)]; exact m1c, m1d, by rw [ho 49 (by decide)]; exact m1e⟩, by rw [ho 53 (by decide)]; exact m2, fr_tr m3 ⟨fun y hy _ => ho y (fun q => by unfold pR at hy; simp [q.1, q.2] at hy), fun i _ => by rw [ho 49 (by decide)]⟩, fun i z hi => ?_, bok_add m5 hn hx hv hl⟩
  by_cases q : i < L.length
  · rw [List.getElem?_append_left q] at hi
    rw [hi_ i (by omega), eG]
    unfold jj_ug
    rw [if_neg (by omega), if_neg (by omega), ← jj_gd_at (by omega)]
    exact m4 i z hi
  · rw [List.getElem?_append_right (by omega)] at hi
    have hq : i - L.length = 0 := by
      rcases Nat.eq_zero_or_pos (i - L.length) with u | u
      · exact u
      · rw [List.getElem?_eq_none (by rw [List.length_singleton]; omega)] at hi; cases hi
    rw [hq] at hi
    have hz : z = (x, v) := by simpa using hi.symm
    have hiL : i = L.length := by omega
    rw [hi_ i (by omega), eG, hz, hiL]
    unfold jj_ug
    rw [if_pos rfl, if_pos rfl]
    exact ⟨rfl, rfl⟩
theorem pline_no {c : Nat → Nat} {e n a : Nat} {L : bL_} (h : ¬ kd c e a = 1) : pline c e n L a = .error (1, a) := by
  unfold pline
  rw [if_neg (fun q => h q.1)]
  unfold pnum
  rw [if_neg h]
  rfl
theorem pnum_k {c : Nat → Nat} {e lim a : Nat} {z : Nat × Nat} (h : pnum c e lim a = .ok z) : kd c e a = 1 ∧ z.1 = vl c e a := by
  unfold pnum at h
  by_cases k : kd c e a = 1
  · rw [if_pos k] at h
    split at h
    · cases h; exact ⟨k, rfl⟩
    · cases h
  · rw [if_neg k] at h; cases h
def bokTm (h0 h9 : hp_) (L : bL_) (n : Nat) : Prop := (h9 49 0 = 0 ∧ h9 49 1 = 0 ∧ h9 49 3 = -1 ∧ h9 49 31 = nI L.length) ∧ bok n L ∧ (∀ i z, L[i]? = some z → h9 (397 + i) 0 = nI z.1 ∧ h9 (397 + i) 1 = nI z.2) ∧ (∀ x, ¬ x = 49 → ¬ (397 ≤ x ∧ x < 405) → ¬ (406 ≤ x ∧ x < 414) → h9 x = h0 x) ∧ ∀ i, fN i = false → ¬ i = 31 → h9 49 i = h0 49 i
def bokEm (h0 h9 : hp_) (p : Nat) : Prop := h9 49 0 = 0 ∧ h9 49 1 = 0 ∧ h9 49 3 = nI p ∧ (∀ x, ¬ x = 49 → ¬ (406 ≤ x ∧ x < 414) → h9 x = h0 x) ∧ ∀ i, fN i = false → h9 49 i = h0 49 i
set_option maxHeartbeats 4000000 in
theorem rb_loop {c : Nat → Nat} {e n : Nat} {w : Int32} (he6 : e ≤ 600) (hn : n ≤ 8) (f : Nat) : ∀ {D kc ks x : Nat} {L : bL_} {B : Int32} {h0 h : hp_} {g : Nat → Nat → Int64} {Q : jj_Rs → jj_St → Prop}, 5 ≤ D → e - x ≤ f → spn isB c e x = x → bitL B L → rbst c e n L h0 x h → (∀ L2 b h9, plb c e n f L x = .ok (L2, b) → e ≤ b → rbst c e n L2 h0 b h9 → jj_R mX10_book D kc ks (jj_S, 782, h9, g) 174 [(0, .ref 49), (2, .int (nI L2.length))] [] Q) → (∀ k p h9, (plb c e n f L x = .error (k, p) ∨ ∃ L2 b, plb c e n f L x = .ok (L2, b) ∧ ¬ e ≤ b ∧ k = 1 ∧ p = b) → rber c e h0 k p h9 → jj_R mX10_book D kc ks (jj_S, 782, h9, g) 174 [(0, .ref 49)] [] Q) → jj_R mX10_book D kc ks (jj_S, 782, h, g) 48 [(0, .ref 49), (1, .int w), (2, .int (nI L.length)), (3, .int B)] [] Q := by
  induction f with
  | zero =>
    intro D0 kc ks x L B h0 h g Q hD hm hb hB m k1 k2
    obtain ⟨d, rfl⟩ : ∃ d, D0 = d + 5 := ⟨D0 - 5, by omega⟩
    have hxe := m.1.2.2.2.1
    have hbk := m.2.2.2.2
    refine rr_aload_n 0 rfl rfl dX10_book_48 ?_
    refine rr_getI dX10_book_49 fX10_111 lo_49 sh_49 rfl ?_
    rw [show (h 49) 5 = 0 from m.1.2.2.2.2]
    refine rr_if_ne dX10_book_52 (fun c => absurd c (by decide)) (fun _ => ?_)
    refine rr_aload_n 0 rfl rfl dX10_book_55 ?_
    refine rr_getI dX10_book_56 fX10_104 lo_49 sh_49 rfl ?_
    rw [show (h 49) 4 = (nI x) from m.1.2.1]
    refine rr_aload_n 0 rfl rfl dX10_book_59 ?_
    refine rr_getI dX10_book_60 fX10_101 lo_49 sh_49 rfl ?_
    rw [show (h 49) 2 = (nI e) from m.1.1]
    refine rr_icmp_ge dX10_book_63 (fun c1 => ?_) (fun c1 => ?_)
    · skip
      have q : e ≤ x := (nI_leI (by omega) (by omega)).mp c1
      have hop : ¬ kd c e x = 1 := by rw [kd_end.mpr q]; decide
      refine rr_drop (ls := [(0, .ref 49), (2, .int (nI L.length))]) [0, 2] rfl ?_
      exact k1 L x h (plb_0 hop _) q m
    · skip
      have q : ¬ e ≤ x := fun z => c1 ((nI_leI (by omega) (by omega)).mpr z)
      exact absurd hm (by omega)
  | succ f ih =>
    intro D0 kc ks x L B h0 h g Q hD hm hb hB m k1 k2
    obtain ⟨d, rfl⟩ : ∃ d, D0 = d + 5 := ⟨D0 - 5, by omega⟩
    have hxe := m.1.2.2.2.1
    have hbk := m.2.2.2.2
    refine rr_aload_n 0 rfl rfl dX10_book_48 ?_
    refine rr_getI dX10_book_49 fX10_111 lo_49 sh_49 rfl ?_
    rw [show (h 49) 5 = 0 from m.1.2.2.2.2]
    refine rr_if_ne dX10_book_52 (fun c => absurd c (by decide)) (fun _ => ?_)
    refine rr_aload_n 0 rfl rfl dX10_book_55 ?_
    refine rr_getI dX10_book_56 fX10_104 lo_49 sh_49 rfl ?_
    rw [show (h 49) 4 = (nI x) from m.1.2.1]
    refine rr_aload_n 0 rfl rfl dX10_book_59 ?_
    refine rr_getI dX10_book_60 fX10_101 lo_49 sh_49 rfl ?_
    rw [show (h 49) 2 = (nI e) from m.1.1]
    refine rr_icmp_ge dX10_book_63 (fun c1 => ?_) (fun c1 => ?_)
    · skip
      have q : e ≤ x := (nI_leI (by omega) (by omega)).mp c1
      have hop : ¬ kd c e x = 1 := by rw [kd_end.mpr q]; decide
      refine rr_drop (ls := [(0, .ref 49), (2, .int (nI L.length))]) [0, 2] rfl ?_
      exact k1 L x h (plb_0 hop _) q m
    · skip
      have q : ¬ e ≤ x := fun z => c1 ((nI_leI (by omega) (by omega)).mpr z)
      refine rr_aload_n 0 rfl rfl dX10_book_66 ?_
      refine rr_callV (As := []) (rest := []) (kc2 := 0) (ks2 := 0) dX10_book_67 okX10_blanks lX10_117 lo_49 sh_49 rfl rfl (Nat.le_of_ble_eq_true rfl) (Nat.le_of_ble_eq_true rfl) rfl (by omega) (by simp [jj_rk]) (by simp [jj_rk]) ?_
      refine ll_blanks rbst_R he6 m (by omega) (fun h m => ?_)
      rw [hb] at m
      show jj_R _ _ kc ks (jj_S, 782, h, g) 70 [(0, .ref 49), (1, .int w), (2, .int (nI (L.length))), (3, .int B)] [] Q
      refine rr_aload_n 0 rfl rfl dX10_book_70 ?_
      refine rr_getI dX10_book_71 fX10_104 lo_49 sh_49 rfl ?_
      rw [show (h 49) 4 = (nI x) from m.1.2.1]
      refine rr_istore [(0, .ref 49), (1, .int w), (2, .int (nI (L.length))), (3, .int B), (4, .int (nI x))] dX10_book_74 (by decide) rfl ?_
      refine rr_aload_n 0 rfl rfl dX10_book_76 ?_
      refine rr_iconst 0 rfl dX10_book_77 ?_
      refine rr_aload_n 0 rfl rfl dX10_book_78 ?_
      refine rr_getR dX10_book_79 fX10_23 lo_49 sh_49 rfl ?_
      refine rr_iconst 0 rfl dX10_book_82 ?_
      refine rr_iaload dX10_book_83 lo_53 sh_53 (jj_inL rfl) ?_
      rw [show (h 53) (0 : Int32).toNatClampNeg = (nI n) from m.2.1]
      refine rr_iconst 1 rfl dX10_book_84 ?_
      refine rr_isub dX10_book_85 ?_
      refine rr_callV (As := [.int 0, .int ((nI n) - 1)]) (rest := []) (kc2 := 0) (ks2 := 0) dX10_book_86 okX10_number lX10_157 lo_49 sh_49 rfl rfl (Nat.le_of_ble_eq_true rfl) (Nat.le_of_ble_eq_true rfl) rfl (by omega) (by simp [jj_rk]) (by simp [jj_rk]) ?_
      refine ll_num (lim := n) rbst_R he6 m (by omega) rfl (by omega) (fun v1 b1 y1 h e1 hv1 hy1 sy1 m => ?_) (fun k p h e1 m => ?_)
      · skip
        rw [hb] at e1
        have kk := pnum_k e1
        have v1v : v1 = vl c e x := kk.2
        show jj_R _ _ kc ks (jj_S, 782, h, g) 89 [(0, .ref 49), (1, .int w), (2, .int (nI (L.length))), (3, .int B), (4, .int (nI x))] [.int (nI v1)] Q
        refine rr_istore [(0, .ref 49), (1, .int w), (2, .int (nI (L.length))), (3, .int B), (4, .int (nI x)), (5, .int (nI v1))] dX10_book_89 (by decide) rfl ?_
        refine rr_aload_n 0 rfl rfl dX10_book_91 ?_
        refine rr_getI dX10_book_92 fX10_111 lo_49 sh_49 rfl ?_
        rw [show (h 49) 5 = 0 from m.1.2.2.2.2]
        refine rr_if_ne dX10_book_95 (fun c => absurd c (by decide)) (fun _ => ?_)
        refine rr_iload_n 3 rfl rfl dX10_book_98 ?_
        refine rr_iload 5 rfl dX10_book_99 ?_
        refine rr_callS (As := [.int B, .int (nI v1)]) (rest := []) (kc2 := 0) (ks2 := 0) dX10_book_101 okX10_has lX10_254 rfl (Nat.le_of_ble_eq_true rfl) (Nat.le_of_ble_eq_true rfl) rfl (by omega) (by simp [jj_rk]) (by simp [jj_rk]) ?_
        refine sp_X10_has ?_
        rw [has_bt (by omega), hB v1 (by omega)]
        by_cases tw : (L.lookup v1).isSome = true
        · skip
          rw [if_pos tw]
          have ep : pline c e n L x = .error (2, x) := by unfold pline; rw [if_pos ⟨kk.1, v1v ▸ tw⟩]
          show jj_R _ _ kc ks (jj_S, 782, h, g) 104 [(0, .ref 49), (1, .int w), (2, .int (nI (L.length))), (3, .int B), (4, .int (nI x)), (5, .int (nI v1))] [.int 1] Q
          refine rr_if_eq dX10_book_104 (fun c => absurd c (by decide)) (fun _ => ?_)
          refine rr_aload_n 0 rfl rfl dX10_book_107 ?_
          refine rr_iconst 2 rfl dX10_book_108 ?_
          refine rr_iload 4 rfl dX10_book_109 ?_
          refine rr_callV (As := [.int 2, .int (nI x)]) (rest := []) (kc2 := 0) (ks2 := 0) dX10_book_111 okX10_wrong lX10_124 lo_49 sh_49 rfl rfl (Nat.le_of_ble_eq_true rfl) (Nat.le_of_ble_eq_true rfl) rfl (by omega) (by simp [jj_rk]) (by simp [jj_rk]) ?_
          refine ll_wrongP (p0 := x) (K := 2) rbst_R m (by decide) (by decide) rfl rfl (fun h m => ?_)
          show jj_R _ _ kc ks (jj_S, 782, h, g) 114 [(0, .ref 49), (1, .int w), (2, .int (nI (L.length))), (3, .int B), (4, .int (nI x)), (5, .int (nI v1))] [] Q
          refine rr_aload_n 0 rfl rfl dX10_book_114 ?_
          refine rr_iconst 0 rfl dX10_book_115 ?_
          refine rr_sipush 999 rfl dX10_book_116 ?_
          refine rr_callV (As := [.int 0, .int 999]) (rest := []) (kc2 := 0) (ks2 := 0) dX10_book_119 okX10_number lX10_157 lo_49 sh_49 rfl rfl (Nat.le_of_ble_eq_true rfl) (Nat.le_of_ble_eq_true rfl) rfl (by omega) (by simp [jj_rk]) (by simp [jj_rk]) ?_
          refine nf_number (by omega) m.2.2.1 ?_
          show jj_R _ _ kc ks (jj_S, 782, h, g) 122 [(0, .ref 49), (1, .int w), (2, .int (nI (L.length))), (3, .int B), (4, .int (nI x)), (5, .int (nI v1))] [.int 0] Q
          refine rr_istore [(0, .ref 49), (1, .int w), (2, .int (nI (L.length))), (3, .int B), (4, .int (nI x)), (5, .int (nI v1)), (6, .int 0)] dX10_book_122 (by decide) rfl ?_
          refine rr_aload_n 0 rfl rfl dX10_book_124 ?_
          refine rr_bipush 59 rfl dX10_book_125 ?_
          refine rr_callV (As := [.int 59]) (rest := []) (kc2 := 0) (ks2 := 0) dX10_book_127 okX10_sign lX10_167 lo_49 sh_49 rfl rfl (Nat.le_of_ble_eq_true rfl) (Nat.le_of_ble_eq_true rfl) rfl (by omega) (by simp [jj_rk]) (by simp [jj_rk]) ?_
          refine nf_sign (by omega) m.2.2.1 ?_
          show jj_R _ _ kc ks (jj_S, 782, h, g) 130 [(0, .ref 49), (1, .int w), (2, .int (nI (L.length))), (3, .int B), (4, .int (nI x)), (5, .int (nI v1)), (6, .int 0)] [] Q
          refine rr_aload_n 0 rfl rfl dX10_book_130 ?_
          refine rr_getI dX10_book_131 fX10_111 lo_49 sh_49 rfl ?_
          refine rr_if_ne dX10_book_134 (fun _ => ?_) (fun c => absurd c m.2.2.1)
          refine rr_aload_n 0 rfl rfl dX10_book_167 ?_
          refine rr_callV (As := []) (rest := []) (kc2 := 0) (ks2 := 0) dX10_book_168 okX10_blanks lX10_117 lo_49 sh_49 rfl rfl (Nat.le_of_ble_eq_true rfl) (Nat.le_of_ble_eq_true rfl) rfl (by omega) (by simp [jj_rk]) (by simp [jj_rk]) ?_
          refine ll_blanksE (I := fun _ _ => False) (E := rber c e h0) rber_R he6 m (by omega) (fun h m => ?_)
          show jj_R _ _ kc ks (jj_S, 782, h, g) 171 [(0, .ref 49), (1, .int w), (2, .int (nI (L.length))), (3, .int B), (4, .int (nI x)), (5, .int (nI v1)), (6, .int 0)] [] Q
          refine rr_goto dX10_book_171 ?_
          refine rr_aload_n 0 rfl rfl dX10_book_48 ?_
          refine rr_getI dX10_book_49 fX10_111 lo_49 sh_49 rfl ?_
          refine rr_if_ne dX10_book_52 (fun _ => ?_) (fun c => absurd c m.2.2.1)
          refine rr_drop (ls := [(0, .ref 49)]) [0] rfl ?_
          refine k2 2 x h ?_ m
          by_cases z : kd c e x = 1
          · exact Or.inl (by rw [plb_s z, pb_er ep])
          · rw [pline_no z] at ep
            cases ep
        · skip
          rw [if_neg tw]
          have hl : L.lookup v1 = none := isS_none tw
          have ep0 : pline c e n L x = pb (pnum c e n x) fun z => pb (pnum c e 1000 z.2) fun v => pb (psign c e 59 v.2) fun b => .ok ((z.1, v.1), b) := by unfold pline; rw [if_neg (fun q => tw (v1v ▸ q.2))]
          show jj_R _ _ kc ks (jj_S, 782, h, g) 104 [(0, .ref 49), (1, .int w), (2, .int (nI (L.length))), (3, .int B), (4, .int (nI x)), (5, .int (nI v1))] [.int 0] Q
          refine rr_if_eq dX10_book_104 (fun _ => ?_) (fun c => absurd (by decide) c)
          refine rr_aload_n 0 rfl rfl dX10_book_114 ?_
          refine rr_iconst 0 rfl dX10_book_115 ?_
          refine rr_sipush 999 rfl dX10_book_116 ?_
          refine rr_callV (As := [.int 0, .int 999]) (rest := []) (kc2 := 0) (ks2 := 0) dX10_book_119 okX10_number lX10_157 lo_49 sh_49 rfl rfl (Nat.le_of_ble_eq_true rfl) (Nat.le_of_ble_eq_true rfl) rfl (by omega) (by simp [jj_rk]) (by simp [jj_rk]) ?_
          refine ll_num (lim := 1000) rbst_R he6 m (by omega) (by decide) (by decide) (fun v2 b2 y2 h e2 hv2 hy2 sy2 m => ?_) (fun k p h e2 m => ?_)
          · skip
            rw [sy1] at e2
            show jj_R _ _ kc ks (jj_S, 782, h, g) 122 [(0, .ref 49), (1, .int w), (2, .int (nI (L.length))), (3, .int B), (4, .int (nI x)), (5, .int (nI v1))] [.int (nI v2)] Q
            refine rr_istore [(0, .ref 49), (1, .int w), (2, .int (nI (L.length))), (3, .int B), (4, .int (nI x)), (5, .int (nI v1)), (6, .int (nI v2))] dX10_book_122 (by decide) rfl ?_
            refine rr_aload_n 0 rfl rfl dX10_book_124 ?_
            refine rr_bipush 59 rfl dX10_book_125 ?_
            refine rr_callV (As := [.int 59]) (rest := []) (kc2 := 0) (ks2 := 0) dX10_book_127 okX10_sign lX10_167 lo_49 sh_49 rfl rfl (Nat.le_of_ble_eq_true rfl) (Nat.le_of_ble_eq_true rfl) rfl (by omega) (by simp [jj_rk]) (by simp [jj_rk]) ?_
            refine ll_sign (X := 59) rbst_R he6 sg_59 m (by omega) (fun b3 y3 h e3 hy3 sy3 m => ?_) (fun k p h e3 m => ?_)
            · skip
              rw [sy2] at e3
              have ep : pline c e n L x = .ok ((v1, v2), b3) := by rw [ep0, pb_ok e1, pb_ok e2, pb_ok e3]
              have bo := bok_add (v := v2) m.2.2.2.2 hn hv1 hv2 hl
              have b8 := bok_8 bo
              rw [List.length_append, List.length_singleton] at b8
              rw [plb_s kk.1, pb_ok ep] at k1 k2
              show jj_R _ _ kc ks (jj_S, 782, h, g) 130 [(0, .ref 49), (1, .int w), (2, .int (nI (L.length))), (3, .int B), (4, .int (nI x)), (5, .int (nI v1)), (6, .int (nI v2))] [] Q
              refine rr_aload_n 0 rfl rfl dX10_book_130 ?_
              refine rr_getI dX10_book_131 fX10_111 lo_49 sh_49 rfl ?_
              rw [show (h 49) 5 = 0 from m.1.2.2.2.2]
              refine rr_if_ne dX10_book_134 (fun c => absurd c (by decide)) (fun _ => ?_)
              refine rr_iload_n 3 rfl rfl dX10_book_137 ?_
              refine rr_iconst 1 rfl dX10_book_138 ?_
              refine rr_iload 5 rfl dX10_book_139 ?_
              refine rr_ishl dX10_book_141 ?_
              refine rr_ior dX10_book_142 ?_
              refine rr_istore_n [(0, .ref 49), (1, .int w), (2, .int (nI (L.length))), (3, .int (B ||| (1 <<< ((nI v1) &&& 31)))), (4, .int (nI x)), (5, .int (nI v1)), (6, .int (nI v2))] dX10_book_143 rfl (by decide) rfl ?_
              refine rr_aload_n 0 rfl rfl dX10_book_144 ?_
              refine rr_getR dX10_book_145 fX10_49 lo_49 sh_49 rfl ?_
              refine rr_iload_n 2 rfl rfl dX10_book_148 ?_
              refine rr_aaload dX10_book_149 lo_405 sh_405 (vp_in_nI (by omega) (by decide)) ?_
              refine rr_iconst 0 rfl dX10_book_150 ?_
              refine rr_iload 5 rfl dX10_book_151 ?_
              refine rr_iastore dX10_book_153 (lr_405 (jj_ink (i := (nI (L.length))) (vp_in_nI (by omega) (by decide)))) (sr_405 (jj_ink (i := (nI (L.length))) (vp_in_nI (by omega) (by decide)))) (jj_inL rfl) ?_
              rw [show (0 : Int32).toNatClampNeg = 0 from rfl]
              refine jj_Rh (jj_gs_set0 (B := h) (L := []) (b := 406) (len := 8) (x := ((nI (L.length)) : Int32).toNatClampNeg) rfl (jj_ink (i := (nI (L.length))) (vp_in_nI (by omega) (by decide)))) ?_
              rw [jj_rs_nil]
              refine rr_aload_n 0 rfl rfl dX10_book_154 ?_
              refine rr_getR dX10_book_155 fX10_49 lo_49 sh_49 rfl ?_
              refine rr_iload_n 2 rfl rfl dX10_book_158 ?_
              refine rr_aaload dX10_book_159 lo_405 sh_405 (vp_in_nI (by omega) (by decide)) ?_
              refine rr_iconst 1 rfl dX10_book_160 ?_
              refine rr_iload 6 rfl dX10_book_161 ?_
              refine rr_iastore dX10_book_163 (lr_405 (jj_ink (i := (nI (L.length))) (vp_in_nI (by omega) (by decide)))) (sr_405 (jj_ink (i := (nI (L.length))) (vp_in_nI (by omega) (by decide)))) (jj_inL rfl) ?_
              rw [show (1 : Int32).toNatClampNeg = 1 from rfl]
              refine jj_Rh (jj_gs_set (B := h) (L := []) (b := 406) (len := 8) (G := (jj_ug (jj_gd h 406 8) (((nI (L.length)) : Int32).toNatClampNeg) (0) (nI v1))) (x := ((nI (L.length)) : Int32).toNatClampNeg) rfl (jj_ink (i := (nI (L.length))) (vp_in_nI (by omega) (by decide)))) ?_
              rw [jj_rs_nil]
              refine rr_iinc 2 1 [(0, .ref 49), (1, .int w), (2, .int ((nI (L.length)) + 1)), (3, .int (B ||| (1 <<< ((nI v1) &&& 31)))), (4, .int (nI x)), (5, .int (nI v1)), (6, .int (nI v2))] dX10_book_164 rfl rfl (by decide) rfl ?_
              refine jj_fl (fun h9 eh => ?_)
              have m9 := rb_add m hn hv1 hv2 hl (by omega) rfl eh
              have hB := bitL_add (v := v2) hB (by omega) hl
              clear eh
              revert h9
              intro h m
              show jj_R _ _ kc ks (jj_S, 782, h, g) 167 [(0, .ref 49), (1, .int w), (2, .int ((nI (L.length)) + 1)), (3, .int (B ||| (1 <<< ((nI v1) &&& 31)))), (4, .int (nI x)), (5, .int (nI v1)), (6, .int (nI v2))] [] Q
              refine rr_aload_n 0 rfl rfl dX10_book_167 ?_
              refine rr_callV (As := []) (rest := []) (kc2 := 0) (ks2 := 0) dX10_book_168 okX10_blanks lX10_117 lo_49 sh_49 rfl rfl (Nat.le_of_ble_eq_true rfl) (Nat.le_of_ble_eq_true rfl) rfl (by omega) (by simp [jj_rk]) (by simp [jj_rk]) ?_
              refine ll_blanks rbst_R he6 m (by omega) (fun h m => ?_)
              rw [sy3] at m
              have sb : spn isB c e b3 = b3 := by rw [← sy3, spn_idem]
              have sl := spn_ge (P := isB) (c := c) (e := e) (x := y3)
              show jj_R _ _ kc ks (jj_S, 782, h, g) 171 [(0, .ref 49), (1, .int w), (2, .int ((nI (L.length)) + 1)), (3, .int (B ||| (1 <<< ((nI v1) &&& 31)))), (4, .int (nI x)), (5, .int (nI v1)), (6, .int (nI v2))] [] Q
              refine rr_goto dX10_book_171 ?_
              refine rr_drop (ls := [(0, .ref 49), (1, .int w), (2, .int (nI (L ++ [(v1, v2)]).length)), (3, .int (B ||| (1 <<< (nI v1 &&& 31))))]) [0, 1, 2, 3] (by rw [List.length_append, List.length_singleton, ← nI_1]; rfl) ?_
              exact ih hD (by omega) sb hB m k1 k2
            · skip
              rw [sy2] at e3
              have ep : pline c e n L x = .error (k, p) := by rw [ep0, pb_ok e1, pb_ok e2, pb_er e3]
              show jj_R _ _ kc ks (jj_S, 782, h, g) 130 [(0, .ref 49), (1, .int w), (2, .int (nI (L.length))), (3, .int B), (4, .int (nI x)), (5, .int (nI v1)), (6, .int (nI v2))] [] Q
              refine rr_aload_n 0 rfl rfl dX10_book_130 ?_
              refine rr_getI dX10_book_131 fX10_111 lo_49 sh_49 rfl ?_
              refine rr_if_ne dX10_book_134 (fun _ => ?_) (fun c => absurd c m.2.2.1)
              refine rr_aload_n 0 rfl rfl dX10_book_167 ?_
              refine rr_callV (As := []) (rest := []) (kc2 := 0) (ks2 := 0) dX10_book_168 okX10_blanks lX10_117 lo_49 sh_49 rfl rfl (Nat.le_of_ble_eq_true rfl) (Nat.le_of_ble_eq_true rfl) rfl (by omega) (by simp [jj_rk]) (by simp [jj_rk]) ?_
              refine ll_blanksE (I := fun _ _ => False) (E := rber c e h0) rber_R he6 m (by omega) (fun h m => ?_)
              show jj_R _ _ kc ks (jj_S, 782, h, g) 171 [(0, .ref 49), (1, .int w), (2, .int (nI (L.length))), (3, .int B), (4, .int (nI x)), (5, .int (nI v1)), (6, .int (nI v2))] [] Q
              refine rr_goto dX10_book_171 ?_
              refine rr_aload_n 0 rfl rfl dX10_book_48 ?_
              refine rr_getI dX10_book_49 fX10_111 lo_49 sh_49 rfl ?_
              refine rr_if_ne dX10_book_52 (fun _ => ?_) (fun c => absurd c m.2.2.1)
              refine rr_drop (ls := [(0, .ref 49)]) [0] rfl ?_
              refine k2 k p h ?_ m
              by_cases z : kd c e x = 1
              · exact Or.inl (by rw [plb_s z, pb_er ep])
              · rw [pline_no z] at ep
                cases ep
                exact Or.inr ⟨L, x, plb_0 z _, q, rfl, rfl⟩
          · skip
            rw [sy1] at e2
            have ep : pline c e n L x = .error (k, p) := by rw [ep0, pb_ok e1, pb_er e2]
            show jj_R _ _ kc ks (jj_S, 782, h, g) 122 [(0, .ref 49), (1, .int w), (2, .int (nI (L.length))), (3, .int B), (4, .int (nI x)), (5, .int (nI v1))] [.int 0] Q
            refine rr_istore [(0, .ref 49), (1, .int w), (2, .int (nI (L.length))), (3, .int B), (4, .int (nI x)), (5, .int (nI v1)), (6, .int 0)] dX10_book_122 (by decide) rfl ?_
            refine rr_aload_n 0 rfl rfl dX10_book_124 ?_
            refine rr_bipush 59 rfl dX10_book_125 ?_
            refine rr_callV (As := [.int 59]) (rest := []) (kc2 := 0) (ks2 := 0) dX10_book_127 okX10_sign lX10_167 lo_49 sh_49 rfl rfl (Nat.le_of_ble_eq_true rfl) (Nat.le_of_ble_eq_true rfl) rfl (by omega) (by simp [jj_rk]) (by simp [jj_rk]) ?_
            refine nf_sign (by omega) m.2.2.1 ?_
            show jj_R _ _ kc ks (jj_S, 782, h, g) 130 [(0, .ref 49), (1, .int w), (2, .int (nI (L.length))), (3, .int B), (4, .int (nI x)), (5, .int (nI v1)), (6, .int 0)] [] Q
            refine rr_aload_n 0 rfl rfl dX10_book_130 ?_
            refine rr_getI dX10_book_131 fX10_111 lo_49 sh_49 rfl ?_
            refine rr_if_ne dX10_book_134 (fun _ => ?_) (fun c => absurd c m.2.2.1)
            refine rr_aload_n 0 rfl rfl dX10_book_167 ?_
            refine rr_callV (As := []) (rest := []) (kc2 := 0) (ks2 := 0) dX10_book_168 okX10_blanks lX10_117 lo_49 sh_49 rfl rfl (Nat.le_of_ble_eq_true rfl) (Nat.le_of_ble_eq_true rfl) rfl (by omega) (by simp [jj_rk]) (by simp [jj_rk]) ?_
            refine ll_blanksE (I := fun _ _ => False) (E := rber c e h0) rber_R he6 m (by omega) (fun h m => ?_)
            show jj_R _ _ kc ks (jj_S, 782, h, g) 171 [(0, .ref 49), (1, .int w), (2, .int (nI (L.length))), (3, .int B), (4, .int (nI x)), (5, .int (nI v1)), (6, .int 0)] [] Q
            refine rr_goto dX10_book_171 ?_
            refine rr_aload_n 0 rfl rfl dX10_book_48 ?_
            refine rr_getI dX10_book_49 fX10_111 lo_49 sh_49 rfl ?_
            refine rr_if_ne dX10_book_52 (fun _ => ?_) (fun c => absurd c m.2.2.1)
            refine rr_drop (ls := [(0, .ref 49)]) [0] rfl ?_
            refine k2 k p h ?_ m
            by_cases z : kd c e x = 1
            · exact Or.inl (by rw [plb_s z, pb_er ep])
            · rw [pline_no z] at ep
              cases ep
              exact Or.inr ⟨L, x, plb_0 z _, q, rfl, rfl⟩
      · skip
        rw [hb] at e1
        have ep : pline c e n L x = .error (k, p) := by
          unfold pline
          rw [if_neg ?_, pb_er e1]
          intro z
          obtain ⟨v, hv⟩ := Option.isSome_iff_exists.mp z.2
          have := (hbk.1 _ v hv).1
          unfold pnum at e1
          rw [if_pos z.1, if_pos this] at e1
          cases e1
        show jj_R _ _ kc ks (jj_S, 782, h, g) 89 [(0, .ref 49), (1, .int w), (2, .int (nI (L.length))), (3, .int B), (4, .int (nI x))] [.int 0] Q
        refine rr_istore [(0, .ref 49), (1, .int w), (2, .int (nI (L.length))), (3, .int B), (4, .int (nI x)), (5, .int 0)] dX10_book_89 (by decide) rfl ?_
        refine rr_aload_n 0 rfl rfl dX10_book_91 ?_
        refine rr_getI dX10_book_92 fX10_111 lo_49 sh_49 rfl ?_
        refine rr_if_ne dX10_book_95 (fun _ => ?_) (fun c => absurd c m.2.2.1)
        refine rr_aload_n 0 rfl rfl dX10_book_114 ?_
        refine rr_iconst 0 rfl dX10_book_115 ?_
        refine rr_sipush 999 rfl dX10_book_116 ?_
        refine rr_callV (As := [.int 0, .int 999]) (rest := []) (kc2 := 0) (ks2 := 0) dX10_book_119 okX10_number lX10_157 lo_49 sh_49 rfl rfl (Nat.le_of_ble_eq_true rfl) (Nat.le_of_ble_eq_true rfl) rfl (by omega) (by simp [jj_rk]) (by simp [jj_rk]) ?_
        refine nf_number (by omega) m.2.2.1 ?_
        show jj_R _ _ kc ks (jj_S, 782, h, g) 122 [(0, .ref 49), (1, .int w), (2, .int (nI (L.length))), (3, .int B), (4, .int (nI x)), (5, .int 0)] [.int 0] Q
        refine rr_istore [(0, .ref 49), (1, .int w), (2, .int (nI (L.length))), (3, .int B), (4, .int (nI x)), (5, .int 0), (6, .int 0)] dX10_book_122 (by decide) rfl ?_
        refine rr_aload_n 0 rfl rfl dX10_book_124 ?_
        refine rr_bipush 59 rfl dX10_book_125 ?_
        refine rr_callV (As := [.int 59]) (rest := []) (kc2 := 0) (ks2 := 0) dX10_book_127 okX10_sign lX10_167 lo_49 sh_49 rfl rfl (Nat.le_of_ble_eq_true rfl) (Nat.le_of_ble_eq_true rfl) rfl (by omega) (by simp [jj_rk]) (by simp [jj_rk]) ?_
        refine nf_sign (by omega) m.2.2.1 ?_
        show jj_R _ _ kc ks (jj_S, 782, h, g) 130 [(0, .ref 49), (1, .int w), (2, .int (nI (L.length))), (3, .int B), (4, .int (nI x)), (5, .int 0), (6, .int 0)] [] Q
        refine rr_aload_n 0 rfl rfl dX10_book_130 ?_
        refine rr_getI dX10_book_131 fX10_111 lo_49 sh_49 rfl ?_
        refine rr_if_ne dX10_book_134 (fun _ => ?_) (fun c => absurd c m.2.2.1)
        refine rr_aload_n 0 rfl rfl dX10_book_167 ?_
        refine rr_callV (As := []) (rest := []) (kc2 := 0) (ks2 := 0) dX10_book_168 okX10_blanks lX10_117 lo_49 sh_49 rfl rfl (Nat.le_of_ble_eq_true rfl) (Nat.le_of_ble_eq_true rfl) rfl (by omega) (by simp [jj_rk]) (by simp [jj_rk]) ?_
        refine ll_blanksE (I := fun _ _ => False) (E := rber c e h0) rber_R he6 m (by omega) (fun h m => ?_)
        show jj_R _ _ kc ks (jj_S, 782, h, g) 171 [(0, .ref 49), (1, .int w), (2, .int (nI (L.length))), (3, .int B), (4, .int (nI x)), (5, .int 0), (6, .int 0)] [] Q
        refine rr_goto dX10_book_171 ?_
        refine rr_aload_n 0 rfl rfl dX10_book_48 ?_
        refine rr_getI dX10_book_49 fX10_111 lo_49 sh_49 rfl ?_
        refine rr_if_ne dX10_book_52 (fun _ => ?_) (fun c => absurd c m.2.2.1)
        refine rr_drop (ls := [(0, .ref 49)]) [0] rfl ?_
        refine k2 k p h ?_ m
        by_cases z : kd c e x = 1
        · exact Or.inl (by rw [plb_s z, pb_er ep])
        · rw [pline_no z] at ep
          cases ep
          exact Or.inr ⟨L, x, plb_0 z _, q, rfl, rfl⟩
set_option maxHeartbeats 4000000 in
theorem rf_book {c : Nat → Nat} {n N T D kc ks : Nat} {h0 : hp_} {g : Nat → Nat → Int64} {Q : jj_Rs → jj_St → Prop} (hF : fedok (h0 50) c) (hT : h0 49 1 = nI T) (hT6 : T ≤ 600) (hNT : N ≤ T) (hN6 : N ≤ 60) (hP : h0 53 0 = nI n) (hn : n ≤ 8) (hD : 7 ≤ D) (k1 : ∀ L h9, pbook c N n = .ok L → bokTm h0 h9 L n → Q (.inl (some (.int (nI L.length)))) (jj_S, 782, h9, g)) (k2 : ∀ k p h9, pbook c N n = .error (k, p) → bokEm h0 h9 p → Q (.inl (some (.int (nI k - 10)))) (jj_S, 782, h9, g)) : jj_R mX10_book D kc ks (jj_S, 782, h0, g) 0 [(0, .ref 49), (1, .int (nI N))] [] Q := by
  obtain ⟨d, rfl⟩ : ∃ d, D = d + 7 := ⟨D - 7, by omega⟩
  obtain ⟨h, eh0⟩ : ∃ h, h = h0 := ⟨h0, rfl⟩
  rw [← eh0]
  rw [← eh0] at hF hT
  refine rr_aload_n 0 rfl rfl dX10_book_0 ?_
  refine rr_iconst 0 rfl dX10_book_1 ?_
  refine rr_putI dX10_book_2 fX10_95 ni10_0 lo_49 sh_49 rfl ?_
  rw [jj_rs_set0 (B := h) (o := 49) (r := (h 49)) rfl]
  refine jj_fl (fun h9 eh => ?_)
  have t0 : h9 49 0 = 0 := by rw [eh]; exact jj_ueq rfl
  have fq : fr 49 pR fN h0 h9 := by rw [eh, ← eh0]; exact fr_u rfl
  have hT : h9 49 1 = nI T := by rw [eh]; exact (jj_une (by decide)).trans hT
  have hF : fedok (h9 50) c := by rw [eh]; exact hF
  clear eh
  revert h9
  intro h t0 fq hT hF
  show jj_R _ _ kc ks (jj_S, 782, h, g) 5 [(0, .ref 49), (1, .int (nI N))] [] Q
  refine rr_aload_n 0 rfl rfl dX10_book_5 ?_
  refine rr_iload_n 1 rfl rfl dX10_book_6 ?_
  refine rr_iconst 0 rfl dX10_book_7 ?_
  refine rr_aload_n 0 rfl rfl dX10_book_8 ?_
  refine rr_getI dX10_book_9 fX10_98 lo_49 sh_49 rfl ?_
  rw [show (h 49) 1 = (nI T) from hT]
  refine rr_callS (As := [.int (nI N), .int 0, .int (nI T)]) (rest := [.ref 49]) (kc2 := 0) (ks2 := 0) dX10_book_12 okX10_in lX10_129 rfl (Nat.le_of_ble_eq_true rfl) (Nat.le_of_ble_eq_true rfl) rfl (by omega) (by simp [jj_rk]) (by simp [jj_rk]) ?_
  refine sp_X10_in  ?_
  show jj_R _ _ kc ks (jj_S, 782, h, g) 15 [(0, .ref 49), (1, .int (nI N))] [.int (vX10_in (nI N) 0 (nI T)), .ref 49] Q
  refine rr_if_eq dX10_book_15 (fun c => absurd c (by rw [in_T hNT (by omega)]; decide)) (fun _ => ?_)
  refine rr_iload_n 1 rfl rfl dX10_book_18 ?_
  refine rr_bipush 60 rfl dX10_book_19 ?_
  refine rr_icmp_le dX10_book_21 (fun _ => ?_) (fun c => absurd (nI_le hN6 (by decide)) c)
  refine rr_iconst 0 rfl dX10_book_28 ?_
  refine rr_iconst 1 rfl dX10_book_29 ?_
  refine rr_iconst 1 rfl dX10_book_30 ?_
  refine rr_callV (As := [.int 0, .int 1, .int 1]) (rest := []) (kc2 := 0) (ks2 := 0) dX10_book_31 okX10_bad lX10_171 lo_49 sh_49 rfl rfl (Nat.le_of_ble_eq_true rfl) (Nat.le_of_ble_eq_true rfl) rfl (by omega) (by simp [jj_rk]) (by simp [jj_rk]) ?_
  refine sp_X10_bad0_11 t0 ?_
  show jj_R _ _ kc ks (jj_S, 782, h, g) 34 [(0, .ref 49), (1, .int (nI N))] [.int 0] Q
  refine rr_if_eq dX10_book_34 (fun _ => ?_) (fun c => absurd (by decide) c)
  refine rr_aload_n 0 rfl rfl dX10_book_39 ?_
  refine rr_iload_n 1 rfl rfl dX10_book_40 ?_
  refine rr_callV (As := [.int (nI N)]) (rest := []) (kc2 := 0) (ks2 := 0) dX10_book_41 okX10_starts lX10_175 lo_49 sh_49 rfl rfl (Nat.le_of_ble_eq_true rfl) (Nat.le_of_ble_eq_true rfl) rfl (by omega) (by simp [jj_rk]) (by simp [jj_rk]) ?_
  refine rl_starts (by omega) hF (by omega) (fun h m s0 f1 => ?_)
  have t0 : h 49 0 = 0 := s0.trans t0
  have fq : fr 49 pR fN h0 h := fr_tr fq (fr_mo (fun _ _ => rfl) (fun _ q => q) f1)
  obtain ⟨mm, a6, a7, a8, a9⟩ := m
  have m9 : rbst c N n [] h (spn isB c N 0) h := ⟨mm, (congrFun (fq.1 53 rfl (by decide)) 0).trans hP, fr_rf, fun i z hi => (by cases hi), bok_nil⟩
  show jj_R _ _ kc ks (jj_S, 782, h, g) 44 [(0, .ref 49), (1, .int (nI N))] [] Q
  refine rr_iconst 0 rfl dX10_book_44 ?_
  refine rr_istore_n [(0, .ref 49), (1, .int (nI N)), (2, .int 0)] dX10_book_45 rfl (by decide) rfl ?_
  refine rr_iconst 0 rfl dX10_book_46 ?_
  refine rr_istore_n [(0, .ref 49), (1, .int (nI N)), (2, .int 0), (3, .int 0)] dX10_book_47 rfl (by decide) rfl ?_
  refine rb_loop (L := []) (B := 0) (by omega) hn N (by omega) (by omega) spn_idem (fun p _ => b_0 p) m9 (fun L b h e1 q m => ?_) (fun k p h e1 m => ?_)
  · skip
    have fr1 := fr_tr fq (fr_mo (fun _ q => q) fW_N m.2.2.1)
    have t0 : h 49 0 = 0 := (m.2.2.1.2 0 rfl).trans t0
    have t1 : h 49 1 = 0 := (m.2.2.1.2 1 rfl).trans a6
    have b8 := bok_8 m.2.2.2.2
    have m6 := m.2.2.2.1
    refine rr_aload_n 0 rfl rfl dX10_book_174 ?_
    refine rr_getI dX10_book_175 fX10_111 lo_49 sh_49 rfl ?_
    rw [show (h 49) 5 = 0 from m.1.2.2.2.2]
    refine rr_if_eq dX10_book_178 (fun _ => ?_) (fun c => absurd (by decide) c)
    refine rr_aload_n 0 rfl rfl dX10_book_186 ?_
    refine rr_iconst (-1) rfl dX10_book_187 ?_
    refine rr_putI dX10_book_188 fX10_9 ni10_3 lo_49 sh_49 rfl ?_
    rw [jj_rs_set0 (B := h) (o := 49) (r := (h 49)) rfl]
    refine rr_aload_n 0 rfl rfl dX10_book_191 ?_
    refine rr_iload_n 1 rfl rfl dX10_book_192 ?_
    refine rr_putI dX10_book_193 fX10_191 ni10_31 lo_49 sh_49 rfl ?_
    rw [jj_rs_set (B := h) (L := [(49, (upd (h 49) (3) (-1)))]) (L2 := [(49, (upd (upd (h 49) (3) (-1)) (31) (nI L.length)))]) (r := (upd (h 49) (3) (-1))) rfl rfl]
    refine jj_fl (fun h9 eh => ?_)
    have u0 : h9 49 0 = 0 ∧ h9 49 1 = 0 ∧ h9 49 3 = -1 ∧ h9 49 31 = nI L.length := by
      rw [eh]
      exact ⟨(jj_une (by decide)).trans ((jj_une (by decide)).trans t0), (jj_une (by decide)).trans ((jj_une (by decide)).trans t1), (jj_une (by decide)).trans (jj_ueq rfl), jj_ueq rfl⟩
    have u1 : ∀ x, ¬ x = 49 → h9 x = h x := fun x q => by rw [eh]; exact rs_ne q
    have u2 : ∀ i, fN i = false → ¬ i = 31 → h9 49 i = h0 49 i := fun i p q => by
      rw [eh]
      have q2 := fN_no p
      exact (jj_une q).trans ((jj_une (by omega)).trans (fr1.2 i p))
    clear eh
    show jj_R _ _ kc ks (jj_S, 782, h9, g) 196 [(0, .ref 49), (2, .int (nI L.length))] [] Q
    refine rr_aload_n 0 rfl rfl dX10_book_196 ?_
    refine rr_getR dX10_book_197 fX10_49 lo_49 sh_49 rfl ?_
    refine rr_aload_n 0 rfl rfl dX10_book_200 ?_
    refine rr_getR dX10_book_201 fX10_46 lo_49 sh_49 rfl ?_
    refine rr_iload_n 1 rfl rfl dX10_book_204 ?_
    refine rr_callS (As := [.ref 405, .ref 396, .int (nI L.length)]) (rest := []) (kc2 := 0) (ks2 := 0) dX10_book_205 okX10_lays lX10_184 rfl (Nat.le_of_ble_eq_true rfl) (Nat.le_of_ble_eq_true rfl) rfl (by omega) (by simp [jj_rk]) (by simp [jj_rk]) ?_
    refine sp_X10_lays_line (q := L.length) rfl (by omega) ?_
    have la := layG_at (G := jj_gd h9 406 8) (a := jj_gd h9 397 8) (W := 2) L.length (by omega)
    show jj_R _ _ kc ks (jj_S, 782, jj_gs h9 397 8 (layG (jj_gd h9 406 8) 2 L.length (jj_gd h9 397 8)), g) 208 [(0, .ref 49), (2, .int (nI L.length))] [] Q
    refine rr_iload_n 1 rfl rfl dX10_book_208 ?_
    refine rr_ireturn dX10_book_209 rfl ?_
    refine k1 L _ (by unfold pbook; rw [pb_ok e1, if_pos q]) ⟨u0, m.2.2.2.2, fun i z hi => ?_, fun x x49 xr xs => ?_, fun i p q => u2 i p q⟩
    · have hi2 := (List.getElem?_eq_some_iff.mp hi).1
      have e9 : jj_gs h9 397 8 (layG (jj_gd h9 406 8) 2 L.length (jj_gd h9 397 8)) (397 + i) = layG (jj_gd h9 406 8) 2 L.length (jj_gd h9 397 8) i := by
        have := jj_gs_at (B := h9) (b := 397) (len := 8) (G := layG (jj_gd h9 406 8) 2 L.length (jj_gd h9 397 8)) (L := []) (x := i) rfl (by omega)
        rw [jj_rs_nil] at this
        exact this
      rw [e9, la.1 i 0 hi2 (by decide), la.1 i 1 hi2 (by decide), ← jj_gd_at (by omega), u1 (406 + i) (by omega)]
      exact m6 i z hi
    · have e9 : jj_gs h9 397 8 (layG (jj_gd h9 406 8) 2 L.length (jj_gd h9 397 8)) x = h9 x := by
        unfold jj_gs
        rw [if_neg (by omega)]
      rw [e9, u1 x x49]
      exact fr1.1 x (pR_no xs) x49
  · skip
    refine rr_aload_n 0 rfl rfl dX10_book_174 ?_
    refine rr_getI dX10_book_175 fX10_111 lo_49 sh_49 rfl ?_
    refine rr_if_eq dX10_book_178 (fun c => absurd c m.2.2.1) (fun _ => ?_)
    refine rr_aload_n 0 rfl rfl dX10_book_181 ?_
    refine rr_callV (As := []) (rest := []) (kc2 := 0) (ks2 := 0) dX10_book_182 okX10_ends lX10_181 lo_49 sh_49 rfl rfl (Nat.le_of_ble_eq_true rfl) (Nat.le_of_ble_eq_true rfl) rfl (by omega) (by simp [jj_rk]) (by simp [jj_rk]) ?_
    refine rl_ends (k := k) (p := p) m.1 m.2.1 ?_
    show jj_R _ _ kc ks (jj_S, 782, jj_rs h [(49, upd (h 49) 3 (nI p))], g) 185 [(0, .ref 49)] [.int (nI k - 10)] Q
    refine rr_ireturn dX10_book_185 rfl ?_
    have fr1 := fr_tr fq (fr_mo (fun _ q => q) fW_N m.2.2.2.1)
    refine k2 k p _ ?_ ⟨(jj_une (by decide)).trans ((m.2.2.2.1.2 0 rfl).trans t0), (jj_une (by decide)).trans ((m.2.2.2.1.2 1 rfl).trans a6), jj_ueq rfl, fun x x49 xr => ?_, fun i p => ?_⟩
    · unfold pbook
      rcases e1 with e1 | ⟨L2, b, e1, q1, rfl, rfl⟩
      · rw [pb_er e1]
      · rw [pb_ok e1, if_neg q1]
    · rw [rs_ne x49]; exact fr1.1 x (pR_no xr) x49
    · have q := fN_no p
      exact (jj_une (by omega)).trans (fr1.2 i p)
