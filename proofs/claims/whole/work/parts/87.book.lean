/-! ===== THE reading of a BOOK; the class's book ===== -/
abbrev bL_ : Type := List (Nat × Nat)
def pline (c : Nat → Nat) (e n : Nat) (L : bL_) (a : Nat) : Except (Nat × Nat) ((Nat × Nat) × Nat) := if kd c e a = 1 ∧ (L.lookup (vl c e a)).isSome = true then .error (2, a) else pb (pnum c e n a) fun z => pb (pnum c e 1000 z.2) fun v => pb (psign c e 59 v.2) fun b => .ok ((z.1, v.1), b)
def plb (c : Nat → Nat) (e n : Nat) : Nat → bL_ → Nat → Except (Nat × Nat) (bL_ × Nat)
  | 0, L, a => .ok (L, a)
  | f + 1, L, a => if kd c e a = 1 then pb (pline c e n L a) fun z => plb c e n f (L ++ [z.1]) z.2 else .ok (L, a)
def pbook (c : Nat → Nat) (e n : Nat) : Except (Nat × Nat) bL_ := pb (plb c e n e [] (spn isB c e 0)) fun z => if e ≤ z.2 then .ok z.1 else .error (1, z.2)
theorem plb_0 {c : Nat → Nat} {e n a : Nat} {L : bL_} (h : ¬ kd c e a = 1) : ∀ f, plb c e n f L a = .ok (L, a)
  | 0 => rfl
  | _ + 1 => by rw [plb, if_neg h]
theorem plb_s {c : Nat → Nat} {e n a f : Nat} {L : bL_} (h : kd c e a = 1) : plb c e n (f + 1) L a = pb (pline c e n L a) fun z => plb c e n f (L ++ [z.1]) z.2 := by rw [plb, if_pos h]
theorem e4_pline {c : Nat → Nat} {e n a : Nat} {L : bL_} : e4 (pline c e n L a) := by
  unfold pline
  split
  · exact e4_er (by decide)
  · exact e4_b e4_n (fun z => e4_b e4_n (fun z2 => e4_b e4_s (fun b => e4_ok)))
theorem e4_plb {c : Nat → Nat} {e n : Nat} : ∀ f L a, e4 (plb c e n f L a)
  | 0, L, a => e4_ok
  | f + 1, L, a => by
    rw [plb]
    split
    · exact e4_b e4_pline (fun z => e4_plb f _ _)
    · exact e4_ok
theorem pbook_er {c : Nat → Nat} {e n k p : Nat} (h : pbook c e n = .error (k, p)) : 0 < k ∧ k < 4 := by
  have : e4 (pbook c e n) := by
    unfold pbook
    refine e4_b (e4_plb _ _ _) (fun z => ?_)
    split
    · exact e4_ok
    · exact e4_er (by decide)
  exact this k p h
theorem lkp_add {L : bL_} {a v : Nat} (h : L.lookup a = none) (p : Nat) : (L ++ [(a, v)]).lookup p = if p = a then some v else L.lookup p := by
  rw [List.lookup_append]
  by_cases q : p = a
  · subst q
    rw [h, if_pos rfl]
    simp [List.lookup]
  · rw [if_neg q]
    have n : (p == a) = false := by rw [beq_eq_false_iff_ne]; exact q
    simp [List.lookup, n]
def cn8 (f : Nat → Bool) : Nat := (f 0).toNat + (f 1).toNat + (f 2).toNat + (f 3).toNat + (f 4).toNat + (f 5).toNat + (f 6).toNat + (f 7).toNat
theorem cn8_le (f : Nat → Bool) : cn8 f ≤ 8 := by
  have k : ∀ b : Bool, b.toNat ≤ 1 := by decide
  have := k (f 0); have := k (f 1); have := k (f 2); have := k (f 3); have := k (f 4); have := k (f 5); have := k (f 6); have := k (f 7)
  unfold cn8
  omega
theorem cn8_up {f g : Nat → Bool} {a : Nat} (ha : a < 8) (hf : f a = false) (hg : ∀ p, g p = if p = a then true else f p) : cn8 g = cn8 f + 1 := by
  unfold cn8
  rw [hg 0, hg 1, hg 2, hg 3, hg 4, hg 5, hg 6, hg 7]
  have t : true.toNat = 1 := rfl
  have z : false.toNat = 0 := rfl
  rcases lt_8 ha with rfl | rfl | rfl | rfl | rfl | rfl | rfl | rfl <;> simp [hf] <;> omega
/-- a BOOK: each person once, days to 999 -/
def bok (n : Nat) (L : bL_) : Prop := (∀ p v, L.lookup p = some v → p < n ∧ v < 1000) ∧ L.length = cn8 (fun p => (L.lookup p).isSome) ∧ ∀ (i : Nat) (z : Nat × Nat), L[i]? = some z → L.lookup z.1 = some z.2
theorem bok_nil {n : Nat} : bok n [] := ⟨fun p v h => (by cases h), rfl, fun i z h => (by cases h)⟩
theorem bok_add {n a v : Nat} {L : bL_} (h : bok n L) (hn : n ≤ 8) (ha : a < n) (hv : v < 1000) (hl : L.lookup a = none) : bok n (L ++ [(a, v)]) := by
  refine ⟨fun p w hp => ?_, ?_, fun i z hi => ?_⟩
  · rw [lkp_add hl] at hp
    by_cases q : p = a
    · rw [if_pos q] at hp; cases hp; exact ⟨by omega, hv⟩
    · rw [if_neg q] at hp; exact h.1 p w hp
  · rw [List.length_append, h.2.1, List.length_singleton]
    refine (cn8_up (a := a) (by omega) (by rw [hl]; rfl) (fun p => ?_)).symm
    rw [lkp_add hl]
    by_cases q : p = a
    · rw [if_pos q, if_pos q]; rfl
    · rw [if_neg q, if_neg q]
  · rw [lkp_add hl]
    by_cases q : i < L.length
    · rw [List.getElem?_append_left q] at hi
      have := h.2.2 i z hi
      rw [if_neg (fun e => by rw [e, hl] at this; cases this)]
      exact this
    · rw [List.getElem?_append_right (by omega)] at hi
      have hq : i - L.length = 0 := by
        rcases Nat.eq_zero_or_pos (i - L.length) with u | u
        · exact u
        · rw [List.getElem?_eq_none (by rw [List.length_singleton]; omega)] at hi; cases hi
      rw [hq] at hi
      have hz : z = (a, v) := by simpa using hi.symm
      rw [hz, if_pos rfl]
theorem bok_8 {n : Nat} {L : bL_} (h : bok n L) : L.length ≤ 8 := by rw [h.2.1]; exact cn8_le _
/-- the class's row of it -/
def bk (L : bL_) (p : Nat) : Int32 := match L.lookup p with
  | some v => nI v
  | none => -1
theorem bk_none {L : bL_} {p : Nat} (h : L.lookup p = none) : bk L p = -1 := by unfold bk; rw [h]
theorem bk_some {L : bL_} {p v : Nat} (h : L.lookup p = some v) : bk L p = nI v := by unfold bk; rw [h]
theorem bk_ne {n : Nat} {L : bL_} {p : Nat} (hb : bok n L) (h : (L.lookup p).isSome = true) : ¬ bk L p = -1 := by
  obtain ⟨v, hv⟩ := Option.isSome_iff_exists.mp h
  rw [bk_some hv]
  exact nI_ne1 (by have := (hb.1 p v hv).2; omega)
theorem bk_add {L : bL_} {a v : Nat} (h : L.lookup a = none) (p : Nat) : bk (L ++ [(a, v)]) p = if p = a then nI v else bk L p := by
  unfold bk
  rw [lkp_add h]
  by_cases q : p = a
  · rw [if_pos q, if_pos q]
  · rw [if_neg q, if_neg q]
theorem vl_lim {c : Nat → Nat} {e a : Nat} : vl c e a ≤ 100000 := nvk_le _
theorem isS_none {α : Type} {x : Option α} (h : ¬ x.isSome = true) : x = none := by
  cases x with
  | none => rfl
  | some v => exact absurd rfl h
theorem tw_1 {n v w : Nat} {L : bL_} {r13 r27 : Nat → Int32} (hvw : v = min 100000 w) (hn : n ≤ 8) (hb : bok n L) (h5 : r13 5 = nI w) (hr : ∀ p, p < 8 → r27 p = bk L p) (hs : (L.lookup v).isSome = true) : vX0_isTwice r13 r27 = 1 := by
  obtain ⟨x, hx⟩ := Option.isSome_iff_exists.mp hs
  have hv := (hb.1 v x hx).1
  have ew : w = v := by omega
  rw [ew] at h5
  unfold vX0_isTwice
  rw [h5, if_neg (nI_pos (by omega)), if_neg (show ¬ (8 : Int32) ≤ nI v from fun q => absurd ((nI_leI (a := 8) (by decide) (by omega)).mp q) (by omega)), nI_clamp (by omega), hr v (by omega), if_neg (bk_ne hb hs)]
theorem tw_0 {v w : Nat} {L : bL_} {r13 r27 : Nat → Int32} (hvw : v = min 100000 w) (hw : w ≤ 1000000) (h5 : r13 5 = nI w) (hr : ∀ p, p < 8 → r27 p = bk L p) (hs : ¬ (L.lookup v).isSome = true) : vX0_isTwice r13 r27 = 0 := by
  unfold vX0_isTwice
  rw [h5, if_neg (nI_pos (by omega))]
  by_cases q : w < 8
  · have ew : v = w := by omega
    rw [ew] at hs
    rw [if_neg (show ¬ (8 : Int32) ≤ nI w from fun z => absurd ((nI_leI (a := 8) (by decide) (by omega)).mp z) (by omega)), nI_clamp (by omega), hr w q, bk_none (isS_none hs), if_pos rfl]
  · rw [if_pos (show (8 : Int32) ≤ nI w from (nI_leI (a := 8) (by decide) (by omega)).mpr (by omega))]
def pB (x : Nat) : Bool := x == 25 || x == 27
def cbst (c : Nat → Nat) (e n : Nat) (L : bL_) (h0 : hp_) (a : Nat) (h : hp_) : Prop := cst c e a h ∧ h 25 4 = nI L.length ∧ h 13 8 = h0 13 8 ∧ fr 13 pB fC h0 h ∧ (∀ i, ¬ i = 4 → h 25 i = h0 25 i) ∧ h 1 0 = nI n ∧ (∀ p, p < 8 → h 27 p = bk L p) ∧ bok n L
def cber (h0 : hp_) (k p : Nat) (h : hp_) : Prop := h 13 7 = nI k ∧ h 13 8 = nI p ∧ fr 13 pB fC h0 h ∧ (∀ i, ¬ i = 4 → h 25 i = h0 25 i)
theorem cbst_R {c : Nat → Nat} {e n : Nat} {L : bL_} {h0 : hp_} : crd c e (cbst c e n L h0) (cber h0) := by
  refine ⟨fun a h m => m.1, fun a b h r m hab hr => ?_, fun a h r k p m hk hk2 hr => ?_⟩
  · obtain ⟨⟨m1, m1b, m1c⟩, m2, m3, m4, m5, m6, m7, m8⟩ := m
    obtain ⟨r1, r2, r3, r4⟩ := hr
    exact ⟨⟨m1, r1, r2.trans m1c⟩, m2, r3.trans m3, fr_tr m4 (fr_put (fun i p => by rw [fC_1 p]; exact r4)), m5, m6, m7, m8⟩
  · obtain ⟨⟨m1, m1b, m1c⟩, m2, m3, m4, m5, m6, m7, m8⟩ := m
    exact ⟨hr.1, hr.2.1, fr_tr m4 (fr_put (fun i p => by rw [fC_1 p]; exact hr.2.2)), m5⟩
theorem cb_add {c : Nat → Nat} {e n a x v : Nat} {L : bL_} {h0 h : hp_} (m : cbst c e n L h0 a h) (hn : n ≤ 8) (hx : x < n) (hv : v < 1000) (hl : L.lookup x = none) : cbst c e n (L ++ [(x, v)]) h0 a (jj_rs h [(25, upd (h 25) 4 (nI L.length + 1)), (27, upd (h 27) (nI x).toNatClampNeg (nI v))]) := by
  obtain ⟨⟨m1, m1b, m1c⟩, m2, m3, m4, m5, m6, m7, m8⟩ := m
  refine ⟨⟨m1, m1b, m1c⟩, ?_, m3, fr_tr m4 (fr_L rfl rfl), fun i hi => (jj_une hi).trans (m5 i hi), m6, fun p hp => ?_, bok_add m8 hn hx hv hl⟩
  · show nI L.length + 1 = _
    rw [List.length_append, List.length_singleton, nI_1]
  · show upd (h 27) (nI x).toNatClampNeg (nI v) p = _
    rw [nI_clamp (by omega), bk_add hl]
    by_cases q : p = x
    · rw [jj_ueq q, if_pos q]
    · rw [jj_une q, if_neg q]; exact m7 p hp
theorem cb_er2 {h0 h : hp_} {k p : Nat} {v w : Int32} {j : Nat} (m : cber h0 k p h) : cber h0 k p (jj_rs h [(25, upd (h 25) 4 v), (27, upd (h 27) j w)]) := by
  obtain ⟨m1, m2, m3, m4⟩ := m
  exact ⟨m1, m2, fr_tr m3 (fr_L rfl rfl), fun i hi => (jj_une hi).trans (m4 i hi)⟩
def bokT (h h9 : hp_) (L : bL_) (n : Nat) : Prop := h9 13 7 = 0 ∧ h9 13 8 = -1 ∧ bok n L ∧ h9 25 2 = nI L.length ∧ (∀ p, p < 8 → h9 26 p = bk L p) ∧ ∀ x, pB x = false → ¬ x = 26 → ¬ x = 13 → h9 x = h x
def bokE (h h9 : hp_) (k p : Nat) : Prop := h9 13 7 = nI k ∧ h9 13 8 = nI p ∧ h9 25 2 = h 25 2 ∧ ∀ x, pB x = false → ¬ x = 13 → h9 x = h x
set_option maxHeartbeats 2000000 in
theorem cb_line {c : Nat → Nat} {e n a D kc ks : Nat} {L : bL_} {h0 h : hp_} {g : Nat → Nat → Int64} {Q : jj_Rs → jj_St → Prop} (he6 : e ≤ 600) (hn : n ≤ 8) (hD : 3 ≤ D) (hk : kd c e a = 1) (m : cbst c e n L h0 a h) (k1 : ∀ z b h9, pline c e n L a = .ok (z, b) → a < b → cbst c e n (L ++ [z]) h0 b h9 → Q (.inl (some (.int 1))) (jj_S, 782, h9, g)) (k2 : ∀ k p h9, pline c e n L a = .error (k, p) → cber h0 k p h9 → Q (.inl (some (.int 0))) (jj_S, 782, h9, g)) : jj_R mX0_readLine D kc ks (jj_S, 782, h, g) 0 [(0, .ref 25), (1, .ref 13)] [] Q := by
  obtain ⟨d, rfl⟩ : ∃ d, D = d + 3 := ⟨D - 3, by omega⟩
  refine rr_aload_n 0 rfl rfl dX0_readLine_0 ?_
  refine rr_aload_n 1 rfl rfl dX0_readLine_1 ?_
  refine rr_callV (As := [.ref 13]) (rest := []) (kc2 := 0) (ks2 := 0) dX0_readLine_2 okX0_isTwice lX0_59 lo_25 sh_25 rfl rfl (Nat.le_of_ble_eq_true rfl) (Nat.le_of_ble_eq_true rfl) rfl (by omega) (by simp [jj_rk]) (by simp [jj_rk]) ?_
  refine sp_X0_isTwice ?_
  have h5 : h 13 5 = nI (wnl c e a) := m.1.2.1.2.2.2.2.2.1 hk
  by_cases tw : (L.lookup (vl c e a)).isSome = true
  · skip
    rw [tw_1 vl_wnl hn m.2.2.2.2.2.2.2 h5 m.2.2.2.2.2.2.1 tw]
    have ep : pline c e n L a = .error (2, a) := by unfold pline; rw [if_pos ⟨hk, tw⟩]
    show jj_R _ _ kc ks (jj_S, 782, h, g) 5 [(0, .ref 25), (1, .ref 13)] [.int 1] Q
    refine rr_if_eq dX0_readLine_5 (fun c => absurd c (by decide)) (fun _ => ?_)
    refine rr_aload_n 1 rfl rfl dX0_readLine_8 ?_
    refine rr_iconst 2 rfl dX0_readLine_9 ?_
    refine rr_callV (As := [.int 2]) (rest := []) (kc2 := 0) (ks2 := 0) dX0_readLine_10 okX5_failed lX0_62 lo_13 sh_13 rfl rfl (Nat.le_of_ble_eq_true rfl) (Nat.le_of_ble_eq_true rfl) rfl (by omega) (by simp [jj_rk]) (by simp [jj_rk]) ?_
    refine cl_fail (K := 2) cbst_R m (by decide) (by decide) rfl (fun h m => ?_)
    show jj_R _ _ kc ks (jj_S, 782, h, g) 13 [(0, .ref 25), (1, .ref 13)] [.int (-1)] Q
    refine rr_pop rfl dX0_readLine_13 ?_
    refine rr_iconst 0 rfl dX0_readLine_14 ?_
    refine rr_nreturn dX0_readLine_15 rfl (by first | rfl | assumption) ?_
    exact k2 2 a h ep m
  · skip
    rw [tw_0 vl_wnl wnl_le h5 m.2.2.2.2.2.2.1 tw]
    have ep : pline c e n L a = pb (pnum c e n a) fun z => pb (pnum c e 1000 z.2) fun v => pb (psign c e 59 v.2) fun b => .ok ((z.1, v.1), b) := by unfold pline; rw [if_neg (fun q => tw q.2)]
    rw [ep] at k1 k2
    show jj_R _ _ kc ks (jj_S, 782, h, g) 5 [(0, .ref 25), (1, .ref 13)] [.int 0] Q
    refine rr_if_eq dX0_readLine_5 (fun _ => ?_) (fun c => absurd (by decide) c)
    refine rr_aload_n 1 rfl rfl dX0_readLine_16 ?_
    refine rr_aload_n 0 rfl rfl dX0_readLine_17 ?_
    refine rr_getR dX0_readLine_18 fX0_25 lo_25 sh_25 rfl ?_
    refine rr_getI dX0_readLine_21 fX0_66 lo_1 sh_1 rfl ?_
    rw [show (h 1) 0 = (nI n) from m.2.2.2.2.2.1]
    refine rr_iconst 1 rfl dX0_readLine_24 ?_
    refine rr_isub dX0_readLine_25 ?_
    refine rr_callV (As := [.int ((nI n) - 1)]) (rest := []) (kc2 := 0) (ks2 := 0) dX0_readLine_26 okX5_number lX0_71 lo_13 sh_13 rfl rfl (Nat.le_of_ble_eq_true rfl) (Nat.le_of_ble_eq_true rfl) rfl (by omega) (by simp [jj_rk]) (by simp [jj_rk]) ?_
    refine cl_num (lim := n) cbst_R he6 m (by omega) rfl (by omega) (fun v1 b1 h e1 hv1 hb1 m => ?_) (fun k p h e1 m => ?_)
    · skip
      rw [pb_ok e1] at k1 k2
      have n1 : ¬ nI v1 = -1 := nI_ne1 (by omega)
      have hl : L.lookup v1 = none := by
        have ev : v1 = vl c e a := by
          unfold pnum at e1
          rw [if_pos hk] at e1
          split at e1
          · cases e1; rfl
          · cases e1
        rw [ev]; exact isS_none tw
      show jj_R _ _ kc ks (jj_S, 782, h, g) 29 [(0, .ref 25), (1, .ref 13)] [.int (nI v1)] Q
      refine rr_istore_n [(0, .ref 25), (1, .ref 13), (2, .int (nI v1))] dX0_readLine_29 rfl (by decide) rfl ?_
      refine rr_iload_n 2 rfl rfl dX0_readLine_30 ?_
      refine rr_iconst (-1) rfl dX0_readLine_31 ?_
      refine rr_icmp_ne dX0_readLine_32 (fun _ => ?_) (fun c => absurd c n1)
      refine rr_aload_n 0 rfl rfl dX0_readLine_37 ?_
      refine rr_getR dX0_readLine_38 fX0_15 lo_25 sh_25 rfl ?_
      refine rr_iload_n 2 rfl rfl dX0_readLine_41 ?_
      refine rr_aload_n 1 rfl rfl dX0_readLine_42 ?_
      refine rr_sipush 999 rfl dX0_readLine_43 ?_
      refine rr_callV (As := [.int 999]) (rest := [.int (nI v1), .ref 27]) (kc2 := 0) (ks2 := 0) dX0_readLine_46 okX5_number lX0_71 lo_13 sh_13 rfl rfl (Nat.le_of_ble_eq_true rfl) (Nat.le_of_ble_eq_true rfl) rfl (by omega) (by simp [jj_rk]) (by simp [jj_rk]) ?_
      refine cl_num (lim := 1000) cbst_R he6 m (by omega) (by decide) (by decide) (fun v2 b2 h e1 hv2 hb2 m => ?_) (fun k p h e1 m => ?_)
      · skip
        rw [pb_ok e1] at k1 k2
        have n2 : ¬ nI v2 = -1 := nI_ne1 (by omega)
        show jj_R _ _ kc ks (jj_S, 782, h, g) 49 [(0, .ref 25), (1, .ref 13), (2, .int (nI v1))] [.int (nI v2), .int (nI v1), .ref 27] Q
        refine rr_iastore dX0_readLine_49 lo_27 sh_27 (vp_in_nI (n := v1) (by omega) (by decide)) ?_
        rw [jj_rs_set0 (B := h) (o := 27) (r := (h 27)) rfl]
        refine rr_aload_n 0 rfl rfl dX0_readLine_50 ?_
        refine rr_dup rfl dX0_readLine_51 ?_
        refine rr_getI dX0_readLine_52 fX0_37 lo_25 sh_25 rfl ?_
        rw [show (jj_rs h [(27, (upd (h 27) (((nI v1) : Int32).toNatClampNeg) (nI v2)))]) 25 = h 25 from rfl]
        rw [show (h 25) 4 = (nI (L.length)) from m.2.1]
        refine rr_iconst 1 rfl dX0_readLine_55 ?_
        refine rr_iadd dX0_readLine_56 ?_
        refine rr_putI dX0_readLine_57 fX0_37 ni0_4 lo_25 sh_25 rfl ?_
        rw [jj_rs_set (B := h) (L := [(27, (upd (h 27) (((nI v1) : Int32).toNatClampNeg) (nI v2)))]) (L2 := [(25, (upd (h 25) (4) ((nI (L.length)) + 1))), (27, (upd (h 27) (((nI v1) : Int32).toNatClampNeg) (nI v2)))]) (r := (h 25)) rfl rfl]
        refine rr_aload_n 0 rfl rfl dX0_readLine_60 ?_
        refine rr_getR dX0_readLine_61 fX0_15 lo_25 sh_25 rfl ?_
        refine rr_iload_n 2 rfl rfl dX0_readLine_64 ?_
        refine rr_iaload dX0_readLine_65 lo_27 sh_27 (vp_in_nI (n := v1) (by omega) (by decide)) ?_
        rw [show (jj_rs h [(25, (upd (h 25) (4) ((nI (L.length)) + 1))), (27, (upd (h 27) (((nI v1) : Int32).toNatClampNeg) (nI v2)))]) 27 = (upd (h 27) (((nI v1) : Int32).toNatClampNeg) (nI v2)) from rfl]
        rw [show (upd (h 27) (((nI v1) : Int32).toNatClampNeg) (nI v2)) (((nI v1) : Int32).toNatClampNeg) = (nI v2) from jj_ueq rfl]
        refine rr_iconst (-1) rfl dX0_readLine_66 ?_
        refine rr_icmp_eq dX0_readLine_67 (fun c => absurd c n2) (fun _ => ?_)
        refine jj_fl (fun h9 eh => ?_)
        have m9 : cbst c e n (L ++ [(v1, v2)]) h0 b2 h9 := by
          rw [eh]
          exact cb_add m hn hv1 hv2 hl
        clear eh
        revert h9
        intro h m
        show jj_R _ _ kc ks (jj_S, 782, h, g) 70 [(0, .ref 25), (1, .ref 13), (2, .int (nI v1))] [] Q
        refine rr_aload_n 1 rfl rfl dX0_readLine_70 ?_
        refine rr_bipush 59 rfl dX0_readLine_71 ?_
        refine rr_callV (As := [.int 59]) (rest := []) (kc2 := 0) (ks2 := 0) dX0_readLine_73 okX5_passSign lX0_74 lo_13 sh_13 rfl rfl (Nat.le_of_ble_eq_true rfl) (Nat.le_of_ble_eq_true rfl) rfl (by omega) (by simp [jj_rk]) (by simp [jj_rk]) ?_
        refine cl_sign (X := 59) cbst_R he6 (by decide) m (by omega) (fun b3 h e1 hb3 m => ?_) (fun k p h e1 m => ?_)
        · skip
          rw [pb_ok e1] at k1
          show jj_R _ _ kc ks (jj_S, 782, h, g) 76 [(0, .ref 25), (1, .ref 13), (2, .int (nI v1))] [.int 1] Q
          refine rr_if_eq dX0_readLine_76 (fun c => absurd c (by decide)) (fun _ => ?_)
          refine rr_iconst 1 rfl dX0_readLine_79 ?_
          refine rr_goto dX0_readLine_80 ?_
          refine rr_nreturn dX0_readLine_84 rfl (by first | rfl | assumption) ?_
          exact k1 (v1, v2) b3 h rfl (by omega) m
        · skip
          rw [pb_er e1] at k2
          show jj_R _ _ kc ks (jj_S, 782, h, g) 76 [(0, .ref 25), (1, .ref 13), (2, .int (nI v1))] [.int 0] Q
          refine rr_if_eq dX0_readLine_76 (fun _ => ?_) (fun c => absurd (by decide) c)
          refine rr_iconst 0 rfl dX0_readLine_83 ?_
          refine rr_nreturn dX0_readLine_84 rfl (by first | rfl | assumption) ?_
          exact k2 k p h rfl m
      · skip
        rw [pb_er e1] at k2
        show jj_R _ _ kc ks (jj_S, 782, h, g) 49 [(0, .ref 25), (1, .ref 13), (2, .int (nI v1))] [.int (-1), .int (nI v1), .ref 27] Q
        refine rr_iastore dX0_readLine_49 lo_27 sh_27 (vp_in_nI (n := v1) (by omega) (by decide)) ?_
        rw [jj_rs_set0 (B := h) (o := 27) (r := (h 27)) rfl]
        refine rr_aload_n 0 rfl rfl dX0_readLine_50 ?_
        refine rr_dup rfl dX0_readLine_51 ?_
        refine rr_getI dX0_readLine_52 fX0_37 lo_25 sh_25 rfl ?_
        rw [show (jj_rs h [(27, (upd (h 27) (((nI v1) : Int32).toNatClampNeg) (-1)))]) 25 = h 25 from rfl]
        refine rr_iconst 1 rfl dX0_readLine_55 ?_
        refine rr_iadd dX0_readLine_56 ?_
        refine rr_putI dX0_readLine_57 fX0_37 ni0_4 lo_25 sh_25 rfl ?_
        rw [jj_rs_set (B := h) (L := [(27, (upd (h 27) (((nI v1) : Int32).toNatClampNeg) (-1)))]) (L2 := [(25, (upd (h 25) (4) (((h 25) 4) + 1))), (27, (upd (h 27) (((nI v1) : Int32).toNatClampNeg) (-1)))]) (r := (h 25)) rfl rfl]
        refine rr_aload_n 0 rfl rfl dX0_readLine_60 ?_
        refine rr_getR dX0_readLine_61 fX0_15 lo_25 sh_25 rfl ?_
        refine rr_iload_n 2 rfl rfl dX0_readLine_64 ?_
        refine rr_iaload dX0_readLine_65 lo_27 sh_27 (vp_in_nI (n := v1) (by omega) (by decide)) ?_
        rw [show (jj_rs h [(25, (upd (h 25) (4) (((h 25) 4) + 1))), (27, (upd (h 27) (((nI v1) : Int32).toNatClampNeg) (-1)))]) 27 = (upd (h 27) (((nI v1) : Int32).toNatClampNeg) (-1)) from rfl]
        rw [show (upd (h 27) (((nI v1) : Int32).toNatClampNeg) (-1)) (((nI v1) : Int32).toNatClampNeg) = (-1) from jj_ueq rfl]
        refine rr_iconst (-1) rfl dX0_readLine_66 ?_
        refine rr_icmp_eq dX0_readLine_67 (fun _ => ?_) (fun c => absurd (by decide) c)
        refine rr_iconst 0 rfl dX0_readLine_83 ?_
        refine rr_nreturn dX0_readLine_84 rfl (by first | rfl | assumption) ?_
        exact k2 k p _ rfl (cb_er2 m)
    · skip
      rw [pb_er e1] at k2
      show jj_R _ _ kc ks (jj_S, 782, h, g) 29 [(0, .ref 25), (1, .ref 13)] [.int (-1)] Q
      refine rr_istore_n [(0, .ref 25), (1, .ref 13), (2, .int (-1))] dX0_readLine_29 rfl (by decide) rfl ?_
      refine rr_iload_n 2 rfl rfl dX0_readLine_30 ?_
      refine rr_iconst (-1) rfl dX0_readLine_31 ?_
      refine rr_icmp_ne dX0_readLine_32 (fun c => absurd c (by decide)) (fun _ => ?_)
      refine rr_iconst 0 rfl dX0_readLine_35 ?_
      refine rr_nreturn dX0_readLine_36 rfl (by first | rfl | assumption) ?_
      exact k2 k p h rfl m
set_option maxHeartbeats 2000000 in
theorem cb_loop {c : Nat → Nat} {e n : Nat} (he6 : e ≤ 600) (hn : n ≤ 8) (f : Nat) : ∀ {D kc ks a j : Nat} {L : bL_} {h0 h : hp_} {g : Nat → Nat → Int64} {Q : jj_Rs → jj_St → Prop}, 5 ≤ D → e - a ≤ f → j ≤ L.length ∧ L.length ≤ 8 → cbst c e n L h0 a h → (∀ L2 b h9, plb c e n f L a = .ok (L2, b) → cbst c e n L2 h0 b h9 → jj_R mX0_readFrom D kc ks (jj_S, 782, h9, g) 57 [(0, .ref 25), (1, .ref 13)] [] Q) → (∀ k p h9, plb c e n f L a = .error (k, p) → cber h0 k p h9 → Q (.inl none) (jj_S, 782, h9, g)) → jj_R mX0_readFrom D kc ks (jj_S, 782, h, g) 28 [(0, .ref 25), (1, .ref 13), (2, .int (nI j))] [] Q := by
  induction f with
  | zero =>
    intro D0 kc ks a j L h0 h g Q hD hm hj m k1 k2
    obtain ⟨d, rfl⟩ : ∃ d, D0 = d + 5 := ⟨D0 - 5, by omega⟩
    refine rr_iload_n 2 rfl rfl dX0_readFrom_28 ?_
    refine rr_bipush 60 rfl dX0_readFrom_29 ?_
    refine rr_icmp_ge dX0_readFrom_31 (fun c => absurd c (fun q => absurd ((nI_leI (a := 60) (by decide) (by omega)).mp q) (by omega))) (fun _ => ?_)
    refine rr_aload_n 1 rfl rfl dX0_readFrom_34 ?_
    refine rr_getI dX0_readFrom_35 fX0_40 lo_13 sh_13 rfl ?_
    rw [show (h 13) 4 = (nI (kd c e a)) from m.1.2.1.2.2.2.2.1]
    refine rr_iconst 1 rfl dX0_readFrom_38 ?_
    refine rr_icmp_ne dX0_readFrom_39 (fun c1 => ?_) (fun c1 => ?_)
    · skip
      have hop : ¬ kd c e a = 1 := fun q => by
        rw [q] at c1
        exact c1 rfl
      refine rr_drop (ls := [(0, .ref 25), (1, .ref 13)]) [0, 1] rfl ?_
      exact k1 L a h (plb_0 hop _) m
    · skip
      have k1x : kd c e a = 1 := (nI_eq (a := kd c e a) (b := 1) (by have := kd_lt (c := c) (e := e) (a := a); omega) (by decide)).mp c1
      have ae := kd_in (c := c) (e := e) (a := a) (by omega)
      exact absurd ae (by omega)
  | succ f ih =>
    intro D0 kc ks a j L h0 h g Q hD hm hj m k1 k2
    obtain ⟨d, rfl⟩ : ∃ d, D0 = d + 5 := ⟨D0 - 5, by omega⟩
    refine rr_iload_n 2 rfl rfl dX0_readFrom_28 ?_
    refine rr_bipush 60 rfl dX0_readFrom_29 ?_
    refine rr_icmp_ge dX0_readFrom_31 (fun c => absurd c (fun q => absurd ((nI_leI (a := 60) (by decide) (by omega)).mp q) (by omega))) (fun _ => ?_)
    refine rr_aload_n 1 rfl rfl dX0_readFrom_34 ?_
    refine rr_getI dX0_readFrom_35 fX0_40 lo_13 sh_13 rfl ?_
    rw [show (h 13) 4 = (nI (kd c e a)) from m.1.2.1.2.2.2.2.1]
    refine rr_iconst 1 rfl dX0_readFrom_38 ?_
    refine rr_icmp_ne dX0_readFrom_39 (fun c1 => ?_) (fun c1 => ?_)
    · skip
      have hop : ¬ kd c e a = 1 := fun q => by
        rw [q] at c1
        exact c1 rfl
      refine rr_drop (ls := [(0, .ref 25), (1, .ref 13)]) [0, 1] rfl ?_
      exact k1 L a h (plb_0 hop _) m
    · skip
      have k1x : kd c e a = 1 := (nI_eq (a := kd c e a) (b := 1) (by have := kd_lt (c := c) (e := e) (a := a); omega) (by decide)).mp c1
      have ae := kd_in (c := c) (e := e) (a := a) (by omega)
      refine rr_aload_n 0 rfl rfl dX0_readFrom_42 ?_
      refine rr_aload_n 1 rfl rfl dX0_readFrom_43 ?_
      refine rr_callV (As := [.ref 13]) (rest := []) (kc2 := 0) (ks2 := 0) dX0_readFrom_44 okX0_readLine lX0_45 lo_25 sh_25 rfl rfl (Nat.le_of_ble_eq_true rfl) (Nat.le_of_ble_eq_true rfl) rfl (by omega) (by simp [jj_rk]) (by simp [jj_rk]) ?_
      refine cb_line he6 hn (by omega) k1x m (fun z b2 h e1 hb2 m => ?_) (fun k p h e1 m => ?_)
      · skip
        rw [plb_s k1x, pb_ok e1] at k1 k2
        show jj_R _ _ kc ks (jj_S, 782, h, g) 47 [(0, .ref 25), (1, .ref 13), (2, .int (nI j))] [.int 1] Q
        refine rr_if_ne dX0_readFrom_47 (fun _ => ?_) (fun c => absurd c (by decide))
        refine rr_iinc 2 1 [(0, .ref 25), (1, .ref 13), (2, .int ((nI j) + 1))] dX0_readFrom_51 rfl rfl (by decide) rfl ?_
        refine rr_goto dX0_readFrom_54 ?_
        rw [nI_1]
        exact ih (j := j + 1) hD (by omega) (by have := bok_8 m.2.2.2.2.2.2.2; rw [List.length_append, List.length_singleton] at this ⊢; omega) m k1 k2
      · skip
        rw [plb_s k1x, pb_er e1] at k2
        show jj_R _ _ kc ks (jj_S, 782, h, g) 47 [(0, .ref 25), (1, .ref 13), (2, .int (nI j))] [.int 0] Q
        refine rr_if_ne dX0_readFrom_47 (fun c => absurd c (by decide)) (fun _ => ?_)
        refine rr_return dX0_readFrom_50 rfl ?_
        exact k2 k p h rfl m
set_option maxHeartbeats 2000000 in
theorem cl_book {c : Nat → Nat} {e n D kc ks : Nat} {h : hp_} {g : Nat → Nat → Int64} {Q : jj_Rs → jj_St → Prop} (he6 : e ≤ 600) (hn : n ≤ 8) (hD : 5 ≤ D) (hP : h 1 0 = nI n) (m : cst c e (spn isB c e 0) h) (h8 : h 13 8 = -1) (k1 : ∀ L h9, pbook c e n = .ok L → bokT h h9 L n → Q (.inl none) (jj_S, 782, h9, g)) (k2 : ∀ k p h9, pbook c e n = .error (k, p) → bokE h h9 k p → Q (.inl none) (jj_S, 782, h9, g)) : jj_R mX0_readFrom D kc ks (jj_S, 782, h, g) 0 [(0, .ref 25), (1, .ref 13)] [] Q := by
  obtain ⟨d, rfl⟩ : ∃ d, D = d + 5 := ⟨D - 5, by omega⟩
  refine rr_aload_n 0 rfl rfl dX0_readFrom_0 ?_
  refine rr_iconst 0 rfl dX0_readFrom_1 ?_
  refine rr_putI dX0_readFrom_2 fX0_37 ni0_4 lo_25 sh_25 rfl ?_
  rw [jj_rs_set0 (B := h) (o := 25) (r := (h 25)) rfl]
  refine rr_iconst 0 rfl dX0_readFrom_5 ?_
  refine rr_istore_n [(0, .ref 25), (1, .ref 13), (2, .int 0)] dX0_readFrom_6 rfl (by decide) rfl ?_
  refine jj_Rh (jj_rs_add (B := h) (L := [(25, (upd (h 25) (4) 0))]) (L2 := [(25, (upd (h 25) (4) 0)), (27, (h 27))]) (o := 27) (r := (h 27)) rfl rfl) ?_
  refine jj_for (fun k1 (a1 : (Nat → Int32)) => jj_R _ _ kc ks (jj_S, 782, (jj_rs h [(25, (upd (h 25) (4) 0)), (27, a1)]), g) 7 [(0, .ref 25), (1, .ref 13), (2, .int (nI k1))] [] Q) (fun k1 (a1 : (Nat → Int32)) => (upd a1 (k1) (-1))) 8 (h 27) ?_ ?_
  · intro k1 hk1 ih1
    generalize jj_fo _ k1 _ = a1 at ih1 ⊢
    try dsimp only at ih1 ⊢
    refine rr_iload_n 2 rfl rfl dX0_readFrom_7 ?_
    refine rr_bipush 8 rfl dX0_readFrom_8 ?_
    refine rr_icmp_ge dX0_readFrom_10 (fun c => absurd c (nI_ge (a := k1) (b := 8) (by omega) (by omega))) (fun _ => ?_)
    refine rr_aload_n 0 rfl rfl dX0_readFrom_13 ?_
    refine rr_getR dX0_readFrom_14 fX0_15 lo_25 sh_25 rfl ?_
    refine rr_iload_n 2 rfl rfl dX0_readFrom_17 ?_
    refine rr_iconst (-1) rfl dX0_readFrom_18 ?_
    refine rr_iastore dX0_readFrom_19 lo_27 sh_27 (vp_in_nI (by omega) (by decide)) ?_
    rw [jj_rs_set (B := h) (L := [(25, (upd (h 25) (4) 0)), (27, a1)]) (L2 := [(25, (upd (h 25) (4) 0)), (27, (upd a1 (((nI k1) : Int32).toNatClampNeg) (-1)))]) (r := a1) rfl rfl]
    refine rr_iinc 2 1 [(0, .ref 25), (1, .ref 13), (2, .int ((nI k1) + 1))] dX0_readFrom_20 rfl rfl (by decide) rfl ?_
    refine rr_goto dX0_readFrom_23 ?_
    simpa only [nI_1, (nI_clamp (show k1 < 2 ^ 31 by omega))] using ih1
  · try dsimp only
    refine rr_iload_n 2 rfl rfl dX0_readFrom_7 ?_
    refine rr_bipush 8 rfl dX0_readFrom_8 ?_
    refine rr_icmp_ge dX0_readFrom_10 (fun _ => ?_) (fun c => absurd (jj_le_rf _) c)
    refine jj_fl (fun h9 eh => ?_)
    obtain ⟨hB, ht, hf⟩ := m
    have m9 : cbst c e n [] h9 (spn isB c e 0) h9 := by
      refine ⟨⟨?_, ?_, ?_⟩, ?_, rfl, fr_rf, fun _ _ => rfl, ?_, fun p hp => ?_, bok_nil⟩
      · rw [eh]; exact hB
      · rw [eh]; exact ht
      · rw [eh]; exact hf
      · rw [eh]; rfl
      · rw [eh]; exact hP
      · rw [eh]
        rcases lt_8 hp with rfl | rfl | rfl | rfl | rfl | rfl | rfl | rfl <;> rfl
    have z1 : ∀ i, ¬ i = 4 → h9 25 i = h 25 i := fun i q => by rw [eh]; exact jj_une q
    have z2 : ∀ x, pB x = false → h9 x = h x := fun x q => by rw [eh]; exact rs_no rfl q
    have z3 : h9 13 8 = -1 := by rw [eh]; exact h8
    clear eh
    show jj_R _ _ kc ks (jj_S, 782, h9, g) 26 [(0, .ref 25), (1, .ref 13), (2, .int (nI 8))] [] Q
    refine rr_iconst 0 rfl dX0_readFrom_26 ?_
    refine rr_istore_n [(0, .ref 25), (1, .ref 13), (2, .int 0)] dX0_readFrom_27 rfl (by decide) rfl ?_
    refine cb_loop (j := 0) he6 hn e (by omega) (by omega) ⟨Nat.le_refl _, by decide⟩ m9 (fun L b h e1 m => ?_) (fun k p h e1 m => ?_)
    · skip
      refine rr_aload_n 1 rfl rfl dX0_readFrom_57 ?_
      refine rr_callV (As := []) (rest := []) (kc2 := 0) (ks2 := 0) dX0_readFrom_58 okX5_passEnd lX0_49 lo_13 sh_13 rfl rfl (Nat.le_of_ble_eq_true rfl) (Nat.le_of_ble_eq_true rfl) rfl (by omega) (by simp [jj_rk]) (by simp [jj_rk]) ?_
      refine cl_end cbst_R m (by omega) (fun q h m => ?_) (fun q h m => ?_)
      · skip
        show jj_R _ _ kc ks (jj_S, 782, h, g) 61 [(0, .ref 25), (1, .ref 13)] [.int 1] Q
        refine rr_if_eq dX0_readFrom_61 (fun c => absurd c (by decide)) (fun _ => ?_)
        refine rr_aload_n 0 rfl rfl dX0_readFrom_64 ?_
        refine rr_getR dX0_readFrom_65 fX0_15 lo_25 sh_25 rfl ?_
        refine rr_iconst 0 rfl dX0_readFrom_68 ?_
        refine rr_aload_n 0 rfl rfl dX0_readFrom_69 ?_
        refine rr_getR dX0_readFrom_70 fX0_9 lo_25 sh_25 rfl ?_
        refine rr_iconst 0 rfl dX0_readFrom_73 ?_
        refine rr_bipush 8 rfl dX0_readFrom_74 ?_
        refine rr_copy (st := []) dX0_readFrom_76 lX0_53 (Nat.le_of_ble_eq_true rfl) lo_27 lo_26 sh_27 sh_26 (by decide) (by decide) (by decide) (by decide) (by decide) ?_
        rw [← jj_rs_nil (B := h), jj_rs_cp (B := h) (L := []) (L2 := [(26, (va_cpy (h 27) (h 26) (0 : Int32).toNatClampNeg (0 : Int32).toNatClampNeg (8 : Int32).toNatClampNeg))]) (f := (h 27)) (r := (h 26)) rfl rfl rfl]
        refine rr_aload_n 0 rfl rfl dX0_readFrom_79 ?_
        refine rr_aload_n 0 rfl rfl dX0_readFrom_80 ?_
        refine rr_getI dX0_readFrom_81 fX0_37 lo_25 sh_25 rfl ?_
        rw [show (jj_rs h [(26, (va_cpy (h 27) (h 26) (0 : Int32).toNatClampNeg (0 : Int32).toNatClampNeg (8 : Int32).toNatClampNeg))]) 25 = h 25 from rfl]
        rw [show (h 25) 4 = (nI (L.length)) from m.2.1]
        refine rr_putI dX0_readFrom_84 fX0_33 ni0_2 lo_25 sh_25 rfl ?_
        rw [jj_rs_set (B := h) (L := [(26, (va_cpy (h 27) (h 26) (0 : Int32).toNatClampNeg (0 : Int32).toNatClampNeg (8 : Int32).toNatClampNeg))]) (L2 := [(25, (upd (h 25) (2) (nI (L.length)))), (26, (va_cpy (h 27) (h 26) (0 : Int32).toNatClampNeg (0 : Int32).toNatClampNeg (8 : Int32).toNatClampNeg))]) (r := (h 25)) rfl rfl]
        refine rr_return dX0_readFrom_87 rfl ?_
        obtain ⟨m1, m2, m3, m4, m5, m6, m7, m8⟩ := m
        refine k1 L _ (by unfold pbook; rw [pb_ok e1, if_pos q]) ⟨m1.2.2, m3.trans z3, m8, jj_ueq rfl, fun p hp => (cpy_8 hp).trans (m7 p hp), fun x hx x26 x13 => ?_⟩
        rw [rs_no (P := fun y => pB y || y == 26) rfl (by simp [hx, x26])]
        exact (m4.1 x hx x13).trans (z2 x hx)
      · skip
        show jj_R _ _ kc ks (jj_S, 782, h, g) 61 [(0, .ref 25), (1, .ref 13)] [.int 0] Q
        refine rr_if_eq dX0_readFrom_61 (fun _ => ?_) (fun c => absurd (by decide) c)
        refine rr_return dX0_readFrom_87 rfl ?_
        exact k2 1 b h (by unfold pbook; rw [pb_ok e1, if_neg q]) ⟨m.1, m.2.1, (m.2.2.2 2 (by decide)).trans (z1 2 (by decide)), fun x hx hx3 => (m.2.2.1.1 x hx hx3).trans (z2 x hx)⟩
    · exact k2 k p h (by unfold pbook; rw [pb_er e1]) ⟨m.1, m.2.1, (m.2.2.2 2 (by decide)).trans (z1 2 (by decide)), fun x hx hx3 => (m.2.2.1.1 x hx hx3).trans (z2 x hx)⟩
set_option maxHeartbeats 2000000 in
theorem cf_book {n : Nat} {c : Nat → Nat} {N T D kc ks : Nat} {h : hp_} {g : Nat → Nat → Int64} {Q : jj_Rs → jj_St → Prop} (hB : bytesok (h 14) c) (hT : h 13 1 = nI T) (hT6 : T ≤ 600) (hNT : N ≤ T) (hN6 : N ≤ 60) (hP : h 1 0 = nI n) (hn : n ≤ 8) (hD : 8 ≤ D) (k1 : ∀ L h9, pbook c N n = .ok L → bokT h h9 L n → Q (.inl (some (.int (nI L.length)))) (jj_S, 782, jj_rs h9 [(13, upd (h9 13) 1 0)], g)) (k2 : ∀ k p h9, pbook c N n = .error (k, p) → bokE h h9 k p → Q (.inl (some (.int (nI k - 10)))) (jj_S, 782, jj_rs h9 [(13, upd (h9 13) 1 0)], g)) : jj_R mX9_book D (kc + 1) (ks + 6) (jj_S, 782, h, g) 0 [(0, .ref 0), (1, .int (nI N))] [] Q := by
  obtain ⟨d, rfl⟩ : ∃ d, D = d + 8 := ⟨D - 8, by omega⟩
  refine rr_aload_n 0 rfl rfl dX9_book_0 ?_
  refine rr_iload_n 1 rfl rfl dX9_book_1 ?_
  refine rr_if_lt dX9_book_2 (fun c => absurd c (nI_pos (by omega))) (fun _ => ?_)
  refine rr_iload_n 1 rfl rfl dX9_book_5 ?_
  refine rr_aload_n 0 rfl rfl dX9_book_6 ?_
  refine rr_getR dX9_book_7 fX9_21 lo_0 sh_0 rfl ?_
  refine rr_getI dX9_book_10 fX9_99 lo_13 sh_13 rfl ?_
  rw [show (h 13) 1 = (nI T) from hT]
  refine rr_icmp_gt dX9_book_13 (fun c => absurd c (nI_nlt (by omega) (by omega))) (fun _ => ?_)
  refine rr_iload_n 1 rfl rfl dX9_book_16 ?_
  refine rr_bipush 60 rfl dX9_book_17 ?_
  refine rr_icmp_gt dX9_book_19 (fun c => absurd c (nI_nlt (by omega) (by decide))) (fun _ => ?_)
  refine rr_iconst 1 rfl dX9_book_22 ?_
  refine rr_goto dX9_book_23 ?_
  refine rr_callV (As := [.int 1]) (rest := []) (kc2 := 1) (ks2 := 6) dX9_book_27 okX9_require lX9_103 lo_0 sh_0 rfl rfl (Nat.le_of_ble_eq_true rfl) (Nat.le_of_ble_eq_true rfl) rfl (by omega) (by simp [jj_rk]) (by simp [jj_rk]) ?_
  refine sp_X9_require (fun _ => ?_) (fun c => absurd c (by decide))
  show jj_R _ _ kc ks (jj_S, 782, h, g) 30 [(0, .ref 0), (1, .int (nI N))] [] Q
  refine rr_aload_n 0 rfl rfl dX9_book_30 ?_
  refine rr_getR dX9_book_31 fX9_21 lo_0 sh_0 rfl ?_
  refine rr_iload_n 1 rfl rfl dX9_book_34 ?_
  refine rr_callV (As := [.int (nI N)]) (rest := []) (kc2 := 0) (ks2 := 0) dX9_book_35 okX5_open lX9_107 lo_13 sh_13 rfl rfl (Nat.le_of_ble_eq_true rfl) (Nat.le_of_ble_eq_true rfl) rfl (by omega) (by simp [jj_rk]) (by simp [jj_rk]) ?_
  refine cl_open hB (by omega) (by omega) (fun h m h8 h1 ho => ?_)
  show jj_R _ _ kc ks (jj_S, 782, h, g) 38 [(0, .ref 0), (1, .int (nI N))] [] Q
  refine rr_aload_n 0 rfl rfl dX9_book_38 ?_
  refine rr_getR dX9_book_39 fX9_56 lo_0 sh_0 rfl ?_
  refine rr_aload_n 0 rfl rfl dX9_book_42 ?_
  refine rr_getR dX9_book_43 fX9_21 lo_0 sh_0 rfl ?_
  refine rr_callV (As := [.ref 13]) (rest := []) (kc2 := 0) (ks2 := 0) dX9_book_46 okX0_readFrom lX9_161 lo_25 sh_25 rfl rfl (Nat.le_of_ble_eq_true rfl) (Nat.le_of_ble_eq_true rfl) rfl (by omega) (by simp [jj_rk]) (by simp [jj_rk]) ?_
  refine cl_book (n := n) (by omega) hn (by omega) (by rw [ho 1 (by decide)]; exact hP) m h8 (fun L h e1 m => ?_) (fun k p h e1 m => ?_)
  · skip
    show jj_R _ _ kc ks (jj_S, 782, h, g) 49 [(0, .ref 0), (1, .int (nI N))] [] Q
    refine rr_aload_n 0 rfl rfl dX9_book_49 ?_
    refine rr_getR dX9_book_50 fX9_21 lo_0 sh_0 rfl ?_
    refine rr_callV (As := []) (rest := []) (kc2 := 0) (ks2 := 0) dX9_book_53 okX5_empty lX9_114 lo_13 sh_13 rfl rfl (Nat.le_of_ble_eq_true rfl) (Nat.le_of_ble_eq_true rfl) rfl (by omega) (by simp [jj_rk]) (by simp [jj_rk]) ?_
    refine sp_X5_empty  ?_
    show jj_R _ _ kc ks (jj_S, 782, (jj_rs h [(13, (upd (h 13) (1) 0))]), g) 56 [(0, .ref 0), (1, .int (nI N))] [] Q
    refine rr_aload_n 0 rfl rfl dX9_book_56 ?_
    refine rr_getR dX9_book_57 fX9_21 lo_0 sh_0 rfl ?_
    refine rr_getI dX9_book_60 fX9_117 lo_13 sh_13 rfl ?_
    rw [show (jj_rs h [(13, (upd (h 13) (1) 0))]) 13 = (upd (h 13) (1) 0) from rfl]
    rw [show (upd (h 13) (1) 0) 7 = 0 from m.1]
    refine rr_if_eq dX9_book_63 (fun _ => ?_) (fun c => absurd (by decide) c)
    refine rr_aload_n 0 rfl rfl dX9_book_79 ?_
    refine rr_getR dX9_book_80 fX9_56 lo_0 sh_0 rfl ?_
    refine rr_getI dX9_book_83 fX9_162 lo_25 sh_25 rfl ?_
    rw [show (jj_rs h [(13, (upd (h 13) (1) 0))]) 25 = h 25 from rfl]
    refine rr_ireturn dX9_book_86 rfl ?_
    rw [show ((h 25) 2) = nI L.length from m.2.2.2.1]
    exact k1 L h e1 ⟨m.1, m.2.1, m.2.2.1, m.2.2.2.1, m.2.2.2.2.1, fun x hx x26 x13 => (m.2.2.2.2.2 x hx x26 x13).trans (ho x x13)⟩
  · skip
    have ke := pbook_er e1
    have hk0 : ¬ nI k = 0 := nI_k0 ke.1 ke.2
    show jj_R _ _ kc ks (jj_S, 782, h, g) 49 [(0, .ref 0), (1, .int (nI N))] [] Q
    refine rr_aload_n 0 rfl rfl dX9_book_49 ?_
    refine rr_getR dX9_book_50 fX9_21 lo_0 sh_0 rfl ?_
    refine rr_callV (As := []) (rest := []) (kc2 := 0) (ks2 := 0) dX9_book_53 okX5_empty lX9_114 lo_13 sh_13 rfl rfl (Nat.le_of_ble_eq_true rfl) (Nat.le_of_ble_eq_true rfl) rfl (by omega) (by simp [jj_rk]) (by simp [jj_rk]) ?_
    refine sp_X5_empty  ?_
    show jj_R _ _ kc ks (jj_S, 782, (jj_rs h [(13, (upd (h 13) (1) 0))]), g) 56 [(0, .ref 0), (1, .int (nI N))] [] Q
    refine rr_aload_n 0 rfl rfl dX9_book_56 ?_
    refine rr_getR dX9_book_57 fX9_21 lo_0 sh_0 rfl ?_
    refine rr_getI dX9_book_60 fX9_117 lo_13 sh_13 rfl ?_
    rw [show (jj_rs h [(13, (upd (h 13) (1) 0))]) 13 = (upd (h 13) (1) 0) from rfl]
    rw [show (upd (h 13) (1) 0) 7 = (nI k) from m.1]
    refine rr_if_eq dX9_book_63 (fun c => absurd c hk0) (fun _ => ?_)
    refine rr_aload_n 0 rfl rfl dX9_book_66 ?_
    refine rr_getR dX9_book_67 fX9_21 lo_0 sh_0 rfl ?_
    refine rr_getI dX9_book_70 fX9_117 lo_13 sh_13 rfl ?_
    rw [show (jj_rs h [(13, (upd (h 13) (1) 0))]) 13 = (upd (h 13) (1) 0) from rfl]
    rw [show (upd (h 13) (1) 0) 7 = (nI k) from m.1]
    refine rr_bipush 10 rfl dX9_book_73 ?_
    refine rr_isub dX9_book_75 ?_
    refine rr_goto dX9_book_76 ?_
    refine rr_ireturn dX9_book_86 rfl ?_
    exact k2 k p h e1 ⟨m.1, m.2.1, m.2.2.1.trans (congrFun (ho 25 (by decide)) 2), fun x hx x13 => (m.2.2.2 x hx x13).trans (ho x x13)⟩
