theorem sp_X9_require {d kc ks : Nat} {h : Nat → Nat → Int32} {g : Nat → Nat → Int64} {Q : jj_Rs → jj_St → Prop} {b : Int32} (k1 : ¬ b = 0 → Q (.inl none) (jj_S, 782, h, g)) (k2 : b = 0 → Q (.inr "java/lang/IllegalArgumentException") (jj_S, 782, jj_rs h [(0, upd (h 0) 14 (h 0 14 + 1))], g)) : jj_R mX9_require (d + 6) (kc + 1) (ks + 6) (jj_S, 782, h, g) 0 [(0, .ref 0), (1, .int b)] [] Q := by
  refine rr_iload_n 1 rfl rfl dX9_require_0 ?_
  refine rr_if_ne dX9_require_1 (fun c => ?_) (fun c => ?_)
  · exact rr_return dX9_require_25 rfl (k1 c)
  · refine rr_aload_n 0 rfl rfl dX9_require_4 ?_
    refine rr_dup rfl dX9_require_5 ?_
    refine rr_getI dX9_require_6 fX9_369 lo_0 sh_0 rfl ?_
    refine rr_iconst 1 rfl dX9_require_9 ?_
    refine rr_iadd dX9_require_10 ?_
    refine rr_putI dX9_require_11 fX9_369 ni9_14 lo_0 sh_0 rfl ?_
    rw [jj_rs_set0 (B := h) (o := 0) (r := h 0) rfl]
    exact rr_throw (i := 0) rfl jj_xw_arg rfl dX9_require_14.1 dX9_require_17.1 dX9_require_18.1 dX9_require_21.1 dX9_require_24 (Nat.le_of_ble_eq_true rfl) (k2 c)
theorem sp_X9_requirePerson {d kc ks : Nat} {h : Nat → Nat → Int32} {g : Nat → Nat → Int64} {Q : jj_Rs → jj_St → Prop} {p : Int32} (k1 : ¬ vX9_isPerson (h 1) p = 0 → Q (.inl none) (jj_S, 782, h, g)) (k2 : vX9_isPerson (h 1) p = 0 → Q (.inr "java/util/NoSuchElementException") (jj_S, 782, jj_rs h [(0, upd (h 0) 13 (h 0 13 + 1))], g)) : jj_R mX9_requirePerson (d + 6) (kc + 1) (ks + 6) (jj_S, 782, h, g) 0 [(0, .ref 0), (1, .int p)] [] Q := by
  refine rr_aload_n 0 rfl rfl dX9_requirePerson_0 ?_
  refine rr_iload_n 1 rfl rfl dX9_requirePerson_1 ?_
  refine rr_callV (As := [.int p]) (rest := []) (kc2 := 0) (ks2 := 0) dX9_requirePerson_2 okX9_isPerson lX9_350 lo_0 sh_0 rfl rfl (Nat.le_of_ble_eq_true rfl) (Nat.le_of_ble_eq_true rfl) rfl (by omega) (by simp [jj_rk]) (by simp [jj_rk]) ?_
  refine sp_X9_isPerson (d := d + 5) ?_
  show jj_R _ _ (kc + 1) (ks + 6) (jj_S, 782, h, g) 5 [(0, .ref 0), (1, .int p)] [.int (vX9_isPerson (h 1) p)] Q
  refine rr_if_ne dX9_requirePerson_5 (fun c => ?_) (fun c => ?_)
  · exact rr_return dX9_requirePerson_29 rfl (k1 c)
  · refine rr_aload_n 0 rfl rfl dX9_requirePerson_8 ?_
    refine rr_dup rfl dX9_requirePerson_9 ?_
    refine rr_getI dX9_requirePerson_10 fX9_366 lo_0 sh_0 rfl ?_
    refine rr_iconst 1 rfl dX9_requirePerson_13 ?_
    refine rr_iadd dX9_requirePerson_14 ?_
    refine rr_putI dX9_requirePerson_15 fX9_366 ni9_13 lo_0 sh_0 rfl ?_
    rw [jj_rs_set0 (B := h) (o := 0) (r := h 0) rfl]
    exact rr_throwX (i := 21) rfl jj_xw_nse rfl dX9_requirePerson_18.1 dX9_requirePerson_21.1 dX9_requirePerson_22.1 dX9_requirePerson_25.1 dX9_requirePerson_28 (Nat.le_of_ble_eq_true rfl) (k2 c)
/-- a counting loop that may be left early -/
def jj_fx {α β : Type} (F : Nat → α → Sum α β) : Nat → α → Sum α β
  | 0, a => .inl a
  | k + 1, a => Sum.elim (fun b => F k b) (fun r => .inr r) (jj_fx F k a)
theorem jj_fx_stay {α β : Type} {F : Nat → α → Sum α β} {a : α} {r : β} {k : Nat} (h : jj_fx F k a = .inr r) : ∀ j, jj_fx F (k + j) a = .inr r
  | 0 => h
  | j + 1 => by
    show Sum.elim (fun b => F (k + j) b) (fun r => .inr r) (jj_fx F (k + j) a) = _
    rw [jj_fx_stay h j]; rfl
theorem jj_forx {α β : Type} (P : Nat → α → Prop) (F : Nat → α → Sum α β) (n : Nat) (a : α) (E : β → Prop) (body : ∀ k, k < n → ∀ x, (∀ b, F k x = .inl b → P (k + 1) b) → (∀ r, F k x = .inr r → E r) → P k x) (fin : ∀ x, jj_fx F n a = .inl x → P n x) (ex : ∀ r, jj_fx F n a = .inr r → E r) : P 0 a := by
  have key : ∀ j, j ≤ n → ∀ x, jj_fx F (n - j) a = .inl x → P (n - j) x := by
    intro j
    induction j with
    | zero => exact fun _ => fin
    | succ j ih =>
      intro hj x hx
      have e : n - j = (n - (j + 1)) + 1 := by omega
      refine body _ (by omega) x (fun b hb => ?_) (fun r hr => ?_)
      · have := ih (by omega) b (by rw [e]; show Sum.elim _ _ (jj_fx F (n - (j + 1)) a) = _; rw [hx]; exact hb)
        rwa [e] at this
      · refine ex r ?_
        have h1 : jj_fx F ((n - (j + 1)) + 1) a = .inr r := by show Sum.elim _ _ (jj_fx F (n - (j + 1)) a) = _; rw [hx]; exact hr
        have h2 := jj_fx_stay h1 j
        rwa [show n - (j + 1) + 1 + j = n by omega] at h2
  have := key n (Nat.le_refl _) a (by rw [Nat.sub_self]; rfl)
  rwa [Nat.sub_self] at this
theorem jj_ngt {a b : Nat} (h : a ≤ b) (hb : b < 2 ^ 31) : ¬ (nI b < nI a) := by
  rw [Int32.lt_iff_toInt_lt, nI_toInt (by omega), nI_toInt (by omega)]; omega
theorem rr_drop {M : jj_Mt} {d kc ks pc : Nat} {τ : jj_St} {ls ls2 : List (Nat × Value)} {st : List Value} {Q : jj_Rs → jj_St → Prop} (ks0 : List Nat) (e : ls2.filter (fun q => ks0.contains q.1) = ls) (k : jj_R M d kc ks τ pc ls st Q) : jj_R M d kc ks τ pc ls2 st Q := by
  subst e
  intro p l e R s m args below meth c H locs cells slots D cs A ad n0 ad0 L h
  refine k p l e R s m args below meth c H locs cells slots D cs A ad n0 ad0 L (jj_locs h ⟨h.2.2.2.2.2.2.1, h.2.2.2.2.2.2.2.1, fun q hq => h.2.2.2.2.2.2.2.2 q ?_⟩)
  obtain ⟨z, hz, rfl⟩ := List.mem_map.mp hq
  exact List.mem_map.mpr ⟨z, (List.mem_filter.mp hz).1, rfl⟩
theorem jj_Qh {Q : jj_Rs → jj_St → Prop} {r : jj_Rs} {S : Nat → jj_Sh} {t : Nat} {h h2 : Nat → Nat → Int32} {g : Nat → Nat → Int64} (e : h = h2) (q : Q r (S, t, h2, g)) : Q r (S, t, h, g) := e ▸ q
theorem jj_Rh {M : jj_Mt} {d kc ks : Nat} {S : Nat → jj_Sh} {t pc : Nat} {h h2 : Nat → Nat → Int32} {g : Nat → Nat → Int64} {l : List (Nat × Value)} {st : List Value} {Q : jj_Rs → jj_St → Prop} (e : h = h2) (q : jj_R M d kc ks (S, t, h2, g) pc l st Q) : jj_R M d kc ks (S, t, h, g) pc l st Q := e ▸ q
/-- a PERSON that is told -/
theorem jj_pers {r1 : Nat → Int32} {n : Nat} {p : Int32} (hP : r1 0 = nI n) (hn : n ≤ 8) (c : ¬ vX9_isPerson r1 p = 0) : vp_in p 8 := by
  unfold vX9_isPerson at c
  rw [hP] at c
  rw [vp_in_iff]
  have h8 := nI_toInt (n := n) (by omega)
  by_cases q : p < 0
  · rw [if_pos q] at c; exact absurd rfl c
  · rw [if_neg q] at c
    by_cases q2 : nI n ≤ p
    · rw [if_pos q2] at c; exact absurd rfl c
    · rw [Int32.lt_iff_toInt_lt] at q
      rw [Int32.le_iff_toInt_le, h8] at q2
      simp at q
      omega
def vX9_fault (r13 : Nat → Int32) : Int32 := (r13 8)
set_option maxHeartbeats 1000000 in
theorem sp_X9_fault {d kc ks : Nat} {h : Nat → Nat → Int32} {g : Nat → Nat → Int64} {Q : jj_Rs → jj_St → Prop}  (kq : Q (.inl (some (.int (vX9_fault (h 13))))) (jj_S, 782, h, g)) : jj_R mX9_fault (d + 0) kc ks (jj_S, 782, h, g) 0 [(0, .ref 0)] [] Q := by
  refine rr_aload_n 0 rfl rfl dX9_fault_0 ?_
  refine rr_getR dX9_fault_1 fX9_21 lo_0 sh_0 rfl ?_
  refine rr_getI dX9_fault_4 fX9_163 lo_13 sh_13 rfl ?_
  refine rr_ireturn dX9_fault_7 rfl ?_
  simpa only [vX9_fault] using kq
def vX9_status (r0 : Nat → Int32) (w : Int32) : Int32 := (if w = 0 then (r0 13) else (if w = 1 then (r0 14) else (-1)))
set_option maxHeartbeats 1000000 in
theorem sp_X9_status {d kc ks : Nat} {h : Nat → Nat → Int32} {g : Nat → Nat → Int64} {Q : jj_Rs → jj_St → Prop} {w : Int32} (kq : Q (.inl (some (.int (vX9_status (h 0) w)))) (jj_S, 782, h, g)) : jj_R mX9_status (d + 0) kc ks (jj_S, 782, h, g) 0 [(0, .ref 0), (1, .int w)] [] Q := by
  refine rr_iload_n 1 rfl rfl dX9_status_0 ?_
  refine rr_if_ne dX9_status_1 (fun c1 => ?_) (fun c1 => ?_)
  · skip
    refine rr_iload_n 1 rfl rfl dX9_status_11 ?_
    refine rr_iconst 1 rfl dX9_status_12 ?_
    refine rr_icmp_ne dX9_status_13 (fun c2 => ?_) (fun c2 => ?_)
    · skip
      refine rr_iconst (-1) rfl dX9_status_23 ?_
      refine rr_ireturn dX9_status_24 rfl ?_
      simpa only [vX9_status, if_neg c1, if_neg c2] using kq
    · skip
      refine rr_aload_n 0 rfl rfl dX9_status_16 ?_
      refine rr_getI dX9_status_17 fX9_369 lo_0 sh_0 rfl ?_
      refine rr_goto dX9_status_20 ?_
      refine rr_ireturn dX9_status_24 rfl ?_
      simpa only [vX9_status, if_neg c1, if_pos c2] using kq
  · skip
    refine rr_aload_n 0 rfl rfl dX9_status_4 ?_
    refine rr_getI dX9_status_5 fX9_366 lo_0 sh_0 rfl ?_
    refine rr_goto dX9_status_8 ?_
    refine rr_ireturn dX9_status_24 rfl ?_
    simpa only [vX9_status, if_pos c1] using kq
def vX9_count (r13 : Nat → Int32) (r34 : Nat → Int32) (w : Int32) : Int32 := (if w = 0 then (r34 1) else (if w = 1 then (r13 1) else (if w = 2 then (r34 0) else (-1))))
set_option maxHeartbeats 1000000 in
theorem sp_X9_count {d kc ks : Nat} {h : Nat → Nat → Int32} {g : Nat → Nat → Int64} {Q : jj_Rs → jj_St → Prop} {w : Int32} (kq : Q (.inl (some (.int (vX9_count (h 13) (h 34) w)))) (jj_S, 782, h, g)) : jj_R mX9_count (d + 0) kc ks (jj_S, 782, h, g) 0 [(0, .ref 0), (1, .int w)] [] Q := by
  refine rr_iload_n 1 rfl rfl dX9_count_0 ?_
  by_cases c1 : w = 0
  · skip
    refine rr_tcase (tgt := 28) c1 27 dX9_count_1 (by decide) (by decide) (by decide) (by decide) ?_
    refine rr_aload_n 0 rfl rfl dX9_count_28 ?_
    refine rr_getR dX9_count_29 fX9_70 lo_0 sh_0 rfl ?_
    refine rr_getI dX9_count_32 fX9_357 lo_34 sh_34 rfl ?_
    refine rr_ireturn dX9_count_35 rfl ?_
    simpa only [vX9_count, if_pos c1] using kq
  · skip
    by_cases c2 : w = 1
    · skip
      refine rr_tcase (tgt := 36) c2 35 dX9_count_1 (by decide) (by decide) (by decide) (by decide) ?_
      refine rr_aload_n 0 rfl rfl dX9_count_36 ?_
      refine rr_getR dX9_count_37 fX9_21 lo_0 sh_0 rfl ?_
      refine rr_getI dX9_count_40 fX9_99 lo_13 sh_13 rfl ?_
      refine rr_ireturn dX9_count_43 rfl ?_
      simpa only [vX9_count, if_neg c1, if_pos c2] using kq
    · skip
      by_cases c3 : w = 2
      · skip
        refine rr_tcase (tgt := 44) c3 43 dX9_count_1 (by decide) (by decide) (by decide) (by decide) ?_
        refine rr_aload_n 0 rfl rfl dX9_count_44 ?_
        refine rr_getR dX9_count_45 fX9_70 lo_0 sh_0 rfl ?_
        refine rr_getI dX9_count_48 fX9_166 lo_34 sh_34 rfl ?_
        refine rr_ireturn dX9_count_51 rfl ?_
        simpa only [vX9_count, if_neg c1, if_neg c2, if_pos c3] using kq
      · skip
        refine rr_tableOut (tgt := 52) dX9_count_1 (by have q0 := lv_neT c1 (a := 0) rfl; have q1 := lv_neT c2 (a := 1) rfl; have q2 := lv_neT c3 (a := 2) rfl; omega) (by decide) ?_
        refine rr_iconst (-1) rfl dX9_count_52 ?_
        refine rr_ireturn dX9_count_53 rfl ?_
        simpa only [vX9_count, if_neg c1, if_neg c2, if_neg c3] using kq
def vX9_requireBits (r0 : Nat → Int32) (n : Nat) (b : Int32) : jj_Rs := (if b < 0 then (.inr "java/lang/IllegalArgumentException") else (if (1 <<< ((nI n) &&& 31)) ≤ b then (.inr "java/lang/IllegalArgumentException") else (.inl none)))
def rX9_requireBits_0 (r0 : Nat → Int32) (n : Nat) (b : Int32) : Nat → Int32 := (if b < 0 then (upd r0 14 (r0 14 + 1)) else (if (1 <<< ((nI n) &&& 31)) ≤ b then (upd r0 14 (r0 14 + 1)) else r0))
set_option maxHeartbeats 1000000 in
theorem sp_X9_requireBits {d kc ks : Nat} {h : Nat → Nat → Int32} {g : Nat → Nat → Int64} {Q : jj_Rs → jj_St → Prop} {n : Nat} {b : Int32} (hP : h 1 0 = nI n) (hn : n ≤ 8) (kq : Q (vX9_requireBits (h 0) n b) (jj_S, 782, (jj_rs h [(0, (rX9_requireBits_0 (h 0) n b))]), g)) : jj_R mX9_requireBits (d + 7) (kc + 1) (ks + 6) (jj_S, 782, h, g) 0 [(0, .ref 0), (1, .int b)] [] Q := by
  refine rr_aload_n 0 rfl rfl dX9_requireBits_0 ?_
  refine rr_iload_n 1 rfl rfl dX9_requireBits_1 ?_
  refine rr_if_lt dX9_requireBits_2 (fun c1 => ?_) (fun c1 => ?_)
  · skip
    refine rr_iconst 0 rfl dX9_requireBits_22 ?_
    refine rr_callV (As := [.int 0]) (rest := []) (kc2 := 1) (ks2 := 6) dX9_requireBits_23 okX9_require lX9_103 lo_0 sh_0 rfl rfl (Nat.le_of_ble_eq_true rfl) (Nat.le_of_ble_eq_true rfl) rfl (by omega) (by simp [jj_rk]) (by simp [jj_rk]) ?_
    refine sp_X9_require  (fun c => absurd rfl c) (fun _ => ?_)
    show Q (.inr "java/lang/IllegalArgumentException") (jj_S, 782, (jj_rs h [(0, (upd (h 0) 14 ((h 0) 14 + 1)))]), g)
    simpa only [vX9_requireBits, rX9_requireBits_0, if_pos c1] using kq
  · skip
    refine rr_iload_n 1 rfl rfl dX9_requireBits_5 ?_
    refine rr_iconst 1 rfl dX9_requireBits_6 ?_
    refine rr_aload_n 0 rfl rfl dX9_requireBits_7 ?_
    refine rr_getR dX9_requireBits_8 fX9_27 lo_0 sh_0 rfl ?_
    refine rr_getI dX9_requireBits_11 fX9_132 lo_1 sh_1 rfl ?_
    rw [hP]
    refine rr_ishl dX9_requireBits_14 ?_
    refine rr_icmp_ge dX9_requireBits_15 (fun c3 => ?_) (fun c3 => ?_)
    · skip
      refine rr_iconst 0 rfl dX9_requireBits_22 ?_
      refine rr_callV (As := [.int 0]) (rest := []) (kc2 := 1) (ks2 := 6) dX9_requireBits_23 okX9_require lX9_103 lo_0 sh_0 rfl rfl (Nat.le_of_ble_eq_true rfl) (Nat.le_of_ble_eq_true rfl) rfl (by omega) (by simp [jj_rk]) (by simp [jj_rk]) ?_
      refine sp_X9_require  (fun c => absurd rfl c) (fun _ => ?_)
      show Q (.inr "java/lang/IllegalArgumentException") (jj_S, 782, (jj_rs h [(0, (upd (h 0) 14 ((h 0) 14 + 1)))]), g)
      simpa only [vX9_requireBits, rX9_requireBits_0, if_neg c1, if_pos c3] using kq
    · skip
      refine rr_iconst 1 rfl dX9_requireBits_18 ?_
      refine rr_goto dX9_requireBits_19 ?_
      refine rr_callV (As := [.int 1]) (rest := []) (kc2 := 1) (ks2 := 6) dX9_requireBits_23 okX9_require lX9_103 lo_0 sh_0 rfl rfl (Nat.le_of_ble_eq_true rfl) (Nat.le_of_ble_eq_true rfl) rfl (by omega) (by simp [jj_rk]) (by simp [jj_rk]) ?_
      refine sp_X9_require  (fun _ => ?_) (fun c => absurd c (by decide))
      show jj_R _ _ kc ks (jj_S, 782, h, g) 26 [(0, .ref 0), (1, .int b)] [] Q
      refine rr_return dX9_requireBits_26 rfl ?_
      refine jj_Qh (jj_addr (B := h) (o := 0) (r := (h 0)) rfl) ?_
      simpa only [vX9_requireBits, rX9_requireBits_0, if_neg c1, if_neg c3] using kq
def vX9_told (r0 : Nat → Int32) (r1 : Nat → Int32) (r25 : Nat → Int32) (r38 : Nat → Int32) (r39 : Nat → Int32) (r40 : Nat → Int32) (r41 : Nat → Int32) (n : Nat) (w : Int32) : jj_Rs := (if w < 0 then (.inr "java/lang/IllegalArgumentException") else (if 11 < w then (.inr "java/lang/IllegalArgumentException") else (if w = 0 then (.inl (some (.int (nI n)))) else (if w = 1 then (.inl (some (.int (r38 0)))) else (if w = 2 then (.inl (some (.int (vX6_tiedBits_n r40 n 1)))) else (if w = 3 then (.inl (some (.int (vX6_tiedBits_n r40 n 2)))) else (if w = 4 then (.inl (some (.int (r38 2)))) else (if w = 5 then (.inl (some (.int (vX6_behindBits_n r38 r39 n)))) else (if w = 6 then (.inl (some (.int (vX6_behindTogether_n r38 r39 n)))) else (if w = 7 then (.inl (some (.int (vX6_slipsTogether_n r41 n)))) else (if w = 8 then (.inl (some (.int (r1 1)))) else (if w = 9 then (.inl (some (.int (r25 2)))) else (if w = 10 then (.inl (some (.int (r0 12)))) else (.inl (some (.int (r38 1)))))))))))))))))
def rX9_told_0 (r0 : Nat → Int32) (r1 : Nat → Int32) (r25 : Nat → Int32) (r38 : Nat → Int32) (r39 : Nat → Int32) (r40 : Nat → Int32) (r41 : Nat → Int32) (n : Nat) (w : Int32) : Nat → Int32 := (if w < 0 then (upd r0 14 (r0 14 + 1)) else (if 11 < w then (upd r0 14 (r0 14 + 1)) else r0))
set_option maxHeartbeats 1000000 in
theorem sp_X9_told {d kc ks : Nat} {h : Nat → Nat → Int32} {g : Nat → Nat → Int64} {Q : jj_Rs → jj_St → Prop} {n : Nat} {w : Int32} (hP : h 1 0 = nI n) (hn : n ≤ 8) (kq : Q (vX9_told (h 0) (h 1) (h 25) (h 38) (h 39) (h 40) (h 41) n w) (jj_S, 782, (jj_rs h [(0, (rX9_told_0 (h 0) (h 1) (h 25) (h 38) (h 39) (h 40) (h 41) n w))]), g)) : jj_R mX9_told (d + 7) (kc + 1) (ks + 6) (jj_S, 782, h, g) 0 [(0, .ref 0), (1, .int w)] [] Q := by
  refine rr_aload_n 0 rfl rfl dX9_told_0 ?_
  refine rr_iload_n 1 rfl rfl dX9_told_1 ?_
  refine rr_if_lt dX9_told_2 (fun c1 => ?_) (fun c1 => ?_)
  · skip
    refine rr_iconst 0 rfl dX9_told_15 ?_
    refine rr_callV (As := [.int 0]) (rest := []) (kc2 := 1) (ks2 := 6) dX9_told_16 okX9_require lX9_103 lo_0 sh_0 rfl rfl (Nat.le_of_ble_eq_true rfl) (Nat.le_of_ble_eq_true rfl) rfl (by omega) (by simp [jj_rk]) (by simp [jj_rk]) ?_
    refine sp_X9_require  (fun c => absurd rfl c) (fun _ => ?_)
    show Q (.inr "java/lang/IllegalArgumentException") (jj_S, 782, (jj_rs h [(0, (upd (h 0) 14 ((h 0) 14 + 1)))]), g)
    simpa only [vX9_told, rX9_told_0, if_pos c1] using kq
  · skip
    refine rr_iload_n 1 rfl rfl dX9_told_5 ?_
    refine rr_bipush 11 rfl dX9_told_6 ?_
    refine rr_icmp_gt dX9_told_8 (fun c3 => ?_) (fun c3 => ?_)
    · skip
      refine rr_iconst 0 rfl dX9_told_15 ?_
      refine rr_callV (As := [.int 0]) (rest := []) (kc2 := 1) (ks2 := 6) dX9_told_16 okX9_require lX9_103 lo_0 sh_0 rfl rfl (Nat.le_of_ble_eq_true rfl) (Nat.le_of_ble_eq_true rfl) rfl (by omega) (by simp [jj_rk]) (by simp [jj_rk]) ?_
      refine sp_X9_require  (fun c => absurd rfl c) (fun _ => ?_)
      show Q (.inr "java/lang/IllegalArgumentException") (jj_S, 782, (jj_rs h [(0, (upd (h 0) 14 ((h 0) 14 + 1)))]), g)
      simpa only [vX9_told, rX9_told_0, if_neg c1, if_pos c3] using kq
    · skip
      refine rr_iconst 1 rfl dX9_told_11 ?_
      refine rr_goto dX9_told_12 ?_
      refine rr_callV (As := [.int 1]) (rest := []) (kc2 := 1) (ks2 := 6) dX9_told_16 okX9_require lX9_103 lo_0 sh_0 rfl rfl (Nat.le_of_ble_eq_true rfl) (Nat.le_of_ble_eq_true rfl) rfl (by omega) (by simp [jj_rk]) (by simp [jj_rk]) ?_
      refine sp_X9_require  (fun _ => ?_) (fun c => absurd c (by decide))
      show jj_R _ _ kc ks (jj_S, 782, h, g) 19 [(0, .ref 0), (1, .int w)] [] Q
      refine rr_iload_n 1 rfl rfl dX9_told_19 ?_
      by_cases c6 : w = 0
      · skip
        refine rr_tcase (tgt := 80) c6 60 dX9_told_20 (by decide) (by decide) (by decide) (by decide) ?_
        refine rr_aload_n 0 rfl rfl dX9_told_80 ?_
        refine rr_getR dX9_told_81 fX9_27 lo_0 sh_0 rfl ?_
        refine rr_getI dX9_told_84 fX9_132 lo_1 sh_1 rfl ?_
        rw [hP]
        refine rr_ireturn dX9_told_87 rfl ?_
        refine jj_Qh (jj_addr (B := h) (o := 0) (r := (h 0)) rfl) ?_
        simpa only [vX9_told, rX9_told_0, if_neg c1, if_neg c3, if_pos c6] using kq
      · skip
        by_cases c7 : w = 1
        · skip
          refine rr_tcase (tgt := 88) c7 68 dX9_told_20 (by decide) (by decide) (by decide) (by decide) ?_
          refine rr_aload_n 0 rfl rfl dX9_told_88 ?_
          refine rr_getR dX9_told_89 fX9_80 lo_0 sh_0 rfl ?_
          refine rr_getI dX9_told_92 fX9_172 lo_38 sh_38 rfl ?_
          refine rr_ireturn dX9_told_95 rfl ?_
          refine jj_Qh (jj_addr (B := h) (o := 0) (r := (h 0)) rfl) ?_
          simpa only [vX9_told, rX9_told_0, if_neg c1, if_neg c3, if_neg c6, if_pos c7] using kq
        · skip
          by_cases c8 : w = 2
          · skip
            refine rr_tcase (tgt := 96) c8 76 dX9_told_20 (by decide) (by decide) (by decide) (by decide) ?_
            refine rr_aload_n 0 rfl rfl dX9_told_96 ?_
            refine rr_getR dX9_told_97 fX9_80 lo_0 sh_0 rfl ?_
            refine rr_aload_n 0 rfl rfl dX9_told_100 ?_
            refine rr_getR dX9_told_101 fX9_27 lo_0 sh_0 rfl ?_
            refine rr_getI dX9_told_104 fX9_132 lo_1 sh_1 rfl ?_
            rw [hP]
            refine rr_iconst 1 rfl dX9_told_107 ?_
            refine rr_callV (As := [.int (nI n), .int 1]) (rest := []) (kc2 := 0) (ks2 := 0) dX9_told_108 okX6_tiedBits lX9_175 lo_38 sh_38 rfl rfl (Nat.le_of_ble_eq_true rfl) (Nat.le_of_ble_eq_true rfl) rfl (by omega) (by simp [jj_rk]) (by simp [jj_rk]) ?_
            refine sp_X6_tiedBits_n (by first | assumption | exact jj_pers hP hn (by assumption) | exact vp_in_nI (by omega) (by decide) | decide | omega) ?_
            show jj_R _ _ kc ks (jj_S, 782, h, g) 111 [(0, .ref 0), (1, .int w)] [.int (vX6_tiedBits_n (h 40) n 1)] Q
            refine rr_ireturn dX9_told_111 rfl ?_
            refine jj_Qh (jj_addr (B := h) (o := 0) (r := (h 0)) rfl) ?_
            simpa only [vX9_told, rX9_told_0, if_neg c1, if_neg c3, if_neg c6, if_neg c7, if_pos c8] using kq
          · skip
            by_cases c9 : w = 3
            · skip
              refine rr_tcase (tgt := 112) c9 92 dX9_told_20 (by decide) (by decide) (by decide) (by decide) ?_
              refine rr_aload_n 0 rfl rfl dX9_told_112 ?_
              refine rr_getR dX9_told_113 fX9_80 lo_0 sh_0 rfl ?_
              refine rr_aload_n 0 rfl rfl dX9_told_116 ?_
              refine rr_getR dX9_told_117 fX9_27 lo_0 sh_0 rfl ?_
              refine rr_getI dX9_told_120 fX9_132 lo_1 sh_1 rfl ?_
              rw [hP]
              refine rr_iconst 2 rfl dX9_told_123 ?_
              refine rr_callV (As := [.int (nI n), .int 2]) (rest := []) (kc2 := 0) (ks2 := 0) dX9_told_124 okX6_tiedBits lX9_175 lo_38 sh_38 rfl rfl (Nat.le_of_ble_eq_true rfl) (Nat.le_of_ble_eq_true rfl) rfl (by omega) (by simp [jj_rk]) (by simp [jj_rk]) ?_
              refine sp_X6_tiedBits_n (by first | assumption | exact jj_pers hP hn (by assumption) | exact vp_in_nI (by omega) (by decide) | decide | omega) ?_
              show jj_R _ _ kc ks (jj_S, 782, h, g) 127 [(0, .ref 0), (1, .int w)] [.int (vX6_tiedBits_n (h 40) n 2)] Q
              refine rr_ireturn dX9_told_127 rfl ?_
              refine jj_Qh (jj_addr (B := h) (o := 0) (r := (h 0)) rfl) ?_
              simpa only [vX9_told, rX9_told_0, if_neg c1, if_neg c3, if_neg c6, if_neg c7, if_neg c8, if_pos c9] using kq
            · skip
              by_cases c10 : w = 4
              · skip
                refine rr_tcase (tgt := 128) c10 108 dX9_told_20 (by decide) (by decide) (by decide) (by decide) ?_
                refine rr_aload_n 0 rfl rfl dX9_told_128 ?_
                refine rr_getR dX9_told_129 fX9_80 lo_0 sh_0 rfl ?_
                refine rr_getI dX9_told_132 fX9_179 lo_38 sh_38 rfl ?_
                refine rr_ireturn dX9_told_135 rfl ?_
                refine jj_Qh (jj_addr (B := h) (o := 0) (r := (h 0)) rfl) ?_
                simpa only [vX9_told, rX9_told_0, if_neg c1, if_neg c3, if_neg c6, if_neg c7, if_neg c8, if_neg c9, if_pos c10] using kq
              · skip
                by_cases c11 : w = 5
                · skip
                  refine rr_tcase (tgt := 136) c11 116 dX9_told_20 (by decide) (by decide) (by decide) (by decide) ?_
                  refine rr_aload_n 0 rfl rfl dX9_told_136 ?_
                  refine rr_getR dX9_told_137 fX9_80 lo_0 sh_0 rfl ?_
                  refine rr_aload_n 0 rfl rfl dX9_told_140 ?_
                  refine rr_getR dX9_told_141 fX9_27 lo_0 sh_0 rfl ?_
                  refine rr_getI dX9_told_144 fX9_132 lo_1 sh_1 rfl ?_
                  rw [hP]
                  refine rr_callV (As := [.int (nI n)]) (rest := []) (kc2 := 0) (ks2 := 0) dX9_told_147 okX6_behindBits lX9_182 lo_38 sh_38 rfl rfl (Nat.le_of_ble_eq_true rfl) (Nat.le_of_ble_eq_true rfl) rfl (by omega) (by simp [jj_rk]) (by simp [jj_rk]) ?_
                  refine sp_X6_behindBits_n (by first | assumption | exact jj_pers hP hn (by assumption) | exact vp_in_nI (by omega) (by decide) | decide | omega) ?_
                  show jj_R _ _ kc ks (jj_S, 782, h, g) 150 [(0, .ref 0), (1, .int w)] [.int (vX6_behindBits_n (h 38) (h 39) n)] Q
                  refine rr_ireturn dX9_told_150 rfl ?_
                  refine jj_Qh (jj_addr (B := h) (o := 0) (r := (h 0)) rfl) ?_
                  simpa only [vX9_told, rX9_told_0, if_neg c1, if_neg c3, if_neg c6, if_neg c7, if_neg c8, if_neg c9, if_neg c10, if_pos c11] using kq
                · skip
                  by_cases c12 : w = 6
                  · skip
                    refine rr_tcase (tgt := 151) c12 131 dX9_told_20 (by decide) (by decide) (by decide) (by decide) ?_
                    refine rr_aload_n 0 rfl rfl dX9_told_151 ?_
                    refine rr_getR dX9_told_152 fX9_80 lo_0 sh_0 rfl ?_
                    refine rr_aload_n 0 rfl rfl dX9_told_155 ?_
                    refine rr_getR dX9_told_156 fX9_27 lo_0 sh_0 rfl ?_
                    refine rr_getI dX9_told_159 fX9_132 lo_1 sh_1 rfl ?_
                    rw [hP]
                    refine rr_callV (As := [.int (nI n)]) (rest := []) (kc2 := 0) (ks2 := 0) dX9_told_162 okX6_behindTogether lX9_186 lo_38 sh_38 rfl rfl (Nat.le_of_ble_eq_true rfl) (Nat.le_of_ble_eq_true rfl) rfl (by omega) (by simp [jj_rk]) (by simp [jj_rk]) ?_
                    refine sp_X6_behindTogether_n (by first | assumption | exact jj_pers hP hn (by assumption) | exact vp_in_nI (by omega) (by decide) | decide | omega) ?_
                    show jj_R _ _ kc ks (jj_S, 782, h, g) 165 [(0, .ref 0), (1, .int w)] [.int (vX6_behindTogether_n (h 38) (h 39) n)] Q
                    refine rr_ireturn dX9_told_165 rfl ?_
                    refine jj_Qh (jj_addr (B := h) (o := 0) (r := (h 0)) rfl) ?_
                    simpa only [vX9_told, rX9_told_0, if_neg c1, if_neg c3, if_neg c6, if_neg c7, if_neg c8, if_neg c9, if_neg c10, if_neg c11, if_pos c12] using kq
                  · skip
                    by_cases c13 : w = 7
                    · skip
                      refine rr_tcase (tgt := 166) c13 146 dX9_told_20 (by decide) (by decide) (by decide) (by decide) ?_
                      refine rr_aload_n 0 rfl rfl dX9_told_166 ?_
                      refine rr_getR dX9_told_167 fX9_80 lo_0 sh_0 rfl ?_
                      refine rr_aload_n 0 rfl rfl dX9_told_170 ?_
                      refine rr_getR dX9_told_171 fX9_27 lo_0 sh_0 rfl ?_
                      refine rr_getI dX9_told_174 fX9_132 lo_1 sh_1 rfl ?_
                      rw [hP]
                      refine rr_callV (As := [.int (nI n)]) (rest := []) (kc2 := 0) (ks2 := 0) dX9_told_177 okX6_slipsTogether lX9_189 lo_38 sh_38 rfl rfl (Nat.le_of_ble_eq_true rfl) (Nat.le_of_ble_eq_true rfl) rfl (by omega) (by simp [jj_rk]) (by simp [jj_rk]) ?_
                      refine sp_X6_slipsTogether_n (by first | assumption | exact jj_pers hP hn (by assumption) | exact vp_in_nI (by omega) (by decide) | decide | omega) ?_
                      show jj_R _ _ kc ks (jj_S, 782, h, g) 180 [(0, .ref 0), (1, .int w)] [.int (vX6_slipsTogether_n (h 41) n)] Q
                      refine rr_ireturn dX9_told_180 rfl ?_
                      refine jj_Qh (jj_addr (B := h) (o := 0) (r := (h 0)) rfl) ?_
                      simpa only [vX9_told, rX9_told_0, if_neg c1, if_neg c3, if_neg c6, if_neg c7, if_neg c8, if_neg c9, if_neg c10, if_neg c11, if_neg c12, if_pos c13] using kq
                    · skip
                      by_cases c14 : w = 8
                      · skip
                        refine rr_tcase (tgt := 181) c14 161 dX9_told_20 (by decide) (by decide) (by decide) (by decide) ?_
                        refine rr_aload_n 0 rfl rfl dX9_told_181 ?_
                        refine rr_getR dX9_told_182 fX9_27 lo_0 sh_0 rfl ?_
                        refine rr_getI dX9_told_185 fX9_192 lo_1 sh_1 rfl ?_
                        refine rr_ireturn dX9_told_188 rfl ?_
                        refine jj_Qh (jj_addr (B := h) (o := 0) (r := (h 0)) rfl) ?_
                        simpa only [vX9_told, rX9_told_0, if_neg c1, if_neg c3, if_neg c6, if_neg c7, if_neg c8, if_neg c9, if_neg c10, if_neg c11, if_neg c12, if_neg c13, if_pos c14] using kq
                      · skip
                        by_cases c15 : w = 9
                        · skip
                          refine rr_tcase (tgt := 189) c15 169 dX9_told_20 (by decide) (by decide) (by decide) (by decide) ?_
                          refine rr_aload_n 0 rfl rfl dX9_told_189 ?_
                          refine rr_getR dX9_told_190 fX9_56 lo_0 sh_0 rfl ?_
                          refine rr_getI dX9_told_193 fX9_162 lo_25 sh_25 rfl ?_
                          refine rr_ireturn dX9_told_196 rfl ?_
                          refine jj_Qh (jj_addr (B := h) (o := 0) (r := (h 0)) rfl) ?_
                          simpa only [vX9_told, rX9_told_0, if_neg c1, if_neg c3, if_neg c6, if_neg c7, if_neg c8, if_neg c9, if_neg c10, if_neg c11, if_neg c12, if_neg c13, if_neg c14, if_pos c15] using kq
                        · skip
                          by_cases c16 : w = 10
                          · skip
                            refine rr_tcase (tgt := 197) c16 177 dX9_told_20 (by decide) (by decide) (by decide) (by decide) ?_
                            refine rr_aload_n 0 rfl rfl dX9_told_197 ?_
                            refine rr_getI dX9_told_198 fX9_129 lo_0 sh_0 rfl ?_
                            refine rr_ireturn dX9_told_201 rfl ?_
                            refine jj_Qh (jj_addr (B := h) (o := 0) (r := (h 0)) rfl) ?_
                            simpa only [vX9_told, rX9_told_0, if_neg c1, if_neg c3, if_neg c6, if_neg c7, if_neg c8, if_neg c9, if_neg c10, if_neg c11, if_neg c12, if_neg c13, if_neg c14, if_neg c15, if_pos c16] using kq
                          · skip
                            refine rr_tableOut (tgt := 202) dX9_told_20 (by have q0 := lv_neT c6 (a := 0) rfl; have q1 := lv_neT c7 (a := 1) rfl; have q2 := lv_neT c8 (a := 2) rfl; have q3 := lv_neT c9 (a := 3) rfl; have q4 := lv_neT c10 (a := 4) rfl; have q5 := lv_neT c11 (a := 5) rfl; have q6 := lv_neT c12 (a := 6) rfl; have q7 := lv_neT c13 (a := 7) rfl; have q8 := lv_neT c14 (a := 8) rfl; have q9 := lv_neT c15 (a := 9) rfl; have q10 := lv_neT c16 (a := 10) rfl; omega) (by decide) ?_
                            refine rr_aload_n 0 rfl rfl dX9_told_202 ?_
                            refine rr_getR dX9_told_203 fX9_80 lo_0 sh_0 rfl ?_
                            refine rr_getI dX9_told_206 fX9_195 lo_38 sh_38 rfl ?_
                            refine rr_ireturn dX9_told_209 rfl ?_
                            refine jj_Qh (jj_addr (B := h) (o := 0) (r := (h 0)) rfl) ?_
                            simpa only [vX9_told, rX9_told_0, if_neg c1, if_neg c3, if_neg c6, if_neg c7, if_neg c8, if_neg c9, if_neg c10, if_neg c11, if_neg c12, if_neg c13, if_neg c14, if_neg c15, if_neg c16] using kq
def vX9_person (r0 : Nat → Int32) (r1 : Nat → Int32) (r2 : Nat → Int32) (r3 : Nat → Int32) (r4 : Nat → Int32) (r5 : Nat → Int32) (r6 : Nat → Int32) (r38 : Nat → Int32) (r39 : Nat → Int32) (r40 : Nat → Int32) (r41 : Nat → Int32) (r42 : Nat → Int32) (p : Int32) (w : Int32) : jj_Rs := (if (vX9_isPerson r1 p) = 0 then (.inr "java/util/NoSuchElementException") else (if w < 0 then (.inr "java/lang/IllegalArgumentException") else (if 10 < w then (.inr "java/lang/IllegalArgumentException") else (if w = 0 then (.inl (some (.int (r2 (p : Int32).toNatClampNeg)))) else (if w = 1 then (.inl (some (.int (r3 (p : Int32).toNatClampNeg)))) else (if w = 2 then (.inl (some (.int (r4 (p : Int32).toNatClampNeg)))) else (if w = 3 then (.inl (some (.int (r5 (p : Int32).toNatClampNeg)))) else (if w = 4 then (.inl (some (.int (r39 (p : Int32).toNatClampNeg)))) else (if w = 5 then (.inl (some (.int (vX6_behindOf_n r38 r39 p)))) else (if w = 6 then (.inl (some (.int (r40 (p : Int32).toNatClampNeg)))) else (if w = 7 then (if (vX6_isCut_n r38 p) = 0 then (.inl (some (.int 0))) else (.inl (some (.int 1)))) else (if w = 8 then (.inl (some (.int (r41 (p : Int32).toNatClampNeg)))) else (if w = 9 then (.inl (some (.int (r42 (p : Int32).toNatClampNeg)))) else (.inl (some (.int (r6 (p : Int32).toNatClampNeg)))))))))))))))))
def rX9_person_0 (r0 : Nat → Int32) (r1 : Nat → Int32) (r2 : Nat → Int32) (r3 : Nat → Int32) (r4 : Nat → Int32) (r5 : Nat → Int32) (r6 : Nat → Int32) (r38 : Nat → Int32) (r39 : Nat → Int32) (r40 : Nat → Int32) (r41 : Nat → Int32) (r42 : Nat → Int32) (p : Int32) (w : Int32) : Nat → Int32 := (if (vX9_isPerson r1 p) = 0 then (upd r0 13 (r0 13 + 1)) else (if w < 0 then (upd r0 14 (r0 14 + 1)) else (if 10 < w then (upd r0 14 (r0 14 + 1)) else r0)))
set_option maxHeartbeats 1000000 in
theorem sp_X9_person {d kc ks : Nat} {h : Nat → Nat → Int32} {g : Nat → Nat → Int64} {Q : jj_Rs → jj_St → Prop} {n : Nat} {p : Int32} {w : Int32} (hP : h 1 0 = nI n) (hn : n ≤ 8) (kq : Q (vX9_person (h 0) (h 1) (h 2) (h 3) (h 4) (h 5) (h 6) (h 38) (h 39) (h 40) (h 41) (h 42) p w) (jj_S, 782, (jj_rs h [(0, (rX9_person_0 (h 0) (h 1) (h 2) (h 3) (h 4) (h 5) (h 6) (h 38) (h 39) (h 40) (h 41) (h 42) p w))]), g)) : jj_R mX9_person (d + 7) (kc + 2) (ks + 12) (jj_S, 782, h, g) 0 [(0, .ref 0), (1, .int p), (2, .int w)] [] Q := by
  refine rr_aload_n 0 rfl rfl dX9_person_0 ?_
  refine rr_iload_n 1 rfl rfl dX9_person_1 ?_
  refine rr_callV (As := [.int p]) (rest := []) (kc2 := 1) (ks2 := 6) dX9_person_2 okX9_requirePerson lX9_198 lo_0 sh_0 rfl rfl (Nat.le_of_ble_eq_true rfl) (Nat.le_of_ble_eq_true rfl) rfl (by omega) (by simp [jj_rk]) (by simp [jj_rk]) ?_
  refine sp_X9_requirePerson  (fun c1 => ?_) (fun c1 => ?_)
  · skip
    show jj_R _ _ (kc + 1) (ks + 6) (jj_S, 782, h, g) 5 [(0, .ref 0), (1, .int p), (2, .int w)] [] Q
    refine rr_aload_n 0 rfl rfl dX9_person_5 ?_
    refine rr_iload_n 2 rfl rfl dX9_person_6 ?_
    refine rr_if_lt dX9_person_7 (fun c2 => ?_) (fun c2 => ?_)
    · skip
      refine rr_iconst 0 rfl dX9_person_20 ?_
      refine rr_callV (As := [.int 0]) (rest := []) (kc2 := 1) (ks2 := 6) dX9_person_21 okX9_require lX9_103 lo_0 sh_0 rfl rfl (Nat.le_of_ble_eq_true rfl) (Nat.le_of_ble_eq_true rfl) rfl (by omega) (by simp [jj_rk]) (by simp [jj_rk]) ?_
      refine sp_X9_require  (fun c => absurd rfl c) (fun _ => ?_)
      show Q (.inr "java/lang/IllegalArgumentException") (jj_S, 782, (jj_rs h [(0, (upd (h 0) 14 ((h 0) 14 + 1)))]), g)
      simpa only [vX9_person, rX9_person_0, if_neg c1, if_pos c2] using kq
    · skip
      refine rr_iload_n 2 rfl rfl dX9_person_10 ?_
      refine rr_bipush 10 rfl dX9_person_11 ?_
      refine rr_icmp_gt dX9_person_13 (fun c4 => ?_) (fun c4 => ?_)
      · skip
        refine rr_iconst 0 rfl dX9_person_20 ?_
        refine rr_callV (As := [.int 0]) (rest := []) (kc2 := 1) (ks2 := 6) dX9_person_21 okX9_require lX9_103 lo_0 sh_0 rfl rfl (Nat.le_of_ble_eq_true rfl) (Nat.le_of_ble_eq_true rfl) rfl (by omega) (by simp [jj_rk]) (by simp [jj_rk]) ?_
        refine sp_X9_require  (fun c => absurd rfl c) (fun _ => ?_)
        show Q (.inr "java/lang/IllegalArgumentException") (jj_S, 782, (jj_rs h [(0, (upd (h 0) 14 ((h 0) 14 + 1)))]), g)
        simpa only [vX9_person, rX9_person_0, if_neg c1, if_neg c2, if_pos c4] using kq
      · skip
        refine rr_iconst 1 rfl dX9_person_16 ?_
        refine rr_goto dX9_person_17 ?_
        refine rr_callV (As := [.int 1]) (rest := []) (kc2 := 1) (ks2 := 6) dX9_person_21 okX9_require lX9_103 lo_0 sh_0 rfl rfl (Nat.le_of_ble_eq_true rfl) (Nat.le_of_ble_eq_true rfl) rfl (by omega) (by simp [jj_rk]) (by simp [jj_rk]) ?_
        refine sp_X9_require  (fun _ => ?_) (fun c => absurd c (by decide))
        show jj_R _ _ kc ks (jj_S, 782, h, g) 24 [(0, .ref 0), (1, .int p), (2, .int w)] [] Q
        refine rr_iload_n 2 rfl rfl dX9_person_24 ?_
        by_cases c7 : w = 0
        · skip
          refine rr_tcase (tgt := 80) c7 55 dX9_person_25 (by decide) (by decide) (by decide) (by decide) ?_
          refine rr_aload_n 0 rfl rfl dX9_person_80 ?_
          refine rr_getR dX9_person_81 fX9_27 lo_0 sh_0 rfl ?_
          refine rr_getR dX9_person_84 fX9_201 lo_1 sh_1 rfl ?_
          refine rr_iload_n 1 rfl rfl dX9_person_87 ?_
          refine rr_iaload dX9_person_88 lo_2 sh_2 (by first | assumption | exact jj_pers hP hn (by assumption) | exact vp_in_nI (by omega) (by decide) | decide | omega) ?_
          refine rr_ireturn dX9_person_89 rfl ?_
          refine jj_Qh (jj_addr (B := h) (o := 0) (r := (h 0)) rfl) ?_
          simpa only [vX9_person, rX9_person_0, if_neg c1, if_neg c2, if_neg c4, if_pos c7] using kq
        · skip
          by_cases c8 : w = 1
          · skip
            refine rr_tcase (tgt := 90) c8 65 dX9_person_25 (by decide) (by decide) (by decide) (by decide) ?_
            refine rr_aload_n 0 rfl rfl dX9_person_90 ?_
            refine rr_getR dX9_person_91 fX9_27 lo_0 sh_0 rfl ?_
            refine rr_getR dX9_person_94 fX9_204 lo_1 sh_1 rfl ?_
            refine rr_iload_n 1 rfl rfl dX9_person_97 ?_
            refine rr_iaload dX9_person_98 lo_3 sh_3 (by first | assumption | exact jj_pers hP hn (by assumption) | exact vp_in_nI (by omega) (by decide) | decide | omega) ?_
            refine rr_ireturn dX9_person_99 rfl ?_
            refine jj_Qh (jj_addr (B := h) (o := 0) (r := (h 0)) rfl) ?_
            simpa only [vX9_person, rX9_person_0, if_neg c1, if_neg c2, if_neg c4, if_neg c7, if_pos c8] using kq
          · skip
            by_cases c9 : w = 2
            · skip
              refine rr_tcase (tgt := 100) c9 75 dX9_person_25 (by decide) (by decide) (by decide) (by decide) ?_
              refine rr_aload_n 0 rfl rfl dX9_person_100 ?_
              refine rr_getR dX9_person_101 fX9_27 lo_0 sh_0 rfl ?_
              refine rr_getR dX9_person_104 fX9_207 lo_1 sh_1 rfl ?_
              refine rr_iload_n 1 rfl rfl dX9_person_107 ?_
              refine rr_iaload dX9_person_108 lo_4 sh_4 (by first | assumption | exact jj_pers hP hn (by assumption) | exact vp_in_nI (by omega) (by decide) | decide | omega) ?_
              refine rr_ireturn dX9_person_109 rfl ?_
              refine jj_Qh (jj_addr (B := h) (o := 0) (r := (h 0)) rfl) ?_
              simpa only [vX9_person, rX9_person_0, if_neg c1, if_neg c2, if_neg c4, if_neg c7, if_neg c8, if_pos c9] using kq
            · skip
              by_cases c10 : w = 3
              · skip
                refine rr_tcase (tgt := 110) c10 85 dX9_person_25 (by decide) (by decide) (by decide) (by decide) ?_
                refine rr_aload_n 0 rfl rfl dX9_person_110 ?_
                refine rr_getR dX9_person_111 fX9_27 lo_0 sh_0 rfl ?_
                refine rr_getR dX9_person_114 fX9_210 lo_1 sh_1 rfl ?_
                refine rr_iload_n 1 rfl rfl dX9_person_117 ?_
                refine rr_iaload dX9_person_118 lo_5 sh_5 (by first | assumption | exact jj_pers hP hn (by assumption) | exact vp_in_nI (by omega) (by decide) | decide | omega) ?_
                refine rr_ireturn dX9_person_119 rfl ?_
                refine jj_Qh (jj_addr (B := h) (o := 0) (r := (h 0)) rfl) ?_
                simpa only [vX9_person, rX9_person_0, if_neg c1, if_neg c2, if_neg c4, if_neg c7, if_neg c8, if_neg c9, if_pos c10] using kq
              · skip
                by_cases c11 : w = 4
                · skip
                  refine rr_tcase (tgt := 120) c11 95 dX9_person_25 (by decide) (by decide) (by decide) (by decide) ?_
                  refine rr_aload_n 0 rfl rfl dX9_person_120 ?_
                  refine rr_getR dX9_person_121 fX9_80 lo_0 sh_0 rfl ?_
                  refine rr_getR dX9_person_124 fX9_213 lo_38 sh_38 rfl ?_
                  refine rr_iload_n 1 rfl rfl dX9_person_127 ?_
                  refine rr_iaload dX9_person_128 lo_39 sh_39 (by first | assumption | exact jj_pers hP hn (by assumption) | exact vp_in_nI (by omega) (by decide) | decide | omega) ?_
                  refine rr_ireturn dX9_person_129 rfl ?_
                  refine jj_Qh (jj_addr (B := h) (o := 0) (r := (h 0)) rfl) ?_
                  simpa only [vX9_person, rX9_person_0, if_neg c1, if_neg c2, if_neg c4, if_neg c7, if_neg c8, if_neg c9, if_neg c10, if_pos c11] using kq
                · skip
                  by_cases c12 : w = 5
                  · skip
                    refine rr_tcase (tgt := 130) c12 105 dX9_person_25 (by decide) (by decide) (by decide) (by decide) ?_
                    refine rr_aload_n 0 rfl rfl dX9_person_130 ?_
                    refine rr_getR dX9_person_131 fX9_80 lo_0 sh_0 rfl ?_
                    refine rr_iload_n 1 rfl rfl dX9_person_134 ?_
                    refine rr_callV (As := [.int p]) (rest := []) (kc2 := 0) (ks2 := 0) dX9_person_135 okX6_behindOf lX9_216 lo_38 sh_38 rfl rfl (Nat.le_of_ble_eq_true rfl) (Nat.le_of_ble_eq_true rfl) rfl (by omega) (by simp [jj_rk]) (by simp [jj_rk]) ?_
                    refine sp_X6_behindOf_n (by first | assumption | exact jj_pers hP hn (by assumption) | exact vp_in_nI (by omega) (by decide) | decide | omega) ?_
                    show jj_R _ _ kc ks (jj_S, 782, h, g) 138 [(0, .ref 0), (1, .int p), (2, .int w)] [.int (vX6_behindOf_n (h 38) (h 39) p)] Q
                    refine rr_ireturn dX9_person_138 rfl ?_
                    refine jj_Qh (jj_addr (B := h) (o := 0) (r := (h 0)) rfl) ?_
                    simpa only [vX9_person, rX9_person_0, if_neg c1, if_neg c2, if_neg c4, if_neg c7, if_neg c8, if_neg c9, if_neg c10, if_neg c11, if_pos c12] using kq
                  · skip
                    by_cases c13 : w = 6
                    · skip
                      refine rr_tcase (tgt := 139) c13 114 dX9_person_25 (by decide) (by decide) (by decide) (by decide) ?_
                      refine rr_aload_n 0 rfl rfl dX9_person_139 ?_
                      refine rr_getR dX9_person_140 fX9_80 lo_0 sh_0 rfl ?_
                      refine rr_getR dX9_person_143 fX9_219 lo_38 sh_38 rfl ?_
                      refine rr_iload_n 1 rfl rfl dX9_person_146 ?_
                      refine rr_iaload dX9_person_147 lo_40 sh_40 (by first | assumption | exact jj_pers hP hn (by assumption) | exact vp_in_nI (by omega) (by decide) | decide | omega) ?_
                      refine rr_ireturn dX9_person_148 rfl ?_
                      refine jj_Qh (jj_addr (B := h) (o := 0) (r := (h 0)) rfl) ?_
                      simpa only [vX9_person, rX9_person_0, if_neg c1, if_neg c2, if_neg c4, if_neg c7, if_neg c8, if_neg c9, if_neg c10, if_neg c11, if_neg c12, if_pos c13] using kq
                    · skip
                      by_cases c14 : w = 7
                      · skip
                        refine rr_tcase (tgt := 149) c14 124 dX9_person_25 (by decide) (by decide) (by decide) (by decide) ?_
                        refine rr_aload_n 0 rfl rfl dX9_person_149 ?_
                        refine rr_getR dX9_person_150 fX9_80 lo_0 sh_0 rfl ?_
                        refine rr_iload_n 1 rfl rfl dX9_person_153 ?_
                        refine rr_callV (As := [.int p]) (rest := []) (kc2 := 0) (ks2 := 0) dX9_person_154 okX6_isCut lX9_222 lo_38 sh_38 rfl rfl (Nat.le_of_ble_eq_true rfl) (Nat.le_of_ble_eq_true rfl) rfl (by omega) (by simp [jj_rk]) (by simp [jj_rk]) ?_
                        refine sp_X6_isCut_n  ?_
                        show jj_R _ _ kc ks (jj_S, 782, h, g) 157 [(0, .ref 0), (1, .int p), (2, .int w)] [.int (vX6_isCut_n (h 38) p)] Q
                        refine rr_if_eq dX9_person_157 (fun c15 => ?_) (fun c15 => ?_)
                        · skip
                          refine rr_iconst 0 rfl dX9_person_164 ?_
                          refine rr_ireturn dX9_person_165 rfl ?_
                          refine jj_Qh (jj_addr (B := h) (o := 0) (r := (h 0)) rfl) ?_
                          simpa only [vX9_person, rX9_person_0, if_neg c1, if_neg c2, if_neg c4, if_neg c7, if_neg c8, if_neg c9, if_neg c10, if_neg c11, if_neg c12, if_neg c13, if_pos c14, if_pos c15] using kq
                        · skip
                          refine rr_iconst 1 rfl dX9_person_160 ?_
                          refine rr_goto dX9_person_161 ?_
                          refine rr_ireturn dX9_person_165 rfl ?_
                          refine jj_Qh (jj_addr (B := h) (o := 0) (r := (h 0)) rfl) ?_
                          simpa only [vX9_person, rX9_person_0, if_neg c1, if_neg c2, if_neg c4, if_neg c7, if_neg c8, if_neg c9, if_neg c10, if_neg c11, if_neg c12, if_neg c13, if_pos c14, if_neg c15] using kq
                      · skip
                        by_cases c16 : w = 8
                        · skip
                          refine rr_tcase (tgt := 166) c16 141 dX9_person_25 (by decide) (by decide) (by decide) (by decide) ?_
                          refine rr_aload_n 0 rfl rfl dX9_person_166 ?_
                          refine rr_getR dX9_person_167 fX9_80 lo_0 sh_0 rfl ?_
                          refine rr_getR dX9_person_170 fX9_226 lo_38 sh_38 rfl ?_
                          refine rr_iload_n 1 rfl rfl dX9_person_173 ?_
                          refine rr_iaload dX9_person_174 lo_41 sh_41 (by first | assumption | exact jj_pers hP hn (by assumption) | exact vp_in_nI (by omega) (by decide) | decide | omega) ?_
                          refine rr_ireturn dX9_person_175 rfl ?_
                          refine jj_Qh (jj_addr (B := h) (o := 0) (r := (h 0)) rfl) ?_
                          simpa only [vX9_person, rX9_person_0, if_neg c1, if_neg c2, if_neg c4, if_neg c7, if_neg c8, if_neg c9, if_neg c10, if_neg c11, if_neg c12, if_neg c13, if_neg c14, if_pos c16] using kq
                        · skip
                          by_cases c17 : w = 9
                          · skip
                            refine rr_tcase (tgt := 176) c17 151 dX9_person_25 (by decide) (by decide) (by decide) (by decide) ?_
                            refine rr_aload_n 0 rfl rfl dX9_person_176 ?_
                            refine rr_getR dX9_person_177 fX9_80 lo_0 sh_0 rfl ?_
                            refine rr_getR dX9_person_180 fX9_229 lo_38 sh_38 rfl ?_
                            refine rr_iload_n 1 rfl rfl dX9_person_183 ?_
                            refine rr_iaload dX9_person_184 lo_42 sh_42 (by first | assumption | exact jj_pers hP hn (by assumption) | exact vp_in_nI (by omega) (by decide) | decide | omega) ?_
                            refine rr_ireturn dX9_person_185 rfl ?_
                            refine jj_Qh (jj_addr (B := h) (o := 0) (r := (h 0)) rfl) ?_
                            simpa only [vX9_person, rX9_person_0, if_neg c1, if_neg c2, if_neg c4, if_neg c7, if_neg c8, if_neg c9, if_neg c10, if_neg c11, if_neg c12, if_neg c13, if_neg c14, if_neg c16, if_pos c17] using kq
                          · skip
                            refine rr_tableOut (tgt := 186) dX9_person_25 (by have q0 := lv_neT c7 (a := 0) rfl; have q1 := lv_neT c8 (a := 1) rfl; have q2 := lv_neT c9 (a := 2) rfl; have q3 := lv_neT c10 (a := 3) rfl; have q4 := lv_neT c11 (a := 4) rfl; have q5 := lv_neT c12 (a := 5) rfl; have q6 := lv_neT c13 (a := 6) rfl; have q7 := lv_neT c14 (a := 7) rfl; have q8 := lv_neT c16 (a := 8) rfl; have q9 := lv_neT c17 (a := 9) rfl; omega) (by decide) ?_
                            refine rr_aload_n 0 rfl rfl dX9_person_186 ?_
                            refine rr_getR dX9_person_187 fX9_27 lo_0 sh_0 rfl ?_
                            refine rr_getR dX9_person_190 fX9_232 lo_1 sh_1 rfl ?_
                            refine rr_iload_n 1 rfl rfl dX9_person_193 ?_
                            refine rr_iaload dX9_person_194 lo_6 sh_6 (by first | assumption | exact jj_pers hP hn (by assumption) | exact vp_in_nI (by omega) (by decide) | decide | omega) ?_
                            refine rr_ireturn dX9_person_195 rfl ?_
                            refine jj_Qh (jj_addr (B := h) (o := 0) (r := (h 0)) rfl) ?_
                            simpa only [vX9_person, rX9_person_0, if_neg c1, if_neg c2, if_neg c4, if_neg c7, if_neg c8, if_neg c9, if_neg c10, if_neg c11, if_neg c12, if_neg c13, if_neg c14, if_neg c16, if_neg c17] using kq
  · skip
    show Q (.inr "java/util/NoSuchElementException") (jj_S, 782, (jj_rs h [(0, (upd (h 0) 13 ((h 0) 13 + 1)))]), g)
    simpa only [vX9_person, rX9_person_0, if_pos c1] using kq
def vX9_can (r0 : Nat → Int32) (r1 : Nat → Int32) (r38 : Nat → Int32) (r40 : Nat → Int32) (a : Int32) (b : Int32) : jj_Rs := (if (vX9_isPerson r1 a) = 0 then (.inr "java/util/NoSuchElementException") else (if (vX9_isPerson r1 b) = 0 then (.inr "java/util/NoSuchElementException") else (.inl (some (.int (vX6_mayTie_n r38 r40 a b))))))
def rX9_can_0 (r0 : Nat → Int32) (r1 : Nat → Int32) (r38 : Nat → Int32) (r40 : Nat → Int32) (a : Int32) (b : Int32) : Nat → Int32 := (if (vX9_isPerson r1 a) = 0 then (upd r0 13 (r0 13 + 1)) else (if (vX9_isPerson r1 b) = 0 then (upd r0 13 (r0 13 + 1)) else r0))
set_option maxHeartbeats 1000000 in
theorem sp_X9_can {d kc ks : Nat} {h : Nat → Nat → Int32} {g : Nat → Nat → Int64} {Q : jj_Rs → jj_St → Prop} {n : Nat} {a : Int32} {b : Int32} (hP : h 1 0 = nI n) (hn : n ≤ 8) (kq : Q (vX9_can (h 0) (h 1) (h 38) (h 40) a b) (jj_S, 782, (jj_rs h [(0, (rX9_can_0 (h 0) (h 1) (h 38) (h 40) a b))]), g)) : jj_R mX9_can (d + 7) (kc + 2) (ks + 12) (jj_S, 782, h, g) 0 [(0, .ref 0), (1, .int a), (2, .int b)] [] Q := by
  refine rr_aload_n 0 rfl rfl dX9_can_0 ?_
  refine rr_iload_n 1 rfl rfl dX9_can_1 ?_
  refine rr_callV (As := [.int a]) (rest := []) (kc2 := 1) (ks2 := 6) dX9_can_2 okX9_requirePerson lX9_198 lo_0 sh_0 rfl rfl (Nat.le_of_ble_eq_true rfl) (Nat.le_of_ble_eq_true rfl) rfl (by omega) (by simp [jj_rk]) (by simp [jj_rk]) ?_
  refine sp_X9_requirePerson  (fun c1 => ?_) (fun c1 => ?_)
  · skip
    show jj_R _ _ (kc + 1) (ks + 6) (jj_S, 782, h, g) 5 [(0, .ref 0), (1, .int a), (2, .int b)] [] Q
    refine rr_aload_n 0 rfl rfl dX9_can_5 ?_
    refine rr_iload_n 2 rfl rfl dX9_can_6 ?_
    refine rr_callV (As := [.int b]) (rest := []) (kc2 := 1) (ks2 := 6) dX9_can_7 okX9_requirePerson lX9_198 lo_0 sh_0 rfl rfl (Nat.le_of_ble_eq_true rfl) (Nat.le_of_ble_eq_true rfl) rfl (by omega) (by simp [jj_rk]) (by simp [jj_rk]) ?_
    refine sp_X9_requirePerson  (fun c2 => ?_) (fun c2 => ?_)
    · skip
      show jj_R _ _ kc ks (jj_S, 782, h, g) 10 [(0, .ref 0), (1, .int a), (2, .int b)] [] Q
      refine rr_aload_n 0 rfl rfl dX9_can_10 ?_
      refine rr_getR dX9_can_11 fX9_80 lo_0 sh_0 rfl ?_
      refine rr_iload_n 1 rfl rfl dX9_can_14 ?_
      refine rr_iload_n 2 rfl rfl dX9_can_15 ?_
      refine rr_callV (As := [.int a, .int b]) (rest := []) (kc2 := 0) (ks2 := 0) dX9_can_16 okX6_mayTie lX9_250 lo_38 sh_38 rfl rfl (Nat.le_of_ble_eq_true rfl) (Nat.le_of_ble_eq_true rfl) rfl (by omega) (by simp [jj_rk]) (by simp [jj_rk]) ?_
      refine sp_X6_mayTie_n (by first | assumption | exact jj_pers hP hn (by assumption) | exact vp_in_nI (by omega) (by decide) | decide | omega) (by first | assumption | exact jj_pers hP hn (by assumption) | exact vp_in_nI (by omega) (by decide) | decide | omega) ?_
      show jj_R _ _ kc ks (jj_S, 782, h, g) 19 [(0, .ref 0), (1, .int a), (2, .int b)] [.int (vX6_mayTie_n (h 38) (h 40) a b)] Q
      refine rr_nreturn dX9_can_19 rfl (by first | rfl | ((unfold vX6_mayTie_n; repeat' split) <;> rfl) | assumption) ?_
      refine jj_Qh (jj_addr (B := h) (o := 0) (r := (h 0)) rfl) ?_
      simpa only [vX9_can, rX9_can_0, if_neg c1, if_neg c2] using kq
    · skip
      show Q (.inr "java/util/NoSuchElementException") (jj_S, 782, (jj_rs h [(0, (upd (h 0) 13 ((h 0) 13 + 1)))]), g)
      simpa only [vX9_can, rX9_can_0, if_neg c1, if_pos c2] using kq
  · skip
    show Q (.inr "java/util/NoSuchElementException") (jj_S, 782, (jj_rs h [(0, (upd (h 0) 13 ((h 0) 13 + 1)))]), g)
    simpa only [vX9_can, rX9_can_0, if_pos c1] using kq
def vX9_far (r0 : Nat → Int32) (r1 : Nat → Int32) (r4 : Nat → Int32) (r5 : Nat → Int32) (a : Int32) (b : Int32) : jj_Rs := (if (vX9_isPerson r1 a) = 0 then (.inr "java/util/NoSuchElementException") else (if (vX9_isPerson r1 b) = 0 then (.inr "java/util/NoSuchElementException") else (.inl (some (.int (vX7_wayBetween r4 r5 a b))))))
def rX9_far_0 (r0 : Nat → Int32) (r1 : Nat → Int32) (r4 : Nat → Int32) (r5 : Nat → Int32) (a : Int32) (b : Int32) : Nat → Int32 := (if (vX9_isPerson r1 a) = 0 then (upd r0 13 (r0 13 + 1)) else (if (vX9_isPerson r1 b) = 0 then (upd r0 13 (r0 13 + 1)) else r0))
set_option maxHeartbeats 1000000 in
theorem sp_X9_far {d kc ks : Nat} {h : Nat → Nat → Int32} {g : Nat → Nat → Int64} {Q : jj_Rs → jj_St → Prop} {n : Nat} {a : Int32} {b : Int32} (hP : h 1 0 = nI n) (hn : n ≤ 8) (kq : Q (vX9_far (h 0) (h 1) (h 4) (h 5) a b) (jj_S, 782, (jj_rs h [(0, (rX9_far_0 (h 0) (h 1) (h 4) (h 5) a b))]), g)) : jj_R mX9_far (d + 7) (kc + 2) (ks + 12) (jj_S, 782, h, g) 0 [(0, .ref 0), (1, .int a), (2, .int b)] [] Q := by
  refine rr_aload_n 0 rfl rfl dX9_far_0 ?_
  refine rr_iload_n 1 rfl rfl dX9_far_1 ?_
  refine rr_callV (As := [.int a]) (rest := []) (kc2 := 1) (ks2 := 6) dX9_far_2 okX9_requirePerson lX9_198 lo_0 sh_0 rfl rfl (Nat.le_of_ble_eq_true rfl) (Nat.le_of_ble_eq_true rfl) rfl (by omega) (by simp [jj_rk]) (by simp [jj_rk]) ?_
  refine sp_X9_requirePerson  (fun c1 => ?_) (fun c1 => ?_)
  · skip
    show jj_R _ _ (kc + 1) (ks + 6) (jj_S, 782, h, g) 5 [(0, .ref 0), (1, .int a), (2, .int b)] [] Q
    refine rr_aload_n 0 rfl rfl dX9_far_5 ?_
    refine rr_iload_n 2 rfl rfl dX9_far_6 ?_
    refine rr_callV (As := [.int b]) (rest := []) (kc2 := 1) (ks2 := 6) dX9_far_7 okX9_requirePerson lX9_198 lo_0 sh_0 rfl rfl (Nat.le_of_ble_eq_true rfl) (Nat.le_of_ble_eq_true rfl) rfl (by omega) (by simp [jj_rk]) (by simp [jj_rk]) ?_
    refine sp_X9_requirePerson  (fun c2 => ?_) (fun c2 => ?_)
    · skip
      show jj_R _ _ kc ks (jj_S, 782, h, g) 10 [(0, .ref 0), (1, .int a), (2, .int b)] [] Q
      refine rr_aload_n 0 rfl rfl dX9_far_10 ?_
      refine rr_getR dX9_far_11 fX9_27 lo_0 sh_0 rfl ?_
      refine rr_iload_n 1 rfl rfl dX9_far_14 ?_
      refine rr_iload_n 2 rfl rfl dX9_far_15 ?_
      refine rr_callV (As := [.int a, .int b]) (rest := []) (kc2 := 0) (ks2 := 0) dX9_far_16 okX7_wayBetween lX9_266 lo_1 sh_1 rfl rfl (Nat.le_of_ble_eq_true rfl) (Nat.le_of_ble_eq_true rfl) rfl (by omega) (by simp [jj_rk]) (by simp [jj_rk]) ?_
      refine sp_X7_wayBetween (by first | assumption | exact jj_pers hP hn (by assumption) | exact vp_in_nI (by omega) (by decide) | decide | omega) (by first | assumption | exact jj_pers hP hn (by assumption) | exact vp_in_nI (by omega) (by decide) | decide | omega) ?_
      show jj_R _ _ kc ks (jj_S, 782, h, g) 19 [(0, .ref 0), (1, .int a), (2, .int b)] [.int (vX7_wayBetween (h 4) (h 5) a b)] Q
      refine rr_ireturn dX9_far_19 rfl ?_
      refine jj_Qh (jj_addr (B := h) (o := 0) (r := (h 0)) rfl) ?_
      simpa only [vX9_far, rX9_far_0, if_neg c1, if_neg c2] using kq
    · skip
      show Q (.inr "java/util/NoSuchElementException") (jj_S, 782, (jj_rs h [(0, (upd (h 0) 13 ((h 0) 13 + 1)))]), g)
      simpa only [vX9_far, rX9_far_0, if_neg c1, if_pos c2] using kq
  · skip
    show Q (.inr "java/util/NoSuchElementException") (jj_S, 782, (jj_rs h [(0, (upd (h 0) 13 ((h 0) 13 + 1)))]), g)
    simpa only [vX9_far, rX9_far_0, if_pos c1] using kq
def vX9_gap (r0 : Nat → Int32) (r1 : Nat → Int32) (r39 : Nat → Int32) (a : Int32) (b : Int32) : jj_Rs := (if (vX9_isPerson r1 a) = 0 then (.inr "java/util/NoSuchElementException") else (if (vX9_isPerson r1 b) = 0 then (.inr "java/util/NoSuchElementException") else (.inl (some (.int ((r39 (a : Int32).toNatClampNeg) - (r39 (b : Int32).toNatClampNeg)))))))
def rX9_gap_0 (r0 : Nat → Int32) (r1 : Nat → Int32) (r39 : Nat → Int32) (a : Int32) (b : Int32) : Nat → Int32 := (if (vX9_isPerson r1 a) = 0 then (upd r0 13 (r0 13 + 1)) else (if (vX9_isPerson r1 b) = 0 then (upd r0 13 (r0 13 + 1)) else r0))
set_option maxHeartbeats 1000000 in
theorem sp_X9_gap {d kc ks : Nat} {h : Nat → Nat → Int32} {g : Nat → Nat → Int64} {Q : jj_Rs → jj_St → Prop} {n : Nat} {a : Int32} {b : Int32} (hP : h 1 0 = nI n) (hn : n ≤ 8) (kq : Q (vX9_gap (h 0) (h 1) (h 39) a b) (jj_S, 782, (jj_rs h [(0, (rX9_gap_0 (h 0) (h 1) (h 39) a b))]), g)) : jj_R mX9_gap (d + 7) (kc + 2) (ks + 12) (jj_S, 782, h, g) 0 [(0, .ref 0), (1, .int a), (2, .int b)] [] Q := by
  refine rr_aload_n 0 rfl rfl dX9_gap_0 ?_
  refine rr_iload_n 1 rfl rfl dX9_gap_1 ?_
  refine rr_callV (As := [.int a]) (rest := []) (kc2 := 1) (ks2 := 6) dX9_gap_2 okX9_requirePerson lX9_198 lo_0 sh_0 rfl rfl (Nat.le_of_ble_eq_true rfl) (Nat.le_of_ble_eq_true rfl) rfl (by omega) (by simp [jj_rk]) (by simp [jj_rk]) ?_
  refine sp_X9_requirePerson  (fun c1 => ?_) (fun c1 => ?_)
  · skip
    show jj_R _ _ (kc + 1) (ks + 6) (jj_S, 782, h, g) 5 [(0, .ref 0), (1, .int a), (2, .int b)] [] Q
    refine rr_aload_n 0 rfl rfl dX9_gap_5 ?_
    refine rr_iload_n 2 rfl rfl dX9_gap_6 ?_
    refine rr_callV (As := [.int b]) (rest := []) (kc2 := 1) (ks2 := 6) dX9_gap_7 okX9_requirePerson lX9_198 lo_0 sh_0 rfl rfl (Nat.le_of_ble_eq_true rfl) (Nat.le_of_ble_eq_true rfl) rfl (by omega) (by simp [jj_rk]) (by simp [jj_rk]) ?_
    refine sp_X9_requirePerson  (fun c2 => ?_) (fun c2 => ?_)
    · skip
      show jj_R _ _ kc ks (jj_S, 782, h, g) 10 [(0, .ref 0), (1, .int a), (2, .int b)] [] Q
      refine rr_aload_n 0 rfl rfl dX9_gap_10 ?_
      refine rr_getR dX9_gap_11 fX9_80 lo_0 sh_0 rfl ?_
      refine rr_getR dX9_gap_14 fX9_213 lo_38 sh_38 rfl ?_
      refine rr_iload_n 1 rfl rfl dX9_gap_17 ?_
      refine rr_iaload dX9_gap_18 lo_39 sh_39 (by first | assumption | exact jj_pers hP hn (by assumption) | exact vp_in_nI (by omega) (by decide) | decide | omega) ?_
      refine rr_aload_n 0 rfl rfl dX9_gap_19 ?_
      refine rr_getR dX9_gap_20 fX9_80 lo_0 sh_0 rfl ?_
      refine rr_getR dX9_gap_23 fX9_213 lo_38 sh_38 rfl ?_
      refine rr_iload_n 2 rfl rfl dX9_gap_26 ?_
      refine rr_iaload dX9_gap_27 lo_39 sh_39 (by first | assumption | exact jj_pers hP hn (by assumption) | exact vp_in_nI (by omega) (by decide) | decide | omega) ?_
      refine rr_isub dX9_gap_28 ?_
      refine rr_ireturn dX9_gap_29 rfl ?_
      refine jj_Qh (jj_addr (B := h) (o := 0) (r := (h 0)) rfl) ?_
      simpa only [vX9_gap, rX9_gap_0, if_neg c1, if_neg c2] using kq
    · skip
      show Q (.inr "java/util/NoSuchElementException") (jj_S, 782, (jj_rs h [(0, (upd (h 0) 13 ((h 0) 13 + 1)))]), g)
      simpa only [vX9_gap, rX9_gap_0, if_neg c1, if_pos c2] using kq
  · skip
    show Q (.inr "java/util/NoSuchElementException") (jj_S, 782, (jj_rs h [(0, (upd (h 0) 13 ((h 0) 13 + 1)))]), g)
    simpa only [vX9_gap, rX9_gap_0, if_pos c1] using kq
def vX9_within (r0 : Nat → Int32) (r39 : Nat → Int32) (n : Nat) (w : Int32) : jj_Rs := (if w < 0 then (.inr "java/lang/IllegalArgumentException") else (if 999 < w then (.inr "java/lang/IllegalArgumentException") else (.inl (some (.int (vX6_bitsInDay_n r39 n w))))))
def rX9_within_0 (r0 : Nat → Int32) (r39 : Nat → Int32) (n : Nat) (w : Int32) : Nat → Int32 := (if w < 0 then (upd r0 14 (r0 14 + 1)) else (if 999 < w then (upd r0 14 (r0 14 + 1)) else r0))
set_option maxHeartbeats 1000000 in
theorem sp_X9_within {d kc ks : Nat} {h : Nat → Nat → Int32} {g : Nat → Nat → Int64} {Q : jj_Rs → jj_St → Prop} {n : Nat} {w : Int32} (hP : h 1 0 = nI n) (hn : n ≤ 8) (kq : Q (vX9_within (h 0) (h 39) n w) (jj_S, 782, (jj_rs h [(0, (rX9_within_0 (h 0) (h 39) n w))]), g)) : jj_R mX9_within (d + 7) (kc + 1) (ks + 6) (jj_S, 782, h, g) 0 [(0, .ref 0), (1, .int w)] [] Q := by
  refine rr_aload_n 0 rfl rfl dX9_within_0 ?_
  refine rr_iload_n 1 rfl rfl dX9_within_1 ?_
  refine rr_if_lt dX9_within_2 (fun c1 => ?_) (fun c1 => ?_)
  · skip
    refine rr_iconst 0 rfl dX9_within_16 ?_
    refine rr_callV (As := [.int 0]) (rest := []) (kc2 := 1) (ks2 := 6) dX9_within_17 okX9_require lX9_103 lo_0 sh_0 rfl rfl (Nat.le_of_ble_eq_true rfl) (Nat.le_of_ble_eq_true rfl) rfl (by omega) (by simp [jj_rk]) (by simp [jj_rk]) ?_
    refine sp_X9_require  (fun c => absurd rfl c) (fun _ => ?_)
    show Q (.inr "java/lang/IllegalArgumentException") (jj_S, 782, (jj_rs h [(0, (upd (h 0) 14 ((h 0) 14 + 1)))]), g)
    simpa only [vX9_within, rX9_within_0, if_pos c1] using kq
  · skip
    refine rr_iload_n 1 rfl rfl dX9_within_5 ?_
    refine rr_sipush 999 rfl dX9_within_6 ?_
    refine rr_icmp_gt dX9_within_9 (fun c3 => ?_) (fun c3 => ?_)
    · skip
      refine rr_iconst 0 rfl dX9_within_16 ?_
      refine rr_callV (As := [.int 0]) (rest := []) (kc2 := 1) (ks2 := 6) dX9_within_17 okX9_require lX9_103 lo_0 sh_0 rfl rfl (Nat.le_of_ble_eq_true rfl) (Nat.le_of_ble_eq_true rfl) rfl (by omega) (by simp [jj_rk]) (by simp [jj_rk]) ?_
      refine sp_X9_require  (fun c => absurd rfl c) (fun _ => ?_)
      show Q (.inr "java/lang/IllegalArgumentException") (jj_S, 782, (jj_rs h [(0, (upd (h 0) 14 ((h 0) 14 + 1)))]), g)
      simpa only [vX9_within, rX9_within_0, if_neg c1, if_pos c3] using kq
    · skip
      refine rr_iconst 1 rfl dX9_within_12 ?_
      refine rr_goto dX9_within_13 ?_
      refine rr_callV (As := [.int 1]) (rest := []) (kc2 := 1) (ks2 := 6) dX9_within_17 okX9_require lX9_103 lo_0 sh_0 rfl rfl (Nat.le_of_ble_eq_true rfl) (Nat.le_of_ble_eq_true rfl) rfl (by omega) (by simp [jj_rk]) (by simp [jj_rk]) ?_
      refine sp_X9_require  (fun _ => ?_) (fun c => absurd c (by decide))
      show jj_R _ _ kc ks (jj_S, 782, h, g) 20 [(0, .ref 0), (1, .int w)] [] Q
      refine rr_aload_n 0 rfl rfl dX9_within_20 ?_
      refine rr_getR dX9_within_21 fX9_80 lo_0 sh_0 rfl ?_
      refine rr_aload_n 0 rfl rfl dX9_within_24 ?_
      refine rr_getR dX9_within_25 fX9_27 lo_0 sh_0 rfl ?_
      refine rr_getI dX9_within_28 fX9_132 lo_1 sh_1 rfl ?_
      rw [hP]
      refine rr_iload_n 1 rfl rfl dX9_within_31 ?_
      refine rr_callV (As := [.int (nI n), .int w]) (rest := []) (kc2 := 0) (ks2 := 0) dX9_within_32 okX6_bitsInDay lX9_305 lo_38 sh_38 rfl rfl (Nat.le_of_ble_eq_true rfl) (Nat.le_of_ble_eq_true rfl) rfl (by omega) (by simp [jj_rk]) (by simp [jj_rk]) ?_
      refine sp_X6_bitsInDay_n (by first | assumption | exact jj_pers hP hn (by assumption) | exact vp_in_nI (by omega) (by decide) | decide | omega) ?_
      show jj_R _ _ kc ks (jj_S, 782, h, g) 35 [(0, .ref 0), (1, .int w)] [.int (vX6_bitsInDay_n (h 39) n w)] Q
      refine rr_ireturn dX9_within_35 rfl ?_
      refine jj_Qh (jj_addr (B := h) (o := 0) (r := (h 0)) rfl) ?_
      simpa only [vX9_within, rX9_within_0, if_neg c1, if_neg c3] using kq
def vX9_mates (r0 : Nat → Int32) (r1 : Nat → Int32) (r39 : Nat → Int32) (n : Nat) (p : Int32) : jj_Rs := (if (vX9_isPerson r1 p) = 0 then (.inr "java/util/NoSuchElementException") else (.inl (some (.int ((vX6_bitsInDay_n r39 n (r39 (p : Int32).toNatClampNeg)) &&& ((1 <<< (p &&& 31)) ^^^ (-1)))))))
def rX9_mates_0 (r0 : Nat → Int32) (r1 : Nat → Int32) (r39 : Nat → Int32) (n : Nat) (p : Int32) : Nat → Int32 := (if (vX9_isPerson r1 p) = 0 then (upd r0 13 (r0 13 + 1)) else r0)
set_option maxHeartbeats 1000000 in
theorem sp_X9_mates {d kc ks : Nat} {h : Nat → Nat → Int32} {g : Nat → Nat → Int64} {Q : jj_Rs → jj_St → Prop} {n : Nat} {p : Int32} (hP : h 1 0 = nI n) (hn : n ≤ 8) (kq : Q (vX9_mates (h 0) (h 1) (h 39) n p) (jj_S, 782, (jj_rs h [(0, (rX9_mates_0 (h 0) (h 1) (h 39) n p))]), g)) : jj_R mX9_mates (d + 7) (kc + 1) (ks + 6) (jj_S, 782, h, g) 0 [(0, .ref 0), (1, .int p)] [] Q := by
  refine rr_aload_n 0 rfl rfl dX9_mates_0 ?_
  refine rr_iload_n 1 rfl rfl dX9_mates_1 ?_
  refine rr_callV (As := [.int p]) (rest := []) (kc2 := 1) (ks2 := 6) dX9_mates_2 okX9_requirePerson lX9_198 lo_0 sh_0 rfl rfl (Nat.le_of_ble_eq_true rfl) (Nat.le_of_ble_eq_true rfl) rfl (by omega) (by simp [jj_rk]) (by simp [jj_rk]) ?_
  refine sp_X9_requirePerson  (fun c1 => ?_) (fun c1 => ?_)
  · skip
    show jj_R _ _ kc ks (jj_S, 782, h, g) 5 [(0, .ref 0), (1, .int p)] [] Q
    refine rr_aload_n 0 rfl rfl dX9_mates_5 ?_
    refine rr_getR dX9_mates_6 fX9_80 lo_0 sh_0 rfl ?_
    refine rr_aload_n 0 rfl rfl dX9_mates_9 ?_
    refine rr_getR dX9_mates_10 fX9_27 lo_0 sh_0 rfl ?_
    refine rr_getI dX9_mates_13 fX9_132 lo_1 sh_1 rfl ?_
    rw [hP]
    refine rr_aload_n 0 rfl rfl dX9_mates_16 ?_
    refine rr_getR dX9_mates_17 fX9_80 lo_0 sh_0 rfl ?_
    refine rr_getR dX9_mates_20 fX9_213 lo_38 sh_38 rfl ?_
    refine rr_iload_n 1 rfl rfl dX9_mates_23 ?_
    refine rr_iaload dX9_mates_24 lo_39 sh_39 (by first | assumption | exact jj_pers hP hn (by assumption) | exact vp_in_nI (by omega) (by decide) | decide | omega) ?_
    refine rr_callV (As := [.int (nI n), .int ((h 39) (p : Int32).toNatClampNeg)]) (rest := []) (kc2 := 0) (ks2 := 0) dX9_mates_25 okX6_bitsInDay lX9_305 lo_38 sh_38 rfl rfl (Nat.le_of_ble_eq_true rfl) (Nat.le_of_ble_eq_true rfl) rfl (by omega) (by simp [jj_rk]) (by simp [jj_rk]) ?_
    refine sp_X6_bitsInDay_n (by first | assumption | exact jj_pers hP hn (by assumption) | exact vp_in_nI (by omega) (by decide) | decide | omega) ?_
    show jj_R _ _ kc ks (jj_S, 782, h, g) 28 [(0, .ref 0), (1, .int p)] [.int (vX6_bitsInDay_n (h 39) n ((h 39) (p : Int32).toNatClampNeg))] Q
    refine rr_iconst 1 rfl dX9_mates_28 ?_
    refine rr_iload_n 1 rfl rfl dX9_mates_29 ?_
    refine rr_ishl dX9_mates_30 ?_
    refine rr_iconst (-1) rfl dX9_mates_31 ?_
    refine rr_ixor dX9_mates_32 ?_
    refine rr_iand dX9_mates_33 ?_
    refine rr_ireturn dX9_mates_34 rfl ?_
    refine jj_Qh (jj_addr (B := h) (o := 0) (r := (h 0)) rfl) ?_
    simpa only [vX9_mates, rX9_mates_0, if_neg c1] using kq
  · skip
    show Q (.inr "java/util/NoSuchElementException") (jj_S, 782, (jj_rs h [(0, (upd (h 0) 13 ((h 0) 13 + 1)))]), g)
    simpa only [vX9_mates, rX9_mates_0, if_pos c1] using kq
