/-! ===== two rows of rows at once ===== -/
section GS2
variable {B : Nat → Nat → Int32} {L : List (Nat × (Nat → Int32))} {b len b2 len2 : Nat} {G G2 : Nat → Nat → Int32}
theorem jj_gs_comm (hd : (decide (b2 + len2 ≤ b) || decide (b + len ≤ b2)) = true) : jj_gs (jj_gs B b len G) b2 len2 G2 = jj_gs (jj_gs B b2 len2 G2) b len G := by
  simp only [Bool.or_eq_true, decide_eq_true_eq] at hd
  funext o
  unfold jj_gs
  by_cases c : b ≤ o ∧ o < b + len
  · rw [if_pos c, if_pos c, if_neg (show ¬ (b2 ≤ o ∧ o < b2 + len2) by omega)]
  · rw [if_neg c, if_neg c]
theorem jj_gs_at2 {x : Nat} (hl : L.all (fun q => decide (q.1 < b) || decide (b + len ≤ q.1)) = true) (hd : (decide (b2 + len2 ≤ b) || decide (b + len ≤ b2)) = true) (hx : x < len) : jj_rs (jj_gs (jj_gs B b len G) b2 len2 G2) L (b + x) = G x := by
  rw [jj_gs_comm hd]
  exact jj_gs_at hl hx
theorem jj_gs_set2 {x k : Nat} {v : Int32} (hl : L.all (fun q => decide (q.1 < b) || decide (b + len ≤ q.1)) = true) (hd : (decide (b2 + len2 ≤ b) || decide (b + len ≤ b2)) = true) (hx : x < len) : jj_u2 (jj_rs (jj_gs (jj_gs B b len G) b2 len2 G2) L) (b + x) k v = jj_rs (jj_gs (jj_gs B b len (jj_ug G x k v)) b2 len2 G2) L := by
  rw [jj_gs_comm hd, jj_gs_set hl hx, jj_gs_comm hd]
theorem jj_gs_id2 (hG : jj_gd B b len = G) : jj_rs B L = jj_rs (jj_gs B b len G) L := by rw [← hG, jj_gs_self]
theorem jj_gs_idi : jj_rs (jj_gs B b2 len2 G2) L = jj_rs (jj_gs (jj_gs B b len (jj_gd B b len)) b2 len2 G2) L := by rw [jj_gs_self]
end GS2
theorem pt_c {x : Int32} {n : Nat} (h : vp_in x n) : vp_in (x + 1 - 1) n := by rw [Int32.add_sub_cancel]; exact h
theorem pt_v {G : Nat → Nat → Int32} {x : Nat} {k v : Int32} : jj_ug G x k.toNatClampNeg v x (k + 1 - 1).toNatClampNeg = v := by
  rw [Int32.add_sub_cancel]
  unfold jj_ug
  rw [if_pos rfl]
  exact jj_ueq rfl
theorem pt_w {G : Nat → Nat → Int32} {x : Nat} {k : Int32} : G x (k + 1 - 1).toNatClampNeg = G x k.toNatClampNeg := by rw [Int32.add_sub_cancel]
theorem pt_in {r : Nat → Int32} {q : Nat} (hi : r 35 = nI q) (h : q < 596) : vp_in (r 35) 596 := by rw [hi]; exact vp_in_nI h (by decide)
theorem pt_z {r : Nat → Int32} : vp_in (upd r 35 0 35) 596 := by
  rw [jj_ueq rfl]
  exact vp_in_nI (n := 0) (by decide) (by decide)
theorem pt_up {r : Nat → Int32} {q : Nat} (hi : r 35 = nI q) : upd r 35 (r 35 + 1) 35 = nI (q + 1) := by
  rw [jj_ueq rfl, hi, nI_1]
theorem pt_o {r : Nat → Int32} {k : Nat} (hi : r 35 = nI (36 + 35 * k + 35)) : r 35 = nI (36 + 35 * (k + 1)) := by
  rw [hi]; congr 1
theorem jj_t3 {t : Nat} (ht : t ≤ 3) (c : ¬ nI t = 3) : t < 3 := by
  rcases Nat.lt_or_ge t 3 with h | h
  · exact h
  · obtain rfl : t = 3 := by omega
    exact absurd rfl c
theorem jj_t0 {t : Nat} (c : ¬ nI t = 0) : 0 < t := by
  rcases Nat.eq_zero_or_pos t with rfl | h
  · exact absurd rfl c
  · exact h
def vX10_puts_0 (r49 : Nat → Int32) (g517 : Nat → Nat → Int32) (s : Int32) (v : Int32) : Int32 := v
def rX10_puts_0_49 (r49 : Nat → Int32) (g517 : Nat → Nat → Int32) (s : Int32) (v : Int32) : Nat → Int32 := (upd r49 (35) ((r49 35) + 1))
def qX10_puts_0_517 (r49 : Nat → Int32) (g517 : Nat → Nat → Int32) (s : Int32) (v : Int32) : Nat → Nat → Int32 := (jj_ug g517 ((s : Int32).toNatClampNeg) (((r49 35) : Int32).toNatClampNeg) v)
set_option maxHeartbeats 1000000 in
theorem sp_X10_puts_0 {d kc ks : Nat} {h : Nat → Nat → Int32} {g : Nat → Nat → Int64} {Q : jj_Rs → jj_St → Prop} {s : Int32} {v : Int32} (hs : vp_in s 3) (hq : vp_in ((h 49) 35) 596) (kq : Q (.inl (some (.int (vX10_puts_0 (h 49) (jj_gd h 517 3) s v)))) (jj_S, 782, (jj_rs (jj_gs h 517 3 (qX10_puts_0_517 (h 49) (jj_gd h 517 3) s v)) [(49, (rX10_puts_0_49 (h 49) (jj_gd h 517 3) s v))]), g)) : jj_R mX10_puts (d + 0) kc ks (jj_S, 782, h, g) 0 [(0, .ref 49), (1, .ref (517 + (s : Int32).toNatClampNeg)), (2, .int v), (3, .int 0)] [] Q := by
  refine rr_iload_n 3 rfl rfl dX10_puts_0 ?_
  refine rr_if_ne dX10_puts_1 (fun c => absurd c (by decide)) (fun _ => ?_)
  refine rr_aload_n 1 rfl rfl dX10_puts_4 ?_
  refine rr_aload_n 0 rfl rfl dX10_puts_5 ?_
  refine rr_getI dX10_puts_6 fX10_386 lo_49 sh_49 rfl ?_
  refine rr_iload_n 2 rfl rfl dX10_puts_9 ?_
  refine rr_iastore dX10_puts_10 (lr_516 (jj_ink (i := s) hs)) (sr_516 (jj_ink (i := s) hs)) hq ?_
  refine jj_Rh (jj_gs_set0 (B := h) (L := []) (b := 517) (len := 3) (x := (s : Int32).toNatClampNeg) rfl (jj_ink (i := s) hs)) ?_
  rw [jj_rs_nil]
  refine rr_aload_n 0 rfl rfl dX10_puts_11 ?_
  refine rr_dup rfl dX10_puts_12 ?_
  refine rr_getI dX10_puts_13 fX10_386 lo_49 sh_49 rfl ?_
  rw [show (jj_gs h 517 3 (jj_ug (jj_gd h 517 3) ((s : Int32).toNatClampNeg) ((((h 49) 35) : Int32).toNatClampNeg) v)) 49 = h 49 from rfl]
  refine rr_iconst 1 rfl dX10_puts_16 ?_
  refine rr_iadd dX10_puts_17 ?_
  refine rr_putI dX10_puts_18 fX10_386 ni10_35 lo_49 sh_49 rfl ?_
  rw [jj_rs_set0 (B := (jj_gs h 517 3 (jj_ug (jj_gd h 517 3) ((s : Int32).toNatClampNeg) ((((h 49) 35) : Int32).toNatClampNeg) v))) (o := 49) (r := (h 49)) rfl]
  refine rr_aload_n 1 rfl rfl dX10_puts_21 ?_
  refine rr_aload_n 0 rfl rfl dX10_puts_22 ?_
  refine rr_getI dX10_puts_23 fX10_386 lo_49 sh_49 rfl ?_
  rw [show (jj_rs (jj_gs h 517 3 (jj_ug (jj_gd h 517 3) ((s : Int32).toNatClampNeg) ((((h 49) 35) : Int32).toNatClampNeg) v)) [(49, (upd (h 49) (35) (((h 49) 35) + 1)))]) 49 = (upd (h 49) (35) (((h 49) 35) + 1)) from rfl]
  rw [show (upd (h 49) (35) (((h 49) 35) + 1)) 35 = (((h 49) 35) + 1) from rfl]
  refine rr_iconst 1 rfl dX10_puts_26 ?_
  refine rr_isub dX10_puts_27 ?_
  refine rr_iaload dX10_puts_28 (lr_516 (jj_ink (i := s) hs)) (sr_516 (jj_ink (i := s) hs)) (pt_c hq) ?_
  rw [show (jj_rs (jj_gs h 517 3 (jj_ug (jj_gd h 517 3) ((s : Int32).toNatClampNeg) ((((h 49) 35) : Int32).toNatClampNeg) v)) [(49, (upd (h 49) (35) (((h 49) 35) + 1)))]) (517 + (s : Int32).toNatClampNeg) = (jj_ug (jj_gd h 517 3) ((s : Int32).toNatClampNeg) ((((h 49) 35) : Int32).toNatClampNeg) v) (s : Int32).toNatClampNeg from jj_gs_at (L := [(49, (upd (h 49) (35) (((h 49) 35) + 1)))]) rfl (jj_ink (i := s) hs)]
  refine rr_ireturn dX10_puts_29 rfl ?_
  rw [show ((jj_ug (jj_gd h 517 3) ((s : Int32).toNatClampNeg) ((((h 49) 35) : Int32).toNatClampNeg) v) (s : Int32).toNatClampNeg (((((h 49) 35) + 1) - 1) : Int32).toNatClampNeg) = v from pt_v]
  simpa only [vX10_puts_0, rX10_puts_0_49, qX10_puts_0_517] using kq
def vX10_puts_1 (r49 : Nat → Int32) (g517 : Nat → Nat → Int32) (s : Int32) : Int32 := (g517 (s : Int32).toNatClampNeg ((r49 35) : Int32).toNatClampNeg)
def rX10_puts_1_49 (r49 : Nat → Int32) (g517 : Nat → Nat → Int32) (s : Int32) : Nat → Int32 := (upd r49 (35) ((r49 35) + 1))
set_option maxHeartbeats 1000000 in
theorem sp_X10_puts_1 {d kc ks : Nat} {h : Nat → Nat → Int32} {g : Nat → Nat → Int64} {Q : jj_Rs → jj_St → Prop} {s : Int32} {v : Int32} (hs : vp_in s 3) (hq : vp_in ((h 49) 35) 596) (kq : Q (.inl (some (.int (vX10_puts_1 (h 49) (jj_gd h 517 3) s)))) (jj_S, 782, (jj_rs h [(49, (rX10_puts_1_49 (h 49) (jj_gd h 517 3) s))]), g)) : jj_R mX10_puts (d + 0) kc ks (jj_S, 782, h, g) 0 [(0, .ref 49), (1, .ref (517 + (s : Int32).toNatClampNeg)), (2, .int v), (3, .int 1)] [] Q := by
  refine rr_iload_n 3 rfl rfl dX10_puts_0 ?_
  refine rr_if_ne dX10_puts_1 (fun _ => ?_) (fun c => absurd c (by decide))
  refine rr_aload_n 0 rfl rfl dX10_puts_11 ?_
  refine rr_dup rfl dX10_puts_12 ?_
  refine rr_getI dX10_puts_13 fX10_386 lo_49 sh_49 rfl ?_
  refine rr_iconst 1 rfl dX10_puts_16 ?_
  refine rr_iadd dX10_puts_17 ?_
  refine rr_putI dX10_puts_18 fX10_386 ni10_35 lo_49 sh_49 rfl ?_
  rw [jj_rs_set0 (B := h) (o := 49) (r := (h 49)) rfl]
  refine rr_aload_n 1 rfl rfl dX10_puts_21 ?_
  refine rr_aload_n 0 rfl rfl dX10_puts_22 ?_
  refine rr_getI dX10_puts_23 fX10_386 lo_49 sh_49 rfl ?_
  rw [show (jj_rs h [(49, (upd (h 49) (35) (((h 49) 35) + 1)))]) 49 = (upd (h 49) (35) (((h 49) 35) + 1)) from rfl]
  rw [show (upd (h 49) (35) (((h 49) 35) + 1)) 35 = (((h 49) 35) + 1) from rfl]
  refine rr_iconst 1 rfl dX10_puts_26 ?_
  refine rr_isub dX10_puts_27 ?_
  refine rr_iaload dX10_puts_28 (lr_516 (jj_ink (i := s) hs)) (sr_516 (jj_ink (i := s) hs)) (pt_c hq) ?_
  rw [show (jj_rs h [(49, (upd (h 49) (35) (((h 49) 35) + 1)))]) (517 + (s : Int32).toNatClampNeg) = jj_gd h 517 3 (s : Int32).toNatClampNeg from ((jj_gd_at (jj_ink (i := s) hs)).trans (congrFun (jj_gd_rs (B := h) (L := [(49, (upd (h 49) (35) (((h 49) 35) + 1)))]) (b := 517) (len := 3) rfl) _))]
  refine rr_ireturn dX10_puts_29 rfl ?_
  rw [show ((jj_gd h 517 3) (s : Int32).toNatClampNeg (((((h 49) 35) + 1) - 1) : Int32).toNatClampNeg) = ((jj_gd h 517 3) (s : Int32).toNatClampNeg (((h 49) 35) : Int32).toNatClampNeg) from pt_w]
  simpa only [vX10_puts_1, rX10_puts_1_49] using kq
def fX10_putsAll_0_1 (s : Int32) (k1 : Nat) (a1 : (Nat → Int32) × (Nat → Int32) × (Nat → Nat → Int32)) : (Nat → Int32) × (Nat → Int32) × (Nat → Nat → Int32) := ((rX10_puts_0_49 a1.1 (jj_gc 3 a1.2.2) s (a1.2.1 k1)), (upd a1.2.1 (k1) (vX10_puts_0 a1.1 (jj_gc 3 a1.2.2) s (a1.2.1 k1))), (qX10_puts_0_517 a1.1 (jj_gc 3 a1.2.2) s (a1.2.1 k1)))
def fX10_putsAll_0_3 (s : Int32) (k2 : Nat) (k3 : Nat) (a3 : (Nat → Int32) × (Nat → Nat → Int32) × (Nat → Nat → Int32)) : (Nat → Int32) × (Nat → Nat → Int32) × (Nat → Nat → Int32) := ((rX10_puts_0_49 a3.1 (jj_gc 3 a3.2.2) s (a3.2.1 ((nI k2) : Int32).toNatClampNeg k3)), (jj_ug a3.2.1 (((nI k2) : Int32).toNatClampNeg) (k3) (vX10_puts_0 a3.1 (jj_gc 3 a3.2.2) s (a3.2.1 ((nI k2) : Int32).toNatClampNeg k3))), (qX10_puts_0_517 a3.1 (jj_gc 3 a3.2.2) s (a3.2.1 ((nI k2) : Int32).toNatClampNeg k3)))
def fX10_putsAll_0_2 (s : Int32) (k2 : Nat) (a2 : (Nat → Int32) × (Nat → Nat → Int32) × (Nat → Nat → Int32)) : (Nat → Int32) × (Nat → Nat → Int32) × (Nat → Nat → Int32) := ((jj_fo (fX10_putsAll_0_3 s k2) 35 (a2.1, a2.2.1, a2.2.2)).1, (jj_fo (fX10_putsAll_0_3 s k2) 35 (a2.1, a2.2.1, a2.2.2)).2.1, (jj_fo (fX10_putsAll_0_3 s k2) 35 (a2.1, a2.2.1, a2.2.2)).2.2)
def rX10_putsAll_0_49 (r49 : Nat → Int32) (r497 : Nat → Int32) (g500 : Nat → Nat → Int32) (g517 : Nat → Nat → Int32) (s : Int32) : Nat → Int32 := (jj_fo (fX10_putsAll_0_2 s) 16 ((jj_fo (fX10_putsAll_0_1 s) 35 ((upd (rX10_puts_0_49 (upd r49 (35) 0) g517 s (r49 32)) (32) (vX10_puts_0 (upd r49 (35) 0) g517 s (r49 32))), r497, (qX10_puts_0_517 (upd r49 (35) 0) g517 s (r49 32)))).1, g500, (jj_fo (fX10_putsAll_0_1 s) 35 ((upd (rX10_puts_0_49 (upd r49 (35) 0) g517 s (r49 32)) (32) (vX10_puts_0 (upd r49 (35) 0) g517 s (r49 32))), r497, (qX10_puts_0_517 (upd r49 (35) 0) g517 s (r49 32)))).2.2)).1
def rX10_putsAll_0_497 (r49 : Nat → Int32) (r497 : Nat → Int32) (g500 : Nat → Nat → Int32) (g517 : Nat → Nat → Int32) (s : Int32) : Nat → Int32 := (jj_fo (fX10_putsAll_0_1 s) 35 ((upd (rX10_puts_0_49 (upd r49 (35) 0) g517 s (r49 32)) (32) (vX10_puts_0 (upd r49 (35) 0) g517 s (r49 32))), r497, (qX10_puts_0_517 (upd r49 (35) 0) g517 s (r49 32)))).2.1
def qX10_putsAll_0_500 (r49 : Nat → Int32) (r497 : Nat → Int32) (g500 : Nat → Nat → Int32) (g517 : Nat → Nat → Int32) (s : Int32) : Nat → Nat → Int32 := (jj_fo (fX10_putsAll_0_2 s) 16 ((jj_fo (fX10_putsAll_0_1 s) 35 ((upd (rX10_puts_0_49 (upd r49 (35) 0) g517 s (r49 32)) (32) (vX10_puts_0 (upd r49 (35) 0) g517 s (r49 32))), r497, (qX10_puts_0_517 (upd r49 (35) 0) g517 s (r49 32)))).1, g500, (jj_fo (fX10_putsAll_0_1 s) 35 ((upd (rX10_puts_0_49 (upd r49 (35) 0) g517 s (r49 32)) (32) (vX10_puts_0 (upd r49 (35) 0) g517 s (r49 32))), r497, (qX10_puts_0_517 (upd r49 (35) 0) g517 s (r49 32)))).2.2)).2.1
def qX10_putsAll_0_517 (r49 : Nat → Int32) (r497 : Nat → Int32) (g500 : Nat → Nat → Int32) (g517 : Nat → Nat → Int32) (s : Int32) : Nat → Nat → Int32 := (jj_fo (fX10_putsAll_0_2 s) 16 ((jj_fo (fX10_putsAll_0_1 s) 35 ((upd (rX10_puts_0_49 (upd r49 (35) 0) g517 s (r49 32)) (32) (vX10_puts_0 (upd r49 (35) 0) g517 s (r49 32))), r497, (qX10_puts_0_517 (upd r49 (35) 0) g517 s (r49 32)))).1, g500, (jj_fo (fX10_putsAll_0_1 s) 35 ((upd (rX10_puts_0_49 (upd r49 (35) 0) g517 s (r49 32)) (32) (vX10_puts_0 (upd r49 (35) 0) g517 s (r49 32))), r497, (qX10_puts_0_517 (upd r49 (35) 0) g517 s (r49 32)))).2.2)).2.2
set_option maxHeartbeats 1000000 in
theorem sp_X10_putsAll_0 {d kc ks : Nat} {h : Nat → Nat → Int32} {g : Nat → Nat → Int64} {Q : jj_Rs → jj_St → Prop} {s : Int32} (hs : vp_in s 3) (kq : Q (.inl none) (jj_S, 782, (jj_rs (jj_gs (jj_gs h 500 16 (qX10_putsAll_0_500 (h 49) (h 497) (jj_gd h 500 16) (jj_gd h 517 3) s)) 517 3 (qX10_putsAll_0_517 (h 49) (h 497) (jj_gd h 500 16) (jj_gd h 517 3) s)) [(49, (rX10_putsAll_0_49 (h 49) (h 497) (jj_gd h 500 16) (jj_gd h 517 3) s)), (497, (rX10_putsAll_0_497 (h 49) (h 497) (jj_gd h 500 16) (jj_gd h 517 3) s))]), g)) : jj_R mX10_putsAll (d + 1) kc ks (jj_S, 782, h, g) 0 [(0, .ref 49), (1, .ref (517 + (s : Int32).toNatClampNeg)), (2, .int 0)] [] Q := by
  refine rr_aload_n 0 rfl rfl dX10_putsAll_0 ?_
  refine rr_iconst 0 rfl dX10_putsAll_1 ?_
  refine rr_putI dX10_putsAll_2 fX10_386 ni10_35 lo_49 sh_49 rfl ?_
  rw [jj_rs_set0 (B := h) (o := 49) (r := (h 49)) rfl]
  refine rr_aload_n 0 rfl rfl dX10_putsAll_5 ?_
  refine rr_aload_n 0 rfl rfl dX10_putsAll_6 ?_
  refine rr_aload_n 1 rfl rfl dX10_putsAll_7 ?_
  refine rr_aload_n 0 rfl rfl dX10_putsAll_8 ?_
  refine rr_getI dX10_putsAll_9 fX10_194 lo_49 sh_49 rfl ?_
  rw [show (jj_rs h [(49, (upd (h 49) (35) 0))]) 49 = (upd (h 49) (35) 0) from rfl]
  rw [show (upd (h 49) (35) 0) 32 = (h 49) 32 from rfl]
  refine rr_iload_n 2 rfl rfl dX10_putsAll_12 ?_
  refine rr_callV (As := [.ref (517 + (s : Int32).toNatClampNeg), .int ((h 49) 32), .int 0]) (rest := [.ref 49]) (kc2 := 0) (ks2 := 0) dX10_putsAll_13 okX10_puts lX10_389 lo_49 sh_49 rfl rfl (Nat.le_of_ble_eq_true rfl) (Nat.le_of_ble_eq_true rfl) rfl (by omega) (by simp [jj_rk] <;> first | exact Or.inl (lr_516 (jj_ink (i := s) hs)) | exact Or.inl (lr_516 (jj_ink (i := s) hs))) (by simp [jj_rk] <;> first | exact Or.inl (lr_516 (jj_ink (i := s) hs)) | exact Or.inl (lr_516 (jj_ink (i := s) hs))) ?_
  refine sp_X10_puts_0 hs (pt_z (r := (h 49))) ?_
  show jj_R _ _ kc ks (jj_S, 782, (jj_rs (jj_gs (jj_rs h [(49, (upd (h 49) (35) 0))]) 517 3 (qX10_puts_0_517 (upd (h 49) (35) 0) (jj_gd (jj_rs h [(49, (upd (h 49) (35) 0))]) 517 3) s ((h 49) 32))) [(49, (rX10_puts_0_49 (upd (h 49) (35) 0) (jj_gd (jj_rs h [(49, (upd (h 49) (35) 0))]) 517 3) s ((h 49) 32)))]), g) 16 [(0, .ref 49), (1, .ref (517 + (s : Int32).toNatClampNeg)), (2, .int 0)] [.int (vX10_puts_0 (upd (h 49) (35) 0) (jj_gd (jj_rs h [(49, (upd (h 49) (35) 0))]) 517 3) s ((h 49) 32)), .ref 49] Q
  try rw [show jj_gd (jj_rs h [(49, (upd (h 49) (35) 0))]) 517 3 = jj_gd h 517 3 from (jj_gd_rs (B := h) (L := [(49, (upd (h 49) (35) 0))]) (b := 517) (len := 3) rfl)]
  rw [jj_gs_rs (B := h) (L := [(49, (upd (h 49) (35) 0))]) (b := 517) (len := 3) rfl]
  rw [jj_rs_rs (B := (jj_gs h 517 3 (qX10_puts_0_517 (upd (h 49) (35) 0) (jj_gd h 517 3) s ((h 49) 32)))) (L := [(49, (upd (h 49) (35) 0))]) (M := [(49, (rX10_puts_0_49 (upd (h 49) (35) 0) (jj_gd h 517 3) s ((h 49) 32)))]) (L2 := [(49, (rX10_puts_0_49 (upd (h 49) (35) 0) (jj_gd h 517 3) s ((h 49) 32)))]) rfl]
  refine rr_putI dX10_putsAll_16 fX10_194 ni10_32 lo_49 sh_49 rfl ?_
  rw [jj_rs_set (B := (jj_gs h 517 3 (qX10_puts_0_517 (upd (h 49) (35) 0) (jj_gd h 517 3) s ((h 49) 32)))) (L := [(49, (rX10_puts_0_49 (upd (h 49) (35) 0) (jj_gd h 517 3) s ((h 49) 32)))]) (L2 := [(49, (upd (rX10_puts_0_49 (upd (h 49) (35) 0) (jj_gd h 517 3) s ((h 49) 32)) (32) (vX10_puts_0 (upd (h 49) (35) 0) (jj_gd h 517 3) s ((h 49) 32))))]) (r := (rX10_puts_0_49 (upd (h 49) (35) 0) (jj_gd h 517 3) s ((h 49) 32))) rfl rfl]
  refine rr_iconst 0 rfl dX10_putsAll_19 ?_
  refine rr_istore_n [(0, .ref 49), (1, .ref (517 + (s : Int32).toNatClampNeg)), (2, .int 0), (3, .int 0)] dX10_putsAll_20 rfl (by decide) rfl ?_
  refine jj_Rh (jj_rs_add (B := (jj_gs h 517 3 (qX10_puts_0_517 (upd (h 49) (35) 0) (jj_gd h 517 3) s ((h 49) 32)))) (L := [(49, (upd (rX10_puts_0_49 (upd (h 49) (35) 0) (jj_gd h 517 3) s ((h 49) 32)) (32) (vX10_puts_0 (upd (h 49) (35) 0) (jj_gd h 517 3) s ((h 49) 32))))]) (L2 := [(49, (upd (rX10_puts_0_49 (upd (h 49) (35) 0) (jj_gd h 517 3) s ((h 49) 32)) (32) (vX10_puts_0 (upd (h 49) (35) 0) (jj_gd h 517 3) s ((h 49) 32)))), (497, (h 497))]) (o := 497) (r := (h 497)) rfl rfl) ?_
  refine jj_for (fun k1 (a1 : (Nat → Int32) × (Nat → Int32) × (Nat → Nat → Int32)) => (a1.1 35 = nI (1 + k1)) → jj_R _ _ kc ks (jj_S, 782, (jj_rs (jj_gs h 517 3 a1.2.2) [(49, a1.1), (497, a1.2.1)]), g) 21 [(0, .ref 49), (1, .ref (517 + (s : Int32).toNatClampNeg)), (2, .int 0), (3, .int (nI k1))] [] Q) (fX10_putsAll_0_1 s) 35 ((upd (rX10_puts_0_49 (upd (h 49) (35) 0) (jj_gd h 517 3) s ((h 49) 32)) (32) (vX10_puts_0 (upd (h 49) (35) 0) (jj_gd h 517 3) s ((h 49) 32))), (h 497), (qX10_puts_0_517 (upd (h 49) (35) 0) (jj_gd h 517 3) s ((h 49) 32))) ?_ ?_ rfl
  · intro k1 hk1 ih1
    generalize jj_fo _ k1 _ = a1 at ih1 ⊢
    try dsimp only at ih1 ⊢
    intro hi1
    refine rr_iload_n 3 rfl rfl dX10_putsAll_21 ?_
    refine rr_bipush 35 rfl dX10_putsAll_22 ?_
    refine rr_icmp_ge dX10_putsAll_24 (fun c => absurd c (nI_ge (a := k1) (b := 35) (by omega) (by omega))) (fun _ => ?_)
    refine rr_aload_n 0 rfl rfl dX10_putsAll_27 ?_
    refine rr_getR dX10_putsAll_28 fX10_61 lo_49 sh_49 rfl ?_
    refine rr_iload_n 3 rfl rfl dX10_putsAll_31 ?_
    refine rr_aload_n 0 rfl rfl dX10_putsAll_32 ?_
    refine rr_aload_n 1 rfl rfl dX10_putsAll_33 ?_
    refine rr_aload_n 0 rfl rfl dX10_putsAll_34 ?_
    refine rr_getR dX10_putsAll_35 fX10_61 lo_49 sh_49 rfl ?_
    refine rr_iload_n 3 rfl rfl dX10_putsAll_38 ?_
    refine rr_iaload dX10_putsAll_39 lo_497 sh_497 (vp_in_nI (by omega) (by decide)) ?_
    rw [show (jj_rs (jj_gs h 517 3 a1.2.2) [(49, a1.1), (497, a1.2.1)]) 497 = a1.2.1 from rfl]
    refine rr_iload_n 2 rfl rfl dX10_putsAll_40 ?_
    refine rr_callV (As := [.ref (517 + (s : Int32).toNatClampNeg), .int (a1.2.1 ((nI k1) : Int32).toNatClampNeg), .int 0]) (rest := [.int (nI k1), .ref 497]) (kc2 := 0) (ks2 := 0) dX10_putsAll_41 okX10_puts lX10_389 lo_49 sh_49 rfl rfl (Nat.le_of_ble_eq_true rfl) (Nat.le_of_ble_eq_true rfl) rfl (by omega) (by simp [jj_rk] <;> first | exact Or.inl (lr_516 (jj_ink (i := s) hs)) | exact Or.inl (lr_516 (jj_ink (i := s) hs))) (by simp [jj_rk] <;> first | exact Or.inl (lr_516 (jj_ink (i := s) hs)) | exact Or.inl (lr_516 (jj_ink (i := s) hs))) ?_
    refine sp_X10_puts_0 hs (pt_in hi1 (by omega)) ?_
    show jj_R _ _ kc ks (jj_S, 782, (jj_rs (jj_gs (jj_rs (jj_gs h 517 3 a1.2.2) [(49, a1.1), (497, a1.2.1)]) 517 3 (qX10_puts_0_517 a1.1 (jj_gd (jj_rs (jj_gs h 517 3 a1.2.2) [(49, a1.1), (497, a1.2.1)]) 517 3) s (a1.2.1 ((nI k1) : Int32).toNatClampNeg))) [(49, (rX10_puts_0_49 a1.1 (jj_gd (jj_rs (jj_gs h 517 3 a1.2.2) [(49, a1.1), (497, a1.2.1)]) 517 3) s (a1.2.1 ((nI k1) : Int32).toNatClampNeg)))]), g) 44 [(0, .ref 49), (1, .ref (517 + (s : Int32).toNatClampNeg)), (2, .int 0), (3, .int (nI k1))] [.int (vX10_puts_0 a1.1 (jj_gd (jj_rs (jj_gs h 517 3 a1.2.2) [(49, a1.1), (497, a1.2.1)]) 517 3) s (a1.2.1 ((nI k1) : Int32).toNatClampNeg)), .int (nI k1), .ref 497] Q
    try rw [show jj_gd (jj_rs (jj_gs h 517 3 a1.2.2) [(49, a1.1), (497, a1.2.1)]) 517 3 = jj_gc 3 a1.2.2 from ((jj_gd_rs (B := (jj_gs h 517 3 a1.2.2)) (L := [(49, a1.1), (497, a1.2.1)]) (b := 517) (len := 3) rfl).trans (jj_gd_gss (B := h) (b := 517) (len := 3) (G := a1.2.2)))]
    rw [jj_gs_rs (B := (jj_gs h 517 3 a1.2.2)) (L := [(49, a1.1), (497, a1.2.1)]) (b := 517) (len := 3) rfl]
    rw [jj_gs_gs]
    rw [jj_rs_rs (B := (jj_gs h 517 3 (qX10_puts_0_517 a1.1 (jj_gc 3 a1.2.2) s (a1.2.1 ((nI k1) : Int32).toNatClampNeg)))) (L := [(49, a1.1), (497, a1.2.1)]) (M := [(49, (rX10_puts_0_49 a1.1 (jj_gc 3 a1.2.2) s (a1.2.1 ((nI k1) : Int32).toNatClampNeg)))]) (L2 := [(49, (rX10_puts_0_49 a1.1 (jj_gc 3 a1.2.2) s (a1.2.1 ((nI k1) : Int32).toNatClampNeg))), (497, a1.2.1)]) rfl]
    refine rr_iastore dX10_putsAll_44 lo_497 sh_497 (vp_in_nI (by omega) (by decide)) ?_
    rw [jj_rs_set (B := (jj_gs h 517 3 (qX10_puts_0_517 a1.1 (jj_gc 3 a1.2.2) s (a1.2.1 ((nI k1) : Int32).toNatClampNeg)))) (L := [(49, (rX10_puts_0_49 a1.1 (jj_gc 3 a1.2.2) s (a1.2.1 ((nI k1) : Int32).toNatClampNeg))), (497, a1.2.1)]) (L2 := [(49, (rX10_puts_0_49 a1.1 (jj_gc 3 a1.2.2) s (a1.2.1 ((nI k1) : Int32).toNatClampNeg))), (497, (upd a1.2.1 (((nI k1) : Int32).toNatClampNeg) (vX10_puts_0 a1.1 (jj_gc 3 a1.2.2) s (a1.2.1 ((nI k1) : Int32).toNatClampNeg))))]) (r := a1.2.1) rfl rfl]
    refine rr_iinc 3 1 [(0, .ref 49), (1, .ref (517 + (s : Int32).toNatClampNeg)), (2, .int 0), (3, .int ((nI k1) + 1))] dX10_putsAll_45 rfl rfl (by decide) rfl ?_
    refine rr_goto dX10_putsAll_48 ?_
    simp only [(nI_clamp (show k1 < 2 ^ 31 by omega)), fX10_putsAll_0_1] at ih1
    simpa only [nI_1, (nI_clamp (show k1 < 2 ^ 31 by omega)), fX10_putsAll_0_1] using ih1 (pt_up hi1)
  · try dsimp only
    intro hi1
    refine rr_iload_n 3 rfl rfl dX10_putsAll_21 ?_
    refine rr_bipush 35 rfl dX10_putsAll_22 ?_
    refine rr_icmp_ge dX10_putsAll_24 (fun _ => ?_) (fun c => absurd (jj_le_rf _) c)
    refine rr_iconst 0 rfl dX10_putsAll_51 ?_
    refine rr_istore_n [(0, .ref 49), (1, .ref (517 + (s : Int32).toNatClampNeg)), (2, .int 0), (3, .int 0)] dX10_putsAll_52 rfl (by decide) rfl ?_
    refine jj_Rh (jj_gs_idi (B := h) (L := [(49, (jj_fo (fX10_putsAll_0_1 s) 35 ((upd (rX10_puts_0_49 (upd (h 49) (35) 0) (jj_gd h 517 3) s ((h 49) 32)) (32) (vX10_puts_0 (upd (h 49) (35) 0) (jj_gd h 517 3) s ((h 49) 32))), (h 497), (qX10_puts_0_517 (upd (h 49) (35) 0) (jj_gd h 517 3) s ((h 49) 32)))).1), (497, (jj_fo (fX10_putsAll_0_1 s) 35 ((upd (rX10_puts_0_49 (upd (h 49) (35) 0) (jj_gd h 517 3) s ((h 49) 32)) (32) (vX10_puts_0 (upd (h 49) (35) 0) (jj_gd h 517 3) s ((h 49) 32))), (h 497), (qX10_puts_0_517 (upd (h 49) (35) 0) (jj_gd h 517 3) s ((h 49) 32)))).2.1)]) (b := 500) (len := 16) (b2 := 517) (len2 := 3) (G2 := (jj_fo (fX10_putsAll_0_1 s) 35 ((upd (rX10_puts_0_49 (upd (h 49) (35) 0) (jj_gd h 517 3) s ((h 49) 32)) (32) (vX10_puts_0 (upd (h 49) (35) 0) (jj_gd h 517 3) s ((h 49) 32))), (h 497), (qX10_puts_0_517 (upd (h 49) (35) 0) (jj_gd h 517 3) s ((h 49) 32)))).2.2)) ?_
    refine jj_for (fun k2 (a2 : (Nat → Int32) × (Nat → Nat → Int32) × (Nat → Nat → Int32)) => (a2.1 35 = nI (36 + 35 * k2)) → jj_R _ _ kc ks (jj_S, 782, (jj_rs (jj_gs (jj_gs h 500 16 a2.2.1) 517 3 a2.2.2) [(49, a2.1), (497, (jj_fo (fX10_putsAll_0_1 s) 35 ((upd (rX10_puts_0_49 (upd (h 49) (35) 0) (jj_gd h 517 3) s ((h 49) 32)) (32) (vX10_puts_0 (upd (h 49) (35) 0) (jj_gd h 517 3) s ((h 49) 32))), (h 497), (qX10_puts_0_517 (upd (h 49) (35) 0) (jj_gd h 517 3) s ((h 49) 32)))).2.1)]), g) 53 [(0, .ref 49), (1, .ref (517 + (s : Int32).toNatClampNeg)), (2, .int 0), (3, .int (nI k2))] [] Q) (fX10_putsAll_0_2 s) 16 ((jj_fo (fX10_putsAll_0_1 s) 35 ((upd (rX10_puts_0_49 (upd (h 49) (35) 0) (jj_gd h 517 3) s ((h 49) 32)) (32) (vX10_puts_0 (upd (h 49) (35) 0) (jj_gd h 517 3) s ((h 49) 32))), (h 497), (qX10_puts_0_517 (upd (h 49) (35) 0) (jj_gd h 517 3) s ((h 49) 32)))).1, (jj_gd h 500 16), (jj_fo (fX10_putsAll_0_1 s) 35 ((upd (rX10_puts_0_49 (upd (h 49) (35) 0) (jj_gd h 517 3) s ((h 49) 32)) (32) (vX10_puts_0 (upd (h 49) (35) 0) (jj_gd h 517 3) s ((h 49) 32))), (h 497), (qX10_puts_0_517 (upd (h 49) (35) 0) (jj_gd h 517 3) s ((h 49) 32)))).2.2) ?_ ?_ hi1
    · intro k2 hk2 ih2
      generalize jj_fo _ k2 _ = a2 at ih2 ⊢
      try dsimp only at ih2 ⊢
      intro hi2
      refine rr_iload_n 3 rfl rfl dX10_putsAll_53 ?_
      refine rr_bipush 16 rfl dX10_putsAll_54 ?_
      refine rr_icmp_ge dX10_putsAll_56 (fun c => absurd c (nI_ge (a := k2) (b := 16) (by omega) (by omega))) (fun _ => ?_)
      refine rr_iconst 0 rfl dX10_putsAll_59 ?_
      refine rr_istore [(0, .ref 49), (1, .ref (517 + (s : Int32).toNatClampNeg)), (2, .int 0), (3, .int (nI k2)), (4, .int 0)] dX10_putsAll_60 (by decide) rfl ?_
      refine jj_for (fun k3 (a3 : (Nat → Int32) × (Nat → Nat → Int32) × (Nat → Nat → Int32)) => (a3.1 35 = nI (36 + 35 * k2 + k3)) → jj_R _ _ kc ks (jj_S, 782, (jj_rs (jj_gs (jj_gs h 500 16 a3.2.1) 517 3 a3.2.2) [(49, a3.1), (497, (jj_fo (fX10_putsAll_0_1 s) 35 ((upd (rX10_puts_0_49 (upd (h 49) (35) 0) (jj_gd h 517 3) s ((h 49) 32)) (32) (vX10_puts_0 (upd (h 49) (35) 0) (jj_gd h 517 3) s ((h 49) 32))), (h 497), (qX10_puts_0_517 (upd (h 49) (35) 0) (jj_gd h 517 3) s ((h 49) 32)))).2.1)]), g) 62 [(0, .ref 49), (1, .ref (517 + (s : Int32).toNatClampNeg)), (2, .int 0), (3, .int (nI k2)), (4, .int (nI k3))] [] Q) (fX10_putsAll_0_3 s k2) 35 (a2.1, a2.2.1, a2.2.2) ?_ ?_ hi2
      · intro k3 hk3 ih3
        generalize jj_fo _ k3 _ = a3 at ih3 ⊢
        try dsimp only at ih3 ⊢
        intro hi3
        refine rr_iload 4 rfl dX10_putsAll_62 ?_
        refine rr_bipush 35 rfl dX10_putsAll_64 ?_
        refine rr_icmp_ge dX10_putsAll_66 (fun c => absurd c (nI_ge (a := k3) (b := 35) (by omega) (by omega))) (fun _ => ?_)
        refine rr_aload_n 0 rfl rfl dX10_putsAll_69 ?_
        refine rr_getR dX10_putsAll_70 fX10_67 lo_49 sh_49 rfl ?_
        refine rr_iload_n 3 rfl rfl dX10_putsAll_73 ?_
        refine rr_aaload dX10_putsAll_74 lo_499 sh_499 (vp_in_nI (by omega) (by decide)) ?_
        refine rr_iload 4 rfl dX10_putsAll_75 ?_
        refine rr_aload_n 0 rfl rfl dX10_putsAll_77 ?_
        refine rr_aload_n 1 rfl rfl dX10_putsAll_78 ?_
        refine rr_aload_n 0 rfl rfl dX10_putsAll_79 ?_
        refine rr_getR dX10_putsAll_80 fX10_67 lo_49 sh_49 rfl ?_
        refine rr_iload_n 3 rfl rfl dX10_putsAll_83 ?_
        refine rr_aaload dX10_putsAll_84 lo_499 sh_499 (vp_in_nI (by omega) (by decide)) ?_
        refine rr_iload 4 rfl dX10_putsAll_85 ?_
        refine rr_iaload dX10_putsAll_87 (lr_499 (jj_ink (i := (nI k2)) (vp_in_nI (by omega) (by decide)))) (sr_499 (jj_ink (i := (nI k2)) (vp_in_nI (by omega) (by decide)))) (vp_in_nI (by omega) (by decide)) ?_
        rw [show (jj_rs (jj_gs (jj_gs h 500 16 a3.2.1) 517 3 a3.2.2) [(49, a3.1), (497, (jj_fo (fX10_putsAll_0_1 s) 35 ((upd (rX10_puts_0_49 (upd (h 49) (35) 0) (jj_gd h 517 3) s ((h 49) 32)) (32) (vX10_puts_0 (upd (h 49) (35) 0) (jj_gd h 517 3) s ((h 49) 32))), (h 497), (qX10_puts_0_517 (upd (h 49) (35) 0) (jj_gd h 517 3) s ((h 49) 32)))).2.1)]) (500 + ((nI k2) : Int32).toNatClampNeg) = a3.2.1 ((nI k2) : Int32).toNatClampNeg from jj_gs_at2 (L := [(49, a3.1), (497, (jj_fo (fX10_putsAll_0_1 s) 35 ((upd (rX10_puts_0_49 (upd (h 49) (35) 0) (jj_gd h 517 3) s ((h 49) 32)) (32) (vX10_puts_0 (upd (h 49) (35) 0) (jj_gd h 517 3) s ((h 49) 32))), (h 497), (qX10_puts_0_517 (upd (h 49) (35) 0) (jj_gd h 517 3) s ((h 49) 32)))).2.1)]) rfl rfl (jj_ink (i := (nI k2)) (vp_in_nI (by omega) (by decide)))]
        refine rr_iload_n 2 rfl rfl dX10_putsAll_88 ?_
        refine rr_callV (As := [.ref (517 + (s : Int32).toNatClampNeg), .int (a3.2.1 ((nI k2) : Int32).toNatClampNeg ((nI k3) : Int32).toNatClampNeg), .int 0]) (rest := [.int (nI k3), .ref (500 + ((nI k2) : Int32).toNatClampNeg)]) (kc2 := 0) (ks2 := 0) dX10_putsAll_89 okX10_puts lX10_389 lo_49 sh_49 rfl rfl (Nat.le_of_ble_eq_true rfl) (Nat.le_of_ble_eq_true rfl) rfl (by omega) (by simp [jj_rk] <;> first | exact Or.inl (lr_516 (jj_ink (i := s) hs)) | exact Or.inl (lr_499 (jj_ink (i := (nI k2)) (vp_in_nI (by omega) (by decide)))) | exact Or.inl (lr_516 (jj_ink (i := s) hs))) (by simp [jj_rk] <;> first | exact Or.inl (lr_516 (jj_ink (i := s) hs)) | exact Or.inl (lr_499 (jj_ink (i := (nI k2)) (vp_in_nI (by omega) (by decide)))) | exact Or.inl (lr_516 (jj_ink (i := s) hs))) ?_
        refine sp_X10_puts_0 hs (pt_in hi3 (by omega)) ?_
        show jj_R _ _ kc ks (jj_S, 782, (jj_rs (jj_gs (jj_rs (jj_gs (jj_gs h 500 16 a3.2.1) 517 3 a3.2.2) [(49, a3.1), (497, (jj_fo (fX10_putsAll_0_1 s) 35 ((upd (rX10_puts_0_49 (upd (h 49) (35) 0) (jj_gd h 517 3) s ((h 49) 32)) (32) (vX10_puts_0 (upd (h 49) (35) 0) (jj_gd h 517 3) s ((h 49) 32))), (h 497), (qX10_puts_0_517 (upd (h 49) (35) 0) (jj_gd h 517 3) s ((h 49) 32)))).2.1)]) 517 3 (qX10_puts_0_517 a3.1 (jj_gd (jj_rs (jj_gs (jj_gs h 500 16 a3.2.1) 517 3 a3.2.2) [(49, a3.1), (497, (jj_fo (fX10_putsAll_0_1 s) 35 ((upd (rX10_puts_0_49 (upd (h 49) (35) 0) (jj_gd h 517 3) s ((h 49) 32)) (32) (vX10_puts_0 (upd (h 49) (35) 0) (jj_gd h 517 3) s ((h 49) 32))), (h 497), (qX10_puts_0_517 (upd (h 49) (35) 0) (jj_gd h 517 3) s ((h 49) 32)))).2.1)]) 517 3) s (a3.2.1 ((nI k2) : Int32).toNatClampNeg ((nI k3) : Int32).toNatClampNeg))) [(49, (rX10_puts_0_49 a3.1 (jj_gd (jj_rs (jj_gs (jj_gs h 500 16 a3.2.1) 517 3 a3.2.2) [(49, a3.1), (497, (jj_fo (fX10_putsAll_0_1 s) 35 ((upd (rX10_puts_0_49 (upd (h 49) (35) 0) (jj_gd h 517 3) s ((h 49) 32)) (32) (vX10_puts_0 (upd (h 49) (35) 0) (jj_gd h 517 3) s ((h 49) 32))), (h 497), (qX10_puts_0_517 (upd (h 49) (35) 0) (jj_gd h 517 3) s ((h 49) 32)))).2.1)]) 517 3) s (a3.2.1 ((nI k2) : Int32).toNatClampNeg ((nI k3) : Int32).toNatClampNeg)))]), g) 92 [(0, .ref 49), (1, .ref (517 + (s : Int32).toNatClampNeg)), (2, .int 0), (3, .int (nI k2)), (4, .int (nI k3))] [.int (vX10_puts_0 a3.1 (jj_gd (jj_rs (jj_gs (jj_gs h 500 16 a3.2.1) 517 3 a3.2.2) [(49, a3.1), (497, (jj_fo (fX10_putsAll_0_1 s) 35 ((upd (rX10_puts_0_49 (upd (h 49) (35) 0) (jj_gd h 517 3) s ((h 49) 32)) (32) (vX10_puts_0 (upd (h 49) (35) 0) (jj_gd h 517 3) s ((h 49) 32))), (h 497), (qX10_puts_0_517 (upd (h 49) (35) 0) (jj_gd h 517 3) s ((h 49) 32)))).2.1)]) 517 3) s (a3.2.1 ((nI k2) : Int32).toNatClampNeg ((nI k3) : Int32).toNatClampNeg)), .int (nI k3), .ref (500 + ((nI k2) : Int32).toNatClampNeg)] Q
        try rw [show jj_gd (jj_rs (jj_gs (jj_gs h 500 16 a3.2.1) 517 3 a3.2.2) [(49, a3.1), (497, (jj_fo (fX10_putsAll_0_1 s) 35 ((upd (rX10_puts_0_49 (upd (h 49) (35) 0) (jj_gd h 517 3) s ((h 49) 32)) (32) (vX10_puts_0 (upd (h 49) (35) 0) (jj_gd h 517 3) s ((h 49) 32))), (h 497), (qX10_puts_0_517 (upd (h 49) (35) 0) (jj_gd h 517 3) s ((h 49) 32)))).2.1)]) 517 3 = jj_gc 3 a3.2.2 from ((jj_gd_rs (B := (jj_gs (jj_gs h 500 16 a3.2.1) 517 3 a3.2.2)) (L := [(49, a3.1), (497, (jj_fo (fX10_putsAll_0_1 s) 35 ((upd (rX10_puts_0_49 (upd (h 49) (35) 0) (jj_gd h 517 3) s ((h 49) 32)) (32) (vX10_puts_0 (upd (h 49) (35) 0) (jj_gd h 517 3) s ((h 49) 32))), (h 497), (qX10_puts_0_517 (upd (h 49) (35) 0) (jj_gd h 517 3) s ((h 49) 32)))).2.1)]) (b := 517) (len := 3) rfl).trans (jj_gd_gss (B := (jj_gs h 500 16 a3.2.1)) (b := 517) (len := 3) (G := a3.2.2)))]
        rw [jj_gs_rs (B := (jj_gs (jj_gs h 500 16 a3.2.1) 517 3 a3.2.2)) (L := [(49, a3.1), (497, (jj_fo (fX10_putsAll_0_1 s) 35 ((upd (rX10_puts_0_49 (upd (h 49) (35) 0) (jj_gd h 517 3) s ((h 49) 32)) (32) (vX10_puts_0 (upd (h 49) (35) 0) (jj_gd h 517 3) s ((h 49) 32))), (h 497), (qX10_puts_0_517 (upd (h 49) (35) 0) (jj_gd h 517 3) s ((h 49) 32)))).2.1)]) (b := 517) (len := 3) rfl]
        rw [jj_gs_gs]
        rw [jj_rs_rs (B := (jj_gs (jj_gs h 500 16 a3.2.1) 517 3 (qX10_puts_0_517 a3.1 (jj_gc 3 a3.2.2) s (a3.2.1 ((nI k2) : Int32).toNatClampNeg ((nI k3) : Int32).toNatClampNeg)))) (L := [(49, a3.1), (497, (jj_fo (fX10_putsAll_0_1 s) 35 ((upd (rX10_puts_0_49 (upd (h 49) (35) 0) (jj_gd h 517 3) s ((h 49) 32)) (32) (vX10_puts_0 (upd (h 49) (35) 0) (jj_gd h 517 3) s ((h 49) 32))), (h 497), (qX10_puts_0_517 (upd (h 49) (35) 0) (jj_gd h 517 3) s ((h 49) 32)))).2.1)]) (M := [(49, (rX10_puts_0_49 a3.1 (jj_gc 3 a3.2.2) s (a3.2.1 ((nI k2) : Int32).toNatClampNeg ((nI k3) : Int32).toNatClampNeg)))]) (L2 := [(49, (rX10_puts_0_49 a3.1 (jj_gc 3 a3.2.2) s (a3.2.1 ((nI k2) : Int32).toNatClampNeg ((nI k3) : Int32).toNatClampNeg))), (497, (jj_fo (fX10_putsAll_0_1 s) 35 ((upd (rX10_puts_0_49 (upd (h 49) (35) 0) (jj_gd h 517 3) s ((h 49) 32)) (32) (vX10_puts_0 (upd (h 49) (35) 0) (jj_gd h 517 3) s ((h 49) 32))), (h 497), (qX10_puts_0_517 (upd (h 49) (35) 0) (jj_gd h 517 3) s ((h 49) 32)))).2.1)]) rfl]
        refine rr_iastore dX10_putsAll_92 (lr_499 (jj_ink (i := (nI k2)) (vp_in_nI (by omega) (by decide)))) (sr_499 (jj_ink (i := (nI k2)) (vp_in_nI (by omega) (by decide)))) (vp_in_nI (by omega) (by decide)) ?_
        refine jj_Rh (jj_gs_set2 (B := h) (L := [(49, (rX10_puts_0_49 a3.1 (jj_gc 3 a3.2.2) s (a3.2.1 ((nI k2) : Int32).toNatClampNeg ((nI k3) : Int32).toNatClampNeg))), (497, (jj_fo (fX10_putsAll_0_1 s) 35 ((upd (rX10_puts_0_49 (upd (h 49) (35) 0) (jj_gd h 517 3) s ((h 49) 32)) (32) (vX10_puts_0 (upd (h 49) (35) 0) (jj_gd h 517 3) s ((h 49) 32))), (h 497), (qX10_puts_0_517 (upd (h 49) (35) 0) (jj_gd h 517 3) s ((h 49) 32)))).2.1)]) (b := 500) (len := 16) (G := a3.2.1) (b2 := 517) (len2 := 3) (G2 := (qX10_puts_0_517 a3.1 (jj_gc 3 a3.2.2) s (a3.2.1 ((nI k2) : Int32).toNatClampNeg ((nI k3) : Int32).toNatClampNeg))) (x := ((nI k2) : Int32).toNatClampNeg) rfl rfl (jj_ink (i := (nI k2)) (vp_in_nI (by omega) (by decide)))) ?_
        refine rr_iinc 4 1 [(0, .ref 49), (1, .ref (517 + (s : Int32).toNatClampNeg)), (2, .int 0), (3, .int (nI k2)), (4, .int ((nI k3) + 1))] dX10_putsAll_93 rfl rfl (by decide) rfl ?_
        refine rr_goto dX10_putsAll_96 ?_
        simp only [(nI_clamp (show k3 < 2 ^ 31 by omega)), fX10_putsAll_0_3] at ih3
        simpa only [nI_1, (nI_clamp (show k3 < 2 ^ 31 by omega)), fX10_putsAll_0_3] using ih3 (pt_up hi3)
      · try dsimp only
        intro hi3
        refine rr_iload 4 rfl dX10_putsAll_62 ?_
        refine rr_bipush 35 rfl dX10_putsAll_64 ?_
        refine rr_icmp_ge dX10_putsAll_66 (fun _ => ?_) (fun c => absurd (jj_le_rf _) c)
        refine rr_iinc 3 1 [(0, .ref 49), (1, .ref (517 + (s : Int32).toNatClampNeg)), (2, .int 0), (3, .int ((nI k2) + 1)), (4, .int (nI 35))] dX10_putsAll_99 rfl rfl (by decide) rfl ?_
        refine rr_goto dX10_putsAll_102 ?_
        refine rr_drop (ls := [(0, .ref 49), (1, .ref (517 + (s : Int32).toNatClampNeg)), (2, .int 0), (3, .int ((nI k2) + 1))]) [0, 1, 2, 3] rfl ?_
        simp only [(nI_clamp (show k2 < 2 ^ 31 by omega)), fX10_putsAll_0_2] at ih2
        simpa only [nI_1, (nI_clamp (show k2 < 2 ^ 31 by omega)), fX10_putsAll_0_2] using ih2 (pt_o hi3)
    · try dsimp only
      intro hi2
      refine rr_iload_n 3 rfl rfl dX10_putsAll_53 ?_
      refine rr_bipush 16 rfl dX10_putsAll_54 ?_
      refine rr_icmp_ge dX10_putsAll_56 (fun _ => ?_) (fun c => absurd (jj_le_rf _) c)
      refine rr_return dX10_putsAll_105 rfl ?_
      simpa only [rX10_putsAll_0_49, rX10_putsAll_0_497, qX10_putsAll_0_500, qX10_putsAll_0_517] using kq
def fX10_putsAll_1_1 (g517 : Nat → Nat → Int32) (s : Int32) (k1 : Nat) (a1 : (Nat → Int32) × (Nat → Int32)) : (Nat → Int32) × (Nat → Int32) := ((rX10_puts_1_49 a1.1 g517 s), (upd a1.2 (k1) (vX10_puts_1 a1.1 g517 s)))
def fX10_putsAll_1_3 (g517 : Nat → Nat → Int32) (s : Int32) (k2 : Nat) (k3 : Nat) (a3 : (Nat → Int32) × (Nat → Nat → Int32)) : (Nat → Int32) × (Nat → Nat → Int32) := ((rX10_puts_1_49 a3.1 g517 s), (jj_ug a3.2 (((nI k2) : Int32).toNatClampNeg) (k3) (vX10_puts_1 a3.1 g517 s)))
def fX10_putsAll_1_2 (g517 : Nat → Nat → Int32) (s : Int32) (k2 : Nat) (a2 : (Nat → Int32) × (Nat → Nat → Int32)) : (Nat → Int32) × (Nat → Nat → Int32) := ((jj_fo (fX10_putsAll_1_3 g517 s k2) 35 (a2.1, a2.2)).1, (jj_fo (fX10_putsAll_1_3 g517 s k2) 35 (a2.1, a2.2)).2)
def rX10_putsAll_1_49 (r49 : Nat → Int32) (r497 : Nat → Int32) (g500 : Nat → Nat → Int32) (g517 : Nat → Nat → Int32) (s : Int32) : Nat → Int32 := (jj_fo (fX10_putsAll_1_2 g517 s) 16 ((jj_fo (fX10_putsAll_1_1 g517 s) 35 ((upd (rX10_puts_1_49 (upd r49 (35) 0) g517 s) (32) (vX10_puts_1 (upd r49 (35) 0) g517 s)), r497)).1, g500)).1
def rX10_putsAll_1_497 (r49 : Nat → Int32) (r497 : Nat → Int32) (g500 : Nat → Nat → Int32) (g517 : Nat → Nat → Int32) (s : Int32) : Nat → Int32 := (jj_fo (fX10_putsAll_1_1 g517 s) 35 ((upd (rX10_puts_1_49 (upd r49 (35) 0) g517 s) (32) (vX10_puts_1 (upd r49 (35) 0) g517 s)), r497)).2
def qX10_putsAll_1_500 (r49 : Nat → Int32) (r497 : Nat → Int32) (g500 : Nat → Nat → Int32) (g517 : Nat → Nat → Int32) (s : Int32) : Nat → Nat → Int32 := (jj_fo (fX10_putsAll_1_2 g517 s) 16 ((jj_fo (fX10_putsAll_1_1 g517 s) 35 ((upd (rX10_puts_1_49 (upd r49 (35) 0) g517 s) (32) (vX10_puts_1 (upd r49 (35) 0) g517 s)), r497)).1, g500)).2
set_option maxHeartbeats 1000000 in
theorem sp_X10_putsAll_1 {d kc ks : Nat} {h : Nat → Nat → Int32} {g : Nat → Nat → Int64} {Q : jj_Rs → jj_St → Prop} {s : Int32} (hs : vp_in s 3) (kq : Q (.inl none) (jj_S, 782, (jj_rs (jj_gs h 500 16 (qX10_putsAll_1_500 (h 49) (h 497) (jj_gd h 500 16) (jj_gd h 517 3) s)) [(49, (rX10_putsAll_1_49 (h 49) (h 497) (jj_gd h 500 16) (jj_gd h 517 3) s)), (497, (rX10_putsAll_1_497 (h 49) (h 497) (jj_gd h 500 16) (jj_gd h 517 3) s))]), g)) : jj_R mX10_putsAll (d + 1) kc ks (jj_S, 782, h, g) 0 [(0, .ref 49), (1, .ref (517 + (s : Int32).toNatClampNeg)), (2, .int 1)] [] Q := by
  refine rr_aload_n 0 rfl rfl dX10_putsAll_0 ?_
  refine rr_iconst 0 rfl dX10_putsAll_1 ?_
  refine rr_putI dX10_putsAll_2 fX10_386 ni10_35 lo_49 sh_49 rfl ?_
  rw [jj_rs_set0 (B := h) (o := 49) (r := (h 49)) rfl]
  refine rr_aload_n 0 rfl rfl dX10_putsAll_5 ?_
  refine rr_aload_n 0 rfl rfl dX10_putsAll_6 ?_
  refine rr_aload_n 1 rfl rfl dX10_putsAll_7 ?_
  refine rr_aload_n 0 rfl rfl dX10_putsAll_8 ?_
  refine rr_getI dX10_putsAll_9 fX10_194 lo_49 sh_49 rfl ?_
  rw [show (jj_rs h [(49, (upd (h 49) (35) 0))]) 49 = (upd (h 49) (35) 0) from rfl]
  rw [show (upd (h 49) (35) 0) 32 = (h 49) 32 from rfl]
  refine rr_iload_n 2 rfl rfl dX10_putsAll_12 ?_
  refine rr_callV (As := [.ref (517 + (s : Int32).toNatClampNeg), .int ((h 49) 32), .int 1]) (rest := [.ref 49]) (kc2 := 0) (ks2 := 0) dX10_putsAll_13 okX10_puts lX10_389 lo_49 sh_49 rfl rfl (Nat.le_of_ble_eq_true rfl) (Nat.le_of_ble_eq_true rfl) rfl (by omega) (by simp [jj_rk] <;> first | exact Or.inl (lr_516 (jj_ink (i := s) hs)) | exact Or.inl (lr_516 (jj_ink (i := s) hs))) (by simp [jj_rk] <;> first | exact Or.inl (lr_516 (jj_ink (i := s) hs)) | exact Or.inl (lr_516 (jj_ink (i := s) hs))) ?_
  refine sp_X10_puts_1 hs (pt_z (r := (h 49))) ?_
  show jj_R _ _ kc ks (jj_S, 782, (jj_rs (jj_rs h [(49, (upd (h 49) (35) 0))]) [(49, (rX10_puts_1_49 (upd (h 49) (35) 0) (jj_gd (jj_rs h [(49, (upd (h 49) (35) 0))]) 517 3) s))]), g) 16 [(0, .ref 49), (1, .ref (517 + (s : Int32).toNatClampNeg)), (2, .int 1)] [.int (vX10_puts_1 (upd (h 49) (35) 0) (jj_gd (jj_rs h [(49, (upd (h 49) (35) 0))]) 517 3) s), .ref 49] Q
  rw [jj_rs_rs (B := h) (L := [(49, (upd (h 49) (35) 0))]) (M := [(49, (rX10_puts_1_49 (upd (h 49) (35) 0) (jj_gd (jj_rs h [(49, (upd (h 49) (35) 0))]) 517 3) s))]) (L2 := [(49, (rX10_puts_1_49 (upd (h 49) (35) 0) (jj_gd (jj_rs h [(49, (upd (h 49) (35) 0))]) 517 3) s))]) rfl]
  try rw [show jj_gd (jj_rs h [(49, (upd (h 49) (35) 0))]) 517 3 = jj_gd h 517 3 from (jj_gd_rs (B := h) (L := [(49, (upd (h 49) (35) 0))]) (b := 517) (len := 3) rfl)]
  refine rr_putI dX10_putsAll_16 fX10_194 ni10_32 lo_49 sh_49 rfl ?_
  rw [jj_rs_set (B := h) (L := [(49, (rX10_puts_1_49 (upd (h 49) (35) 0) (jj_gd h 517 3) s))]) (L2 := [(49, (upd (rX10_puts_1_49 (upd (h 49) (35) 0) (jj_gd h 517 3) s) (32) (vX10_puts_1 (upd (h 49) (35) 0) (jj_gd h 517 3) s)))]) (r := (rX10_puts_1_49 (upd (h 49) (35) 0) (jj_gd h 517 3) s)) rfl rfl]
  refine rr_iconst 0 rfl dX10_putsAll_19 ?_
  refine rr_istore_n [(0, .ref 49), (1, .ref (517 + (s : Int32).toNatClampNeg)), (2, .int 1), (3, .int 0)] dX10_putsAll_20 rfl (by decide) rfl ?_
  refine jj_Rh (jj_rs_add (B := h) (L := [(49, (upd (rX10_puts_1_49 (upd (h 49) (35) 0) (jj_gd h 517 3) s) (32) (vX10_puts_1 (upd (h 49) (35) 0) (jj_gd h 517 3) s)))]) (L2 := [(49, (upd (rX10_puts_1_49 (upd (h 49) (35) 0) (jj_gd h 517 3) s) (32) (vX10_puts_1 (upd (h 49) (35) 0) (jj_gd h 517 3) s))), (497, (h 497))]) (o := 497) (r := (h 497)) rfl rfl) ?_
  refine jj_for (fun k1 (a1 : (Nat → Int32) × (Nat → Int32)) => (a1.1 35 = nI (1 + k1)) → jj_R _ _ kc ks (jj_S, 782, (jj_rs h [(49, a1.1), (497, a1.2)]), g) 21 [(0, .ref 49), (1, .ref (517 + (s : Int32).toNatClampNeg)), (2, .int 1), (3, .int (nI k1))] [] Q) (fX10_putsAll_1_1 (jj_gd h 517 3) s) 35 ((upd (rX10_puts_1_49 (upd (h 49) (35) 0) (jj_gd h 517 3) s) (32) (vX10_puts_1 (upd (h 49) (35) 0) (jj_gd h 517 3) s)), (h 497)) ?_ ?_ rfl
  · intro k1 hk1 ih1
    generalize jj_fo _ k1 _ = a1 at ih1 ⊢
    try dsimp only at ih1 ⊢
    intro hi1
    refine rr_iload_n 3 rfl rfl dX10_putsAll_21 ?_
    refine rr_bipush 35 rfl dX10_putsAll_22 ?_
    refine rr_icmp_ge dX10_putsAll_24 (fun c => absurd c (nI_ge (a := k1) (b := 35) (by omega) (by omega))) (fun _ => ?_)
    refine rr_aload_n 0 rfl rfl dX10_putsAll_27 ?_
    refine rr_getR dX10_putsAll_28 fX10_61 lo_49 sh_49 rfl ?_
    refine rr_iload_n 3 rfl rfl dX10_putsAll_31 ?_
    refine rr_aload_n 0 rfl rfl dX10_putsAll_32 ?_
    refine rr_aload_n 1 rfl rfl dX10_putsAll_33 ?_
    refine rr_aload_n 0 rfl rfl dX10_putsAll_34 ?_
    refine rr_getR dX10_putsAll_35 fX10_61 lo_49 sh_49 rfl ?_
    refine rr_iload_n 3 rfl rfl dX10_putsAll_38 ?_
    refine rr_iaload dX10_putsAll_39 lo_497 sh_497 (vp_in_nI (by omega) (by decide)) ?_
    rw [show (jj_rs h [(49, a1.1), (497, a1.2)]) 497 = a1.2 from rfl]
    refine rr_iload_n 2 rfl rfl dX10_putsAll_40 ?_
    refine rr_callV (As := [.ref (517 + (s : Int32).toNatClampNeg), .int (a1.2 ((nI k1) : Int32).toNatClampNeg), .int 1]) (rest := [.int (nI k1), .ref 497]) (kc2 := 0) (ks2 := 0) dX10_putsAll_41 okX10_puts lX10_389 lo_49 sh_49 rfl rfl (Nat.le_of_ble_eq_true rfl) (Nat.le_of_ble_eq_true rfl) rfl (by omega) (by simp [jj_rk] <;> first | exact Or.inl (lr_516 (jj_ink (i := s) hs)) | exact Or.inl (lr_516 (jj_ink (i := s) hs))) (by simp [jj_rk] <;> first | exact Or.inl (lr_516 (jj_ink (i := s) hs)) | exact Or.inl (lr_516 (jj_ink (i := s) hs))) ?_
    refine sp_X10_puts_1 hs (pt_in hi1 (by omega)) ?_
    show jj_R _ _ kc ks (jj_S, 782, (jj_rs (jj_rs h [(49, a1.1), (497, a1.2)]) [(49, (rX10_puts_1_49 a1.1 (jj_gd (jj_rs h [(49, a1.1), (497, a1.2)]) 517 3) s))]), g) 44 [(0, .ref 49), (1, .ref (517 + (s : Int32).toNatClampNeg)), (2, .int 1), (3, .int (nI k1))] [.int (vX10_puts_1 a1.1 (jj_gd (jj_rs h [(49, a1.1), (497, a1.2)]) 517 3) s), .int (nI k1), .ref 497] Q
    rw [jj_rs_rs (B := h) (L := [(49, a1.1), (497, a1.2)]) (M := [(49, (rX10_puts_1_49 a1.1 (jj_gd (jj_rs h [(49, a1.1), (497, a1.2)]) 517 3) s))]) (L2 := [(49, (rX10_puts_1_49 a1.1 (jj_gd (jj_rs h [(49, a1.1), (497, a1.2)]) 517 3) s)), (497, a1.2)]) rfl]
    try rw [show jj_gd (jj_rs h [(49, a1.1), (497, a1.2)]) 517 3 = jj_gd h 517 3 from (jj_gd_rs (B := h) (L := [(49, a1.1), (497, a1.2)]) (b := 517) (len := 3) rfl)]
    refine rr_iastore dX10_putsAll_44 lo_497 sh_497 (vp_in_nI (by omega) (by decide)) ?_
    rw [jj_rs_set (B := h) (L := [(49, (rX10_puts_1_49 a1.1 (jj_gd h 517 3) s)), (497, a1.2)]) (L2 := [(49, (rX10_puts_1_49 a1.1 (jj_gd h 517 3) s)), (497, (upd a1.2 (((nI k1) : Int32).toNatClampNeg) (vX10_puts_1 a1.1 (jj_gd h 517 3) s)))]) (r := a1.2) rfl rfl]
    refine rr_iinc 3 1 [(0, .ref 49), (1, .ref (517 + (s : Int32).toNatClampNeg)), (2, .int 1), (3, .int ((nI k1) + 1))] dX10_putsAll_45 rfl rfl (by decide) rfl ?_
    refine rr_goto dX10_putsAll_48 ?_
    simp only [(nI_clamp (show k1 < 2 ^ 31 by omega)), fX10_putsAll_1_1] at ih1
    simpa only [nI_1, (nI_clamp (show k1 < 2 ^ 31 by omega)), fX10_putsAll_1_1] using ih1 (pt_up hi1)
  · try dsimp only
    intro hi1
    refine rr_iload_n 3 rfl rfl dX10_putsAll_21 ?_
    refine rr_bipush 35 rfl dX10_putsAll_22 ?_
    refine rr_icmp_ge dX10_putsAll_24 (fun _ => ?_) (fun c => absurd (jj_le_rf _) c)
    refine rr_iconst 0 rfl dX10_putsAll_51 ?_
    refine rr_istore_n [(0, .ref 49), (1, .ref (517 + (s : Int32).toNatClampNeg)), (2, .int 1), (3, .int 0)] dX10_putsAll_52 rfl (by decide) rfl ?_
    refine jj_Rh (jj_gs_id (B := h) (L := [(49, (jj_fo (fX10_putsAll_1_1 (jj_gd h 517 3) s) 35 ((upd (rX10_puts_1_49 (upd (h 49) (35) 0) (jj_gd h 517 3) s) (32) (vX10_puts_1 (upd (h 49) (35) 0) (jj_gd h 517 3) s)), (h 497))).1), (497, (jj_fo (fX10_putsAll_1_1 (jj_gd h 517 3) s) 35 ((upd (rX10_puts_1_49 (upd (h 49) (35) 0) (jj_gd h 517 3) s) (32) (vX10_puts_1 (upd (h 49) (35) 0) (jj_gd h 517 3) s)), (h 497))).2)]) (b := 500) (len := 16)) ?_
    refine jj_for (fun k2 (a2 : (Nat → Int32) × (Nat → Nat → Int32)) => (a2.1 35 = nI (36 + 35 * k2)) → jj_R _ _ kc ks (jj_S, 782, (jj_rs (jj_gs h 500 16 a2.2) [(49, a2.1), (497, (jj_fo (fX10_putsAll_1_1 (jj_gd h 517 3) s) 35 ((upd (rX10_puts_1_49 (upd (h 49) (35) 0) (jj_gd h 517 3) s) (32) (vX10_puts_1 (upd (h 49) (35) 0) (jj_gd h 517 3) s)), (h 497))).2)]), g) 53 [(0, .ref 49), (1, .ref (517 + (s : Int32).toNatClampNeg)), (2, .int 1), (3, .int (nI k2))] [] Q) (fX10_putsAll_1_2 (jj_gd h 517 3) s) 16 ((jj_fo (fX10_putsAll_1_1 (jj_gd h 517 3) s) 35 ((upd (rX10_puts_1_49 (upd (h 49) (35) 0) (jj_gd h 517 3) s) (32) (vX10_puts_1 (upd (h 49) (35) 0) (jj_gd h 517 3) s)), (h 497))).1, (jj_gd h 500 16)) ?_ ?_ hi1
    · intro k2 hk2 ih2
      generalize jj_fo _ k2 _ = a2 at ih2 ⊢
      try dsimp only at ih2 ⊢
      intro hi2
      refine rr_iload_n 3 rfl rfl dX10_putsAll_53 ?_
      refine rr_bipush 16 rfl dX10_putsAll_54 ?_
      refine rr_icmp_ge dX10_putsAll_56 (fun c => absurd c (nI_ge (a := k2) (b := 16) (by omega) (by omega))) (fun _ => ?_)
      refine rr_iconst 0 rfl dX10_putsAll_59 ?_
      refine rr_istore [(0, .ref 49), (1, .ref (517 + (s : Int32).toNatClampNeg)), (2, .int 1), (3, .int (nI k2)), (4, .int 0)] dX10_putsAll_60 (by decide) rfl ?_
      refine jj_for (fun k3 (a3 : (Nat → Int32) × (Nat → Nat → Int32)) => (a3.1 35 = nI (36 + 35 * k2 + k3)) → jj_R _ _ kc ks (jj_S, 782, (jj_rs (jj_gs h 500 16 a3.2) [(49, a3.1), (497, (jj_fo (fX10_putsAll_1_1 (jj_gd h 517 3) s) 35 ((upd (rX10_puts_1_49 (upd (h 49) (35) 0) (jj_gd h 517 3) s) (32) (vX10_puts_1 (upd (h 49) (35) 0) (jj_gd h 517 3) s)), (h 497))).2)]), g) 62 [(0, .ref 49), (1, .ref (517 + (s : Int32).toNatClampNeg)), (2, .int 1), (3, .int (nI k2)), (4, .int (nI k3))] [] Q) (fX10_putsAll_1_3 (jj_gd h 517 3) s k2) 35 (a2.1, a2.2) ?_ ?_ hi2
      · intro k3 hk3 ih3
        generalize jj_fo _ k3 _ = a3 at ih3 ⊢
        try dsimp only at ih3 ⊢
        intro hi3
        refine rr_iload 4 rfl dX10_putsAll_62 ?_
        refine rr_bipush 35 rfl dX10_putsAll_64 ?_
        refine rr_icmp_ge dX10_putsAll_66 (fun c => absurd c (nI_ge (a := k3) (b := 35) (by omega) (by omega))) (fun _ => ?_)
        refine rr_aload_n 0 rfl rfl dX10_putsAll_69 ?_
        refine rr_getR dX10_putsAll_70 fX10_67 lo_49 sh_49 rfl ?_
        refine rr_iload_n 3 rfl rfl dX10_putsAll_73 ?_
        refine rr_aaload dX10_putsAll_74 lo_499 sh_499 (vp_in_nI (by omega) (by decide)) ?_
        refine rr_iload 4 rfl dX10_putsAll_75 ?_
        refine rr_aload_n 0 rfl rfl dX10_putsAll_77 ?_
        refine rr_aload_n 1 rfl rfl dX10_putsAll_78 ?_
        refine rr_aload_n 0 rfl rfl dX10_putsAll_79 ?_
        refine rr_getR dX10_putsAll_80 fX10_67 lo_49 sh_49 rfl ?_
        refine rr_iload_n 3 rfl rfl dX10_putsAll_83 ?_
        refine rr_aaload dX10_putsAll_84 lo_499 sh_499 (vp_in_nI (by omega) (by decide)) ?_
        refine rr_iload 4 rfl dX10_putsAll_85 ?_
        refine rr_iaload dX10_putsAll_87 (lr_499 (jj_ink (i := (nI k2)) (vp_in_nI (by omega) (by decide)))) (sr_499 (jj_ink (i := (nI k2)) (vp_in_nI (by omega) (by decide)))) (vp_in_nI (by omega) (by decide)) ?_
        rw [show (jj_rs (jj_gs h 500 16 a3.2) [(49, a3.1), (497, (jj_fo (fX10_putsAll_1_1 (jj_gd h 517 3) s) 35 ((upd (rX10_puts_1_49 (upd (h 49) (35) 0) (jj_gd h 517 3) s) (32) (vX10_puts_1 (upd (h 49) (35) 0) (jj_gd h 517 3) s)), (h 497))).2)]) (500 + ((nI k2) : Int32).toNatClampNeg) = a3.2 ((nI k2) : Int32).toNatClampNeg from jj_gs_at (L := [(49, a3.1), (497, (jj_fo (fX10_putsAll_1_1 (jj_gd h 517 3) s) 35 ((upd (rX10_puts_1_49 (upd (h 49) (35) 0) (jj_gd h 517 3) s) (32) (vX10_puts_1 (upd (h 49) (35) 0) (jj_gd h 517 3) s)), (h 497))).2)]) rfl (jj_ink (i := (nI k2)) (vp_in_nI (by omega) (by decide)))]
        refine rr_iload_n 2 rfl rfl dX10_putsAll_88 ?_
        refine rr_callV (As := [.ref (517 + (s : Int32).toNatClampNeg), .int (a3.2 ((nI k2) : Int32).toNatClampNeg ((nI k3) : Int32).toNatClampNeg), .int 1]) (rest := [.int (nI k3), .ref (500 + ((nI k2) : Int32).toNatClampNeg)]) (kc2 := 0) (ks2 := 0) dX10_putsAll_89 okX10_puts lX10_389 lo_49 sh_49 rfl rfl (Nat.le_of_ble_eq_true rfl) (Nat.le_of_ble_eq_true rfl) rfl (by omega) (by simp [jj_rk] <;> first | exact Or.inl (lr_516 (jj_ink (i := s) hs)) | exact Or.inl (lr_499 (jj_ink (i := (nI k2)) (vp_in_nI (by omega) (by decide)))) | exact Or.inl (lr_516 (jj_ink (i := s) hs))) (by simp [jj_rk] <;> first | exact Or.inl (lr_516 (jj_ink (i := s) hs)) | exact Or.inl (lr_499 (jj_ink (i := (nI k2)) (vp_in_nI (by omega) (by decide)))) | exact Or.inl (lr_516 (jj_ink (i := s) hs))) ?_
        refine sp_X10_puts_1 hs (pt_in hi3 (by omega)) ?_
        show jj_R _ _ kc ks (jj_S, 782, (jj_rs (jj_rs (jj_gs h 500 16 a3.2) [(49, a3.1), (497, (jj_fo (fX10_putsAll_1_1 (jj_gd h 517 3) s) 35 ((upd (rX10_puts_1_49 (upd (h 49) (35) 0) (jj_gd h 517 3) s) (32) (vX10_puts_1 (upd (h 49) (35) 0) (jj_gd h 517 3) s)), (h 497))).2)]) [(49, (rX10_puts_1_49 a3.1 (jj_gd (jj_rs (jj_gs h 500 16 a3.2) [(49, a3.1), (497, (jj_fo (fX10_putsAll_1_1 (jj_gd h 517 3) s) 35 ((upd (rX10_puts_1_49 (upd (h 49) (35) 0) (jj_gd h 517 3) s) (32) (vX10_puts_1 (upd (h 49) (35) 0) (jj_gd h 517 3) s)), (h 497))).2)]) 517 3) s))]), g) 92 [(0, .ref 49), (1, .ref (517 + (s : Int32).toNatClampNeg)), (2, .int 1), (3, .int (nI k2)), (4, .int (nI k3))] [.int (vX10_puts_1 a3.1 (jj_gd (jj_rs (jj_gs h 500 16 a3.2) [(49, a3.1), (497, (jj_fo (fX10_putsAll_1_1 (jj_gd h 517 3) s) 35 ((upd (rX10_puts_1_49 (upd (h 49) (35) 0) (jj_gd h 517 3) s) (32) (vX10_puts_1 (upd (h 49) (35) 0) (jj_gd h 517 3) s)), (h 497))).2)]) 517 3) s), .int (nI k3), .ref (500 + ((nI k2) : Int32).toNatClampNeg)] Q
        rw [jj_rs_rs (B := (jj_gs h 500 16 a3.2)) (L := [(49, a3.1), (497, (jj_fo (fX10_putsAll_1_1 (jj_gd h 517 3) s) 35 ((upd (rX10_puts_1_49 (upd (h 49) (35) 0) (jj_gd h 517 3) s) (32) (vX10_puts_1 (upd (h 49) (35) 0) (jj_gd h 517 3) s)), (h 497))).2)]) (M := [(49, (rX10_puts_1_49 a3.1 (jj_gd (jj_rs (jj_gs h 500 16 a3.2) [(49, a3.1), (497, (jj_fo (fX10_putsAll_1_1 (jj_gd h 517 3) s) 35 ((upd (rX10_puts_1_49 (upd (h 49) (35) 0) (jj_gd h 517 3) s) (32) (vX10_puts_1 (upd (h 49) (35) 0) (jj_gd h 517 3) s)), (h 497))).2)]) 517 3) s))]) (L2 := [(49, (rX10_puts_1_49 a3.1 (jj_gd (jj_rs (jj_gs h 500 16 a3.2) [(49, a3.1), (497, (jj_fo (fX10_putsAll_1_1 (jj_gd h 517 3) s) 35 ((upd (rX10_puts_1_49 (upd (h 49) (35) 0) (jj_gd h 517 3) s) (32) (vX10_puts_1 (upd (h 49) (35) 0) (jj_gd h 517 3) s)), (h 497))).2)]) 517 3) s)), (497, (jj_fo (fX10_putsAll_1_1 (jj_gd h 517 3) s) 35 ((upd (rX10_puts_1_49 (upd (h 49) (35) 0) (jj_gd h 517 3) s) (32) (vX10_puts_1 (upd (h 49) (35) 0) (jj_gd h 517 3) s)), (h 497))).2)]) rfl]
        try rw [show jj_gd (jj_rs (jj_gs h 500 16 a3.2) [(49, a3.1), (497, (jj_fo (fX10_putsAll_1_1 (jj_gd h 517 3) s) 35 ((upd (rX10_puts_1_49 (upd (h 49) (35) 0) (jj_gd h 517 3) s) (32) (vX10_puts_1 (upd (h 49) (35) 0) (jj_gd h 517 3) s)), (h 497))).2)]) 517 3 = jj_gd h 517 3 from ((jj_gd_rs (B := (jj_gs h 500 16 a3.2)) (L := [(49, a3.1), (497, (jj_fo (fX10_putsAll_1_1 (jj_gd h 517 3) s) 35 ((upd (rX10_puts_1_49 (upd (h 49) (35) 0) (jj_gd h 517 3) s) (32) (vX10_puts_1 (upd (h 49) (35) 0) (jj_gd h 517 3) s)), (h 497))).2)]) (b := 517) (len := 3) rfl).trans (jj_gd_gs (B := h) (b := 500) (len := 16) (b2 := 517) (len2 := 3) rfl))]
        refine rr_iastore dX10_putsAll_92 (lr_499 (jj_ink (i := (nI k2)) (vp_in_nI (by omega) (by decide)))) (sr_499 (jj_ink (i := (nI k2)) (vp_in_nI (by omega) (by decide)))) (vp_in_nI (by omega) (by decide)) ?_
        refine jj_Rh (jj_gs_set (B := h) (L := [(49, (rX10_puts_1_49 a3.1 (jj_gd h 517 3) s)), (497, (jj_fo (fX10_putsAll_1_1 (jj_gd h 517 3) s) 35 ((upd (rX10_puts_1_49 (upd (h 49) (35) 0) (jj_gd h 517 3) s) (32) (vX10_puts_1 (upd (h 49) (35) 0) (jj_gd h 517 3) s)), (h 497))).2)]) (b := 500) (len := 16) (G := a3.2) (x := ((nI k2) : Int32).toNatClampNeg) rfl (jj_ink (i := (nI k2)) (vp_in_nI (by omega) (by decide)))) ?_
        refine rr_iinc 4 1 [(0, .ref 49), (1, .ref (517 + (s : Int32).toNatClampNeg)), (2, .int 1), (3, .int (nI k2)), (4, .int ((nI k3) + 1))] dX10_putsAll_93 rfl rfl (by decide) rfl ?_
        refine rr_goto dX10_putsAll_96 ?_
        simp only [(nI_clamp (show k3 < 2 ^ 31 by omega)), fX10_putsAll_1_3] at ih3
        simpa only [nI_1, (nI_clamp (show k3 < 2 ^ 31 by omega)), fX10_putsAll_1_3] using ih3 (pt_up hi3)
      · try dsimp only
        intro hi3
        refine rr_iload 4 rfl dX10_putsAll_62 ?_
        refine rr_bipush 35 rfl dX10_putsAll_64 ?_
        refine rr_icmp_ge dX10_putsAll_66 (fun _ => ?_) (fun c => absurd (jj_le_rf _) c)
        refine rr_iinc 3 1 [(0, .ref 49), (1, .ref (517 + (s : Int32).toNatClampNeg)), (2, .int 1), (3, .int ((nI k2) + 1)), (4, .int (nI 35))] dX10_putsAll_99 rfl rfl (by decide) rfl ?_
        refine rr_goto dX10_putsAll_102 ?_
        refine rr_drop (ls := [(0, .ref 49), (1, .ref (517 + (s : Int32).toNatClampNeg)), (2, .int 1), (3, .int ((nI k2) + 1))]) [0, 1, 2, 3] rfl ?_
        simp only [(nI_clamp (show k2 < 2 ^ 31 by omega)), fX10_putsAll_1_2] at ih2
        simpa only [nI_1, (nI_clamp (show k2 < 2 ^ 31 by omega)), fX10_putsAll_1_2] using ih2 (pt_o hi3)
    · try dsimp only
      intro hi2
      refine rr_iload_n 3 rfl rfl dX10_putsAll_53 ?_
      refine rr_bipush 16 rfl dX10_putsAll_54 ?_
      refine rr_icmp_ge dX10_putsAll_56 (fun _ => ?_) (fun c => absurd (jj_le_rf _) c)
      refine rr_return dX10_putsAll_105 rfl ?_
      simpa only [rX10_putsAll_1_49, rX10_putsAll_1_497, qX10_putsAll_1_500] using kq
theorem sp_X10_putsAll_0_A {d kc ks : Nat} {h : Nat → Nat → Int32} {g : Nat → Nat → Int64} {Q : jj_Rs → jj_St → Prop} {s : Int32} (hs : vp_in s 3) (kq : ∀ A0_ A1_ A2_ A3_, A0_ = (rX10_putsAll_0_49 (h 49) (h 497) (jj_gd h 500 16) (jj_gd h 517 3) s) → A1_ = (rX10_putsAll_0_497 (h 49) (h 497) (jj_gd h 500 16) (jj_gd h 517 3) s) → A2_ = (qX10_putsAll_0_500 (h 49) (h 497) (jj_gd h 500 16) (jj_gd h 517 3) s) → A3_ = (qX10_putsAll_0_517 (h 49) (h 497) (jj_gd h 500 16) (jj_gd h 517 3) s) → Q (.inl none) (jj_S, 782, (jj_rs (jj_gs (jj_gs h 500 16 A2_) 517 3 A3_) [(49, A0_), (497, A1_)]), g)) : jj_R mX10_putsAll (d + 1) kc ks (jj_S, 782, h, g) 0 [(0, .ref 49), (1, .ref (517 + (s : Int32).toNatClampNeg)), (2, .int 0)] [] Q := sp_X10_putsAll_0 hs (kq _ _ _ _ rfl rfl rfl rfl)
theorem sp_X10_putsAll_1_A {d kc ks : Nat} {h : Nat → Nat → Int32} {g : Nat → Nat → Int64} {Q : jj_Rs → jj_St → Prop} {s : Int32} (hs : vp_in s 3) (kq : ∀ A0_ A1_ A2_, A0_ = (rX10_putsAll_1_49 (h 49) (h 497) (jj_gd h 500 16) (jj_gd h 517 3) s) → A1_ = (rX10_putsAll_1_497 (h 49) (h 497) (jj_gd h 500 16) (jj_gd h 517 3) s) → A2_ = (qX10_putsAll_1_500 (h 49) (h 497) (jj_gd h 500 16) (jj_gd h 517 3) s) → Q (.inl none) (jj_S, 782, (jj_rs (jj_gs h 500 16 A2_) [(49, A0_), (497, A1_)]), g)) : jj_R mX10_putsAll (d + 1) kc ks (jj_S, 782, h, g) 0 [(0, .ref 49), (1, .ref (517 + (s : Int32).toNatClampNeg)), (2, .int 1)] [] Q := sp_X10_putsAll_1 hs (kq _ _ _ rfl rfl rfl)
def vX10_image (r49 : Nat → Int32) (r497 : Nat → Int32) (g500 : Nat → Nat → Int32) (g517 : Nat → Nat → Int32) (t : Nat) : Int32 := (if (nI t) = 3 then (-1) else (((rX10_putsAll_0_49 (upd r49 (0) 0) r497 g500 g517 (nI t)) 34) + 1))
def rX10_image_49 (r49 : Nat → Int32) (r497 : Nat → Int32) (g500 : Nat → Nat → Int32) (g517 : Nat → Nat → Int32) (t : Nat) : Nat → Int32 := (if (nI t) = 3 then (upd r49 (0) 0) else (upd (rX10_putsAll_0_49 (upd r49 (0) 0) r497 g500 g517 (nI t)) (34) (((rX10_putsAll_0_49 (upd r49 (0) 0) r497 g500 g517 (nI t)) 34) + 1)))
def rX10_image_497 (r49 : Nat → Int32) (r497 : Nat → Int32) (g500 : Nat → Nat → Int32) (g517 : Nat → Nat → Int32) (t : Nat) : Nat → Int32 := (if (nI t) = 3 then r497 else (rX10_putsAll_0_497 (upd r49 (0) 0) r497 g500 g517 (nI t)))
def qX10_image_500 (r49 : Nat → Int32) (r497 : Nat → Int32) (g500 : Nat → Nat → Int32) (g517 : Nat → Nat → Int32) (t : Nat) : Nat → Nat → Int32 := (if (nI t) = 3 then g500 else (qX10_putsAll_0_500 (upd r49 (0) 0) r497 g500 g517 (nI t)))
def qX10_image_517 (r49 : Nat → Int32) (r497 : Nat → Int32) (g500 : Nat → Nat → Int32) (g517 : Nat → Nat → Int32) (t : Nat) : Nat → Nat → Int32 := (if (nI t) = 3 then g517 else (qX10_putsAll_0_517 (upd r49 (0) 0) r497 g500 g517 (nI t)))
set_option maxHeartbeats 1000000 in
theorem sp_X10_image {d kc ks : Nat} {h : Nat → Nat → Int32} {g : Nat → Nat → Int64} {Q : jj_Rs → jj_St → Prop} {t : Nat} (ht : h 49 34 = nI t) (ht2 : t ≤ 3) (kq : Q (.inl (some (.int (vX10_image (h 49) (h 497) (jj_gd h 500 16) (jj_gd h 517 3) t)))) (jj_S, 782, (jj_rs (jj_gs (jj_gs h 500 16 (qX10_image_500 (h 49) (h 497) (jj_gd h 500 16) (jj_gd h 517 3) t)) 517 3 (qX10_image_517 (h 49) (h 497) (jj_gd h 500 16) (jj_gd h 517 3) t)) [(49, (rX10_image_49 (h 49) (h 497) (jj_gd h 500 16) (jj_gd h 517 3) t)), (497, (rX10_image_497 (h 49) (h 497) (jj_gd h 500 16) (jj_gd h 517 3) t))]), g)) : jj_R mX10_image (d + 2) kc ks (jj_S, 782, h, g) 0 [(0, .ref 49)] [] Q := by
  refine rr_aload_n 0 rfl rfl dX10_image_0 ?_
  refine rr_iconst 0 rfl dX10_image_1 ?_
  refine rr_putI dX10_image_2 fX10_95 ni10_0 lo_49 sh_49 rfl ?_
  rw [jj_rs_set0 (B := h) (o := 49) (r := (h 49)) rfl]
  refine rr_aload_n 0 rfl rfl dX10_image_5 ?_
  refine rr_getI dX10_image_6 fX10_200 lo_49 sh_49 rfl ?_
  rw [show (jj_rs h [(49, (upd (h 49) (0) 0))]) 49 = (upd (h 49) (0) 0) from rfl]
  rw [show (upd (h 49) (0) 0) 34 = (nI t) from ht]
  refine rr_iconst 3 rfl dX10_image_9 ?_
  refine rr_icmp_ne dX10_image_10 (fun c1 => ?_) (fun c1 => ?_)
  · skip
    have ht1 : t < 3 := jj_t3 ht2 (by assumption)
    refine rr_aload_n 0 rfl rfl dX10_image_15 ?_
    refine rr_aload_n 0 rfl rfl dX10_image_16 ?_
    refine rr_getR dX10_image_17 fX10_70 lo_49 sh_49 rfl ?_
    refine rr_aload_n 0 rfl rfl dX10_image_20 ?_
    refine rr_getI dX10_image_21 fX10_200 lo_49 sh_49 rfl ?_
    rw [show (jj_rs h [(49, (upd (h 49) (0) 0))]) 49 = (upd (h 49) (0) 0) from rfl]
    rw [show (upd (h 49) (0) 0) 34 = (nI t) from ht]
    refine rr_aaload dX10_image_24 lo_516 sh_516 (vp_in_nI (by omega) (by decide)) ?_
    refine rr_iconst 0 rfl dX10_image_25 ?_
    refine rr_callV (As := [.ref (517 + ((nI t) : Int32).toNatClampNeg), .int 0]) (rest := []) (kc2 := 0) (ks2 := 0) dX10_image_26 okX10_putsAll lX10_393 lo_49 sh_49 rfl rfl (Nat.le_of_ble_eq_true rfl) (Nat.le_of_ble_eq_true rfl) rfl (by omega) (by simp [jj_rk] <;> first | exact Or.inl (lr_516 (jj_ink (i := (nI t)) (vp_in_nI (by omega) (by decide))))) (by simp [jj_rk] <;> first | exact Or.inl (lr_516 (jj_ink (i := (nI t)) (vp_in_nI (by omega) (by decide))))) ?_
    refine sp_X10_putsAll_0_A (vp_in_nI (by omega) (by decide)) (fun A0_ A1_ A2_ A3_ hA0_ hA1_ hA2_ hA3_ => ?_)
    try rw [show (jj_rs h [(49, (upd (h 49) (0) 0))]) 49 = (upd (h 49) (0) 0) from rfl] at hA0_ hA1_ hA2_ hA3_
    try rw [show (jj_rs h [(49, (upd (h 49) (0) 0))]) 497 = (h 497) from rfl] at hA0_ hA1_ hA2_ hA3_
    try rw [show jj_gd (jj_rs h [(49, (upd (h 49) (0) 0))]) 500 16 = jj_gd h 500 16 from (jj_gd_rs (B := h) (L := [(49, (upd (h 49) (0) 0))]) (b := 500) (len := 16) rfl)] at hA0_ hA1_ hA2_ hA3_
    try rw [show jj_gd (jj_rs h [(49, (upd (h 49) (0) 0))]) 517 3 = jj_gd h 517 3 from (jj_gd_rs (B := h) (L := [(49, (upd (h 49) (0) 0))]) (b := 517) (len := 3) rfl)] at hA0_ hA1_ hA2_ hA3_
    show jj_R _ _ kc ks (jj_S, 782, (jj_rs (jj_gs (jj_gs (jj_rs h [(49, (upd (h 49) (0) 0))]) 500 16 A2_) 517 3 A3_) [(49, A0_), (497, A1_)]), g) 29 [(0, .ref 49)] [] Q
    rw [jj_gs_rs (B := h) (L := [(49, (upd (h 49) (0) 0))]) (b := 500) (len := 16) rfl]
    rw [jj_gs_rs (B := (jj_gs h 500 16 A2_)) (L := [(49, (upd (h 49) (0) 0))]) (b := 517) (len := 3) rfl]
    rw [jj_rs_rs (B := (jj_gs (jj_gs h 500 16 A2_) 517 3 A3_)) (L := [(49, (upd (h 49) (0) 0))]) (M := [(49, A0_), (497, A1_)]) (L2 := [(49, A0_), (497, A1_)]) rfl]
    refine rr_aload_n 0 rfl rfl dX10_image_29 ?_
    refine rr_dup rfl dX10_image_30 ?_
    refine rr_getI dX10_image_31 fX10_200 lo_49 sh_49 rfl ?_
    rw [show (jj_rs (jj_gs (jj_gs h 500 16 A2_) 517 3 A3_) [(49, A0_), (497, A1_)]) 49 = A0_ from rfl]
    refine rr_iconst 1 rfl dX10_image_34 ?_
    refine rr_iadd dX10_image_35 ?_
    refine rr_putI dX10_image_36 fX10_200 ni10_34 lo_49 sh_49 rfl ?_
    rw [jj_rs_set (B := (jj_gs (jj_gs h 500 16 A2_) 517 3 A3_)) (L := [(49, A0_), (497, A1_)]) (L2 := [(49, (upd A0_ (34) ((A0_ 34) + 1))), (497, A1_)]) (r := A0_) rfl rfl]
    refine rr_aload_n 0 rfl rfl dX10_image_39 ?_
    refine rr_getI dX10_image_40 fX10_200 lo_49 sh_49 rfl ?_
    rw [show (jj_rs (jj_gs (jj_gs h 500 16 A2_) 517 3 A3_) [(49, (upd A0_ (34) ((A0_ 34) + 1))), (497, A1_)]) 49 = (upd A0_ (34) ((A0_ 34) + 1)) from rfl]
    rw [show (upd A0_ (34) ((A0_ 34) + 1)) 34 = ((A0_ 34) + 1) from rfl]
    refine rr_ireturn dX10_image_43 rfl ?_
    try subst hA0_
    try subst hA1_
    try subst hA2_
    try subst hA3_
    simpa only [vX10_image, rX10_image_49, rX10_image_497, qX10_image_500, qX10_image_517, if_neg c1] using kq
  · skip
    refine rr_iconst (-1) rfl dX10_image_13 ?_
    refine rr_ireturn dX10_image_14 rfl ?_
    try subst hA0_
    try subst hA1_
    try subst hA2_
    try subst hA3_
    refine jj_Qh (jj_gs_id (B := h) (L := [(49, (upd (h 49) (0) 0))]) (b := 500) (len := 16)) ?_
    refine jj_Qh (jj_gs_id2 (B := (jj_gs h 500 16 (jj_gd h 500 16))) (L := [(49, (upd (h 49) (0) 0))]) (b := 517) (len := 3) (jj_gd_gs (B := h) (b := 500) (len := 16) (b2 := 517) (len2 := 3) rfl)) ?_
    refine jj_Qh (jj_rs_add (B := (jj_gs (jj_gs h 500 16 (jj_gd h 500 16)) 517 3 (jj_gd h 517 3))) (L := [(49, (upd (h 49) (0) 0))]) (L2 := [(49, (upd (h 49) (0) 0)), (497, (h 497))]) (o := 497) (r := (h 497)) rfl rfl) ?_
    simpa only [vX10_image, rX10_image_49, rX10_image_497, qX10_image_500, qX10_image_517, if_pos c1] using kq
def vX10_restore (r49 : Nat → Int32) (r497 : Nat → Int32) (g500 : Nat → Nat → Int32) (g517 : Nat → Nat → Int32) (t : Nat) : Int32 := (if (nI t) = 0 then (-1) else ((rX10_putsAll_1_49 (upd (upd r49 (0) 0) (34) (nI (t - 1))) r497 g500 g517 (nI (t - 1))) 34))
def rX10_restore_49 (r49 : Nat → Int32) (r497 : Nat → Int32) (g500 : Nat → Nat → Int32) (g517 : Nat → Nat → Int32) (t : Nat) : Nat → Int32 := (if (nI t) = 0 then (upd r49 (0) 0) else (upd (rX10_putsAll_1_49 (upd (upd r49 (0) 0) (34) (nI (t - 1))) r497 g500 g517 (nI (t - 1))) (33) 0))
def rX10_restore_497 (r49 : Nat → Int32) (r497 : Nat → Int32) (g500 : Nat → Nat → Int32) (g517 : Nat → Nat → Int32) (t : Nat) : Nat → Int32 := (if (nI t) = 0 then r497 else (rX10_putsAll_1_497 (upd (upd r49 (0) 0) (34) (nI (t - 1))) r497 g500 g517 (nI (t - 1))))
def qX10_restore_500 (r49 : Nat → Int32) (r497 : Nat → Int32) (g500 : Nat → Nat → Int32) (g517 : Nat → Nat → Int32) (t : Nat) : Nat → Nat → Int32 := (if (nI t) = 0 then g500 else (qX10_putsAll_1_500 (upd (upd r49 (0) 0) (34) (nI (t - 1))) r497 g500 g517 (nI (t - 1))))
set_option maxHeartbeats 1000000 in
theorem sp_X10_restore {d kc ks : Nat} {h : Nat → Nat → Int32} {g : Nat → Nat → Int64} {Q : jj_Rs → jj_St → Prop} {t : Nat} (ht : h 49 34 = nI t) (ht2 : t ≤ 3) (kq : Q (.inl (some (.int (vX10_restore (h 49) (h 497) (jj_gd h 500 16) (jj_gd h 517 3) t)))) (jj_S, 782, (jj_rs (jj_gs h 500 16 (qX10_restore_500 (h 49) (h 497) (jj_gd h 500 16) (jj_gd h 517 3) t)) [(49, (rX10_restore_49 (h 49) (h 497) (jj_gd h 500 16) (jj_gd h 517 3) t)), (497, (rX10_restore_497 (h 49) (h 497) (jj_gd h 500 16) (jj_gd h 517 3) t))]), g)) : jj_R mX10_restore (d + 2) kc ks (jj_S, 782, h, g) 0 [(0, .ref 49)] [] Q := by
  refine rr_aload_n 0 rfl rfl dX10_restore_0 ?_
  refine rr_iconst 0 rfl dX10_restore_1 ?_
  refine rr_putI dX10_restore_2 fX10_95 ni10_0 lo_49 sh_49 rfl ?_
  rw [jj_rs_set0 (B := h) (o := 49) (r := (h 49)) rfl]
  refine rr_aload_n 0 rfl rfl dX10_restore_5 ?_
  refine rr_getI dX10_restore_6 fX10_200 lo_49 sh_49 rfl ?_
  rw [show (jj_rs h [(49, (upd (h 49) (0) 0))]) 49 = (upd (h 49) (0) 0) from rfl]
  rw [show (upd (h 49) (0) 0) 34 = (nI t) from ht]
  refine rr_if_ne dX10_restore_9 (fun c1 => ?_) (fun c1 => ?_)
  · skip
    have ht1 : 0 < t := jj_t0 (by assumption)
    refine rr_aload_n 0 rfl rfl dX10_restore_14 ?_
    refine rr_dup rfl dX10_restore_15 ?_
    refine rr_getI dX10_restore_16 fX10_200 lo_49 sh_49 rfl ?_
    rw [show (jj_rs h [(49, (upd (h 49) (0) 0))]) 49 = (upd (h 49) (0) 0) from rfl]
    rw [show (upd (h 49) (0) 0) 34 = (nI t) from ht]
    refine rr_iconst 1 rfl dX10_restore_19 ?_
    refine rr_isub dX10_restore_20 ?_
    rw [show ((nI t) - 1 : Int32) = (nI (t - 1)) from jj_nsub (a := t) (b := 1) (by omega)]
    refine rr_putI dX10_restore_21 fX10_200 ni10_34 lo_49 sh_49 rfl ?_
    rw [jj_rs_set (B := h) (L := [(49, (upd (h 49) (0) 0))]) (L2 := [(49, (upd (upd (h 49) (0) 0) (34) (nI (t - 1))))]) (r := (upd (h 49) (0) 0)) rfl rfl]
    refine rr_aload_n 0 rfl rfl dX10_restore_24 ?_
    refine rr_aload_n 0 rfl rfl dX10_restore_25 ?_
    refine rr_getR dX10_restore_26 fX10_70 lo_49 sh_49 rfl ?_
    refine rr_aload_n 0 rfl rfl dX10_restore_29 ?_
    refine rr_getI dX10_restore_30 fX10_200 lo_49 sh_49 rfl ?_
    rw [show (jj_rs h [(49, (upd (upd (h 49) (0) 0) (34) (nI (t - 1))))]) 49 = (upd (upd (h 49) (0) 0) (34) (nI (t - 1))) from rfl]
    rw [show (upd (upd (h 49) (0) 0) (34) (nI (t - 1))) 34 = (nI (t - 1)) from rfl]
    refine rr_aaload dX10_restore_33 lo_516 sh_516 (vp_in_nI (by omega) (by decide)) ?_
    refine rr_iconst 1 rfl dX10_restore_34 ?_
    refine rr_callV (As := [.ref (517 + ((nI (t - 1)) : Int32).toNatClampNeg), .int 1]) (rest := []) (kc2 := 0) (ks2 := 0) dX10_restore_35 okX10_putsAll lX10_393 lo_49 sh_49 rfl rfl (Nat.le_of_ble_eq_true rfl) (Nat.le_of_ble_eq_true rfl) rfl (by omega) (by simp [jj_rk] <;> first | exact Or.inl (lr_516 (jj_ink (i := (nI (t - 1))) (vp_in_nI (by omega) (by decide))))) (by simp [jj_rk] <;> first | exact Or.inl (lr_516 (jj_ink (i := (nI (t - 1))) (vp_in_nI (by omega) (by decide))))) ?_
    refine sp_X10_putsAll_1_A (vp_in_nI (by omega) (by decide)) (fun A0_ A1_ A2_ hA0_ hA1_ hA2_ => ?_)
    try rw [show (jj_rs h [(49, (upd (upd (h 49) (0) 0) (34) (nI (t - 1))))]) 49 = (upd (upd (h 49) (0) 0) (34) (nI (t - 1))) from rfl] at hA0_ hA1_ hA2_
    try rw [show (jj_rs h [(49, (upd (upd (h 49) (0) 0) (34) (nI (t - 1))))]) 497 = (h 497) from rfl] at hA0_ hA1_ hA2_
    try rw [show jj_gd (jj_rs h [(49, (upd (upd (h 49) (0) 0) (34) (nI (t - 1))))]) 500 16 = jj_gd h 500 16 from (jj_gd_rs (B := h) (L := [(49, (upd (upd (h 49) (0) 0) (34) (nI (t - 1))))]) (b := 500) (len := 16) rfl)] at hA0_ hA1_ hA2_
    try rw [show jj_gd (jj_rs h [(49, (upd (upd (h 49) (0) 0) (34) (nI (t - 1))))]) 517 3 = jj_gd h 517 3 from (jj_gd_rs (B := h) (L := [(49, (upd (upd (h 49) (0) 0) (34) (nI (t - 1))))]) (b := 517) (len := 3) rfl)] at hA0_ hA1_ hA2_
    show jj_R _ _ kc ks (jj_S, 782, (jj_rs (jj_gs (jj_rs h [(49, (upd (upd (h 49) (0) 0) (34) (nI (t - 1))))]) 500 16 A2_) [(49, A0_), (497, A1_)]), g) 38 [(0, .ref 49)] [] Q
    rw [jj_gs_rs (B := h) (L := [(49, (upd (upd (h 49) (0) 0) (34) (nI (t - 1))))]) (b := 500) (len := 16) rfl]
    rw [jj_rs_rs (B := (jj_gs h 500 16 A2_)) (L := [(49, (upd (upd (h 49) (0) 0) (34) (nI (t - 1))))]) (M := [(49, A0_), (497, A1_)]) (L2 := [(49, A0_), (497, A1_)]) rfl]
    refine rr_aload_n 0 rfl rfl dX10_restore_38 ?_
    refine rr_iconst 0 rfl dX10_restore_39 ?_
    refine rr_putI dX10_restore_40 fX10_197 ni10_33 lo_49 sh_49 rfl ?_
    rw [jj_rs_set (B := (jj_gs h 500 16 A2_)) (L := [(49, A0_), (497, A1_)]) (L2 := [(49, (upd A0_ (33) 0)), (497, A1_)]) (r := A0_) rfl rfl]
    refine rr_aload_n 0 rfl rfl dX10_restore_43 ?_
    refine rr_getI dX10_restore_44 fX10_200 lo_49 sh_49 rfl ?_
    rw [show (jj_rs (jj_gs h 500 16 A2_) [(49, (upd A0_ (33) 0)), (497, A1_)]) 49 = (upd A0_ (33) 0) from rfl]
    rw [show (upd A0_ (33) 0) 34 = A0_ 34 from rfl]
    refine rr_ireturn dX10_restore_47 rfl ?_
    try subst hA0_
    try subst hA1_
    try subst hA2_
    simpa only [vX10_restore, rX10_restore_49, rX10_restore_497, qX10_restore_500, if_neg c1] using kq
  · skip
    refine rr_iconst (-1) rfl dX10_restore_12 ?_
    refine rr_ireturn dX10_restore_13 rfl ?_
    try subst hA0_
    try subst hA1_
    try subst hA2_
    refine jj_Qh (jj_gs_id (B := h) (L := [(49, (upd (h 49) (0) 0))]) (b := 500) (len := 16)) ?_
    refine jj_Qh (jj_rs_add (B := (jj_gs h 500 16 (jj_gd h 500 16))) (L := [(49, (upd (h 49) (0) 0))]) (L2 := [(49, (upd (h 49) (0) 0)), (497, (h 497))]) (o := 497) (r := (h 497)) rfl rfl) ?_
    simpa only [vX10_restore, rX10_restore_49, rX10_restore_497, qX10_restore_500, if_pos c1] using kq
