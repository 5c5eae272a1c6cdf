/-! ===== rows of rows that are written ===== -/
def jj_gs (B : Nat → Nat → Int32) (b len : Nat) (G : Nat → Nat → Int32) : Nat → Nat → Int32 := fun o => if b ≤ o ∧ o < b + len then G (o - b) else B o
def jj_ug (G : Nat → Nat → Int32) (x k : Nat) (v : Int32) : Nat → Nat → Int32 := fun j => if j = x then upd (G j) k v else G j
def jj_gc (len : Nat) (G : Nat → Nat → Int32) : Nat → Nat → Int32 := fun j => if j < len then G j else fun _ => 0
section GS
variable {B : Nat → Nat → Int32} {L : List (Nat × (Nat → Int32))} {b len : Nat} {G : Nat → Nat → Int32}
theorem jj_gs_at {x : Nat} (hl : L.all (fun q => decide (q.1 < b) || decide (b + len ≤ q.1)) = true) (hx : x < len) : jj_rs (jj_gs B b len G) L (b + x) = G x := by
  rw [jj_rs_out hl hx]
  unfold jj_gs
  rw [if_pos ⟨by omega, by omega⟩, Nat.add_sub_cancel_left]
theorem jj_gs_self : jj_gs B b len (jj_gd B b len) = B := by
  funext o
  unfold jj_gs
  by_cases c : b ≤ o ∧ o < b + len
  · rw [if_pos c]
    unfold jj_gd
    rw [if_pos (show o - b < len by omega), show b + (o - b) = o by omega]
  · rw [if_neg c]
theorem jj_gs_id : jj_rs B L = jj_rs (jj_gs B b len (jj_gd B b len)) L := by rw [jj_gs_self]
theorem jj_gs_set {x k : Nat} {v : Int32} (hl : L.all (fun q => decide (q.1 < b) || decide (b + len ≤ q.1)) = true) (hx : x < len) : jj_u2 (jj_rs (jj_gs B b len G) L) (b + x) k v = jj_rs (jj_gs B b len (jj_ug G x k v)) L := by
  funext o
  by_cases e : o = b + x
  · subst e
    rw [jj_u2_row, jj_gs_at hl hx, jj_gs_at hl hx]
    unfold jj_ug
    rw [if_pos rfl]
  · rw [jj_u2_ne e]
    unfold jj_rs
    cases L.lookup o with
    | some f => rfl
    | none =>
      show jj_gs B b len G o = jj_gs B b len (jj_ug G x k v) o
      unfold jj_gs
      by_cases c : b ≤ o ∧ o < b + len
      · rw [if_pos c, if_pos c]
        unfold jj_ug
        rw [if_neg (show ¬ o - b = x by omega)]
      · rw [if_neg c, if_neg c]
theorem jj_gs_set0 {x k : Nat} {v : Int32} (hl : L.all (fun q => decide (q.1 < b) || decide (b + len ≤ q.1)) = true) (hx : x < len) : jj_u2 (jj_rs B L) (b + x) k v = jj_rs (jj_gs B b len (jj_ug (jj_gd B b len) x k v)) L := by
  rw [← jj_gs_set hl hx, jj_gs_self]
theorem jj_gd_gs {b2 len2 : Nat} (hd : (decide (b2 + len2 ≤ b) || decide (b + len ≤ b2)) = true) : jj_gd (jj_gs B b len G) b2 len2 = jj_gd B b2 len2 := by
  funext j
  unfold jj_gd
  by_cases c : j < len2
  · rw [if_pos c, if_pos c]
    unfold jj_gs
    simp only [Bool.or_eq_true, decide_eq_true_eq] at hd
    rw [if_neg (show ¬ (b ≤ b2 + j ∧ b2 + j < b + len) by omega)]
  · rw [if_neg c, if_neg c]
theorem jj_gd_gss : jj_gd (jj_gs B b len G) b len = jj_gc len G := by
  funext j
  unfold jj_gd jj_gc
  by_cases c : j < len
  · rw [if_pos c, if_pos c]
    unfold jj_gs
    rw [if_pos ⟨by omega, by omega⟩, Nat.add_sub_cancel_left]
  · rw [if_neg c, if_neg c]
theorem jj_gs_rs (hl : L.all (fun q => decide (q.1 < b) || decide (b + len ≤ q.1)) = true) : jj_gs (jj_rs B L) b len G = jj_rs (jj_gs B b len G) L := by
  funext o
  by_cases c : b ≤ o ∧ o < b + len
  · obtain ⟨x, rfl⟩ : ∃ x, o = b + x := ⟨o - b, by omega⟩
    rw [jj_gs_at hl (by omega)]
    unfold jj_gs
    rw [if_pos c, Nat.add_sub_cancel_left]
  · unfold jj_gs
    rw [if_neg c]
    unfold jj_rs
    cases L.lookup o with
    | some f => rfl
    | none => show B o = if b ≤ o ∧ o < b + len then G (o - b) else B o; rw [if_neg c]
theorem jj_gs_gs {G2 : Nat → Nat → Int32} : jj_gs (jj_gs B b len G) b len G2 = jj_gs B b len G2 := by
  funext o
  unfold jj_gs
  by_cases c : b ≤ o ∧ o < b + len
  · rw [if_pos c, if_pos c]
  · rw [if_neg c, if_neg c, if_neg c]
end GS
def fX10_copies_gn_1 (g500 : Nat → Nat → Int32) (s : Int32) (k1 : Nat) (a1 : (Nat → Int32)) : (Nat → Int32) := (upd a1 (k1) (g500 (s : Int32).toNatClampNeg k1))
def rX10_copies_gn_497 (r497 : Nat → Int32) (g500 : Nat → Nat → Int32) (s : Int32) : Nat → Int32 := (jj_fo (fX10_copies_gn_1 g500 s) 35 r497)
set_option maxHeartbeats 1000000 in
theorem sp_X10_copies_gn {d kc ks : Nat} {h : Nat → Nat → Int32} {g : Nat → Nat → Int64} {Q : jj_Rs → jj_St → Prop} {s : Int32} (hs : vp_in s 16) (kq : Q (.inl none) (jj_S, 782, (jj_rs h [(497, (rX10_copies_gn_497 (h 497) (jj_gd h 500 16) s))]), g)) : jj_R mX10_copies (d + 0) kc ks (jj_S, 782, h, g) 0 [(0, .ref (500 + (s : Int32).toNatClampNeg)), (1, .ref 497)] [] Q := by
  refine rr_iconst 0 rfl dX10_copies_0 ?_
  refine rr_istore_n [(0, .ref (500 + (s : Int32).toNatClampNeg)), (1, .ref 497), (2, .int 0)] dX10_copies_1 rfl (by decide) rfl ?_
  refine jj_Rh (jj_addr (B := h) (o := 497) (r := (h 497)) rfl) ?_
  refine jj_for (fun k1 (a1 : (Nat → Int32)) => jj_R _ _ kc ks (jj_S, 782, (jj_rs h [(497, a1)]), g) 2 [(0, .ref (500 + (s : Int32).toNatClampNeg)), (1, .ref 497), (2, .int (nI k1))] [] Q) (fX10_copies_gn_1 (jj_gd h 500 16) s) 35 (h 497) ?_ ?_
  · intro k1 hk1 ih1
    generalize jj_fo _ k1 _ = a1 at ih1 ⊢
    try dsimp only at ih1 ⊢
    refine rr_iload_n 2 rfl rfl dX10_copies_2 ?_
    refine rr_bipush 35 rfl dX10_copies_3 ?_
    refine rr_icmp_ge dX10_copies_5 (fun c => absurd c (nI_ge (a := k1) (b := 35) (by omega) (by omega))) (fun _ => ?_)
    refine rr_aload_n 1 rfl rfl dX10_copies_8 ?_
    refine rr_iload_n 2 rfl rfl dX10_copies_9 ?_
    refine rr_aload_n 0 rfl rfl dX10_copies_10 ?_
    refine rr_iload_n 2 rfl rfl dX10_copies_11 ?_
    refine rr_iaload dX10_copies_12 (lr_499 (jj_ink (i := s) hs)) (sr_499 (jj_ink (i := s) hs)) (vp_in_nI (by omega) (by decide)) ?_
    rw [show (jj_rs h [(497, a1)]) (500 + (s : Int32).toNatClampNeg) = jj_gd h 500 16 (s : Int32).toNatClampNeg from ((jj_gd_at (jj_ink (i := s) hs)).trans (congrFun (jj_gd_rs (B := h) (L := [(497, a1)]) (b := 500) (len := 16) rfl) _))]
    refine rr_iastore dX10_copies_13 lo_497 sh_497 (vp_in_nI (by omega) (by decide)) ?_
    rw [jj_rs_set (B := h) (L := [(497, a1)]) (L2 := [(497, (upd a1 (((nI k1) : Int32).toNatClampNeg) ((jj_gd h 500 16) (s : Int32).toNatClampNeg ((nI k1) : Int32).toNatClampNeg)))]) (r := a1) rfl rfl]
    refine rr_iinc 2 1 [(0, .ref (500 + (s : Int32).toNatClampNeg)), (1, .ref 497), (2, .int ((nI k1) + 1))] dX10_copies_14 rfl rfl (by decide) rfl ?_
    refine rr_goto dX10_copies_17 ?_
    simpa only [nI_1, (nI_clamp (show k1 < 2 ^ 31 by omega)), fX10_copies_gn_1] using ih1
  · try dsimp only
    refine rr_iload_n 2 rfl rfl dX10_copies_2 ?_
    refine rr_bipush 35 rfl dX10_copies_3 ?_
    refine rr_icmp_ge dX10_copies_5 (fun _ => ?_) (fun c => absurd (jj_le_rf _) c)
    refine rr_return dX10_copies_20 rfl ?_
    simpa only [rX10_copies_gn_497] using kq
def fX10_copies_ng_1 (r497 : Nat → Int32) (s : Int32) (k1 : Nat) (a1 : (Nat → Nat → Int32)) : (Nat → Nat → Int32) := (jj_ug a1 ((s : Int32).toNatClampNeg) (k1) (r497 k1))
def qX10_copies_ng_500 (r497 : Nat → Int32) (g500 : Nat → Nat → Int32) (s : Int32) : Nat → Nat → Int32 := (jj_fo (fX10_copies_ng_1 r497 s) 35 g500)
set_option maxHeartbeats 1000000 in
theorem sp_X10_copies_ng {d kc ks : Nat} {h : Nat → Nat → Int32} {g : Nat → Nat → Int64} {Q : jj_Rs → jj_St → Prop} {s : Int32} (hs : vp_in s 16) (kq : Q (.inl none) (jj_S, 782, (jj_gs h 500 16 (qX10_copies_ng_500 (h 497) (jj_gd h 500 16) s)), g)) : jj_R mX10_copies (d + 0) kc ks (jj_S, 782, h, g) 0 [(0, .ref 497), (1, .ref (500 + (s : Int32).toNatClampNeg))] [] Q := by
  refine rr_iconst 0 rfl dX10_copies_0 ?_
  refine rr_istore_n [(0, .ref 497), (1, .ref (500 + (s : Int32).toNatClampNeg)), (2, .int 0)] dX10_copies_1 rfl (by decide) rfl ?_
  refine jj_Rh (jj_gs_id (B := h) (L := []) (b := 500) (len := 16)) ?_
  rw [jj_rs_nil]
  refine jj_for (fun k1 (a1 : (Nat → Nat → Int32)) => jj_R _ _ kc ks (jj_S, 782, (jj_gs h 500 16 a1), g) 2 [(0, .ref 497), (1, .ref (500 + (s : Int32).toNatClampNeg)), (2, .int (nI k1))] [] Q) (fX10_copies_ng_1 (h 497) s) 35 (jj_gd h 500 16) ?_ ?_
  · intro k1 hk1 ih1
    generalize jj_fo _ k1 _ = a1 at ih1 ⊢
    try dsimp only at ih1 ⊢
    refine rr_iload_n 2 rfl rfl dX10_copies_2 ?_
    refine rr_bipush 35 rfl dX10_copies_3 ?_
    refine rr_icmp_ge dX10_copies_5 (fun c => absurd c (nI_ge (a := k1) (b := 35) (by omega) (by omega))) (fun _ => ?_)
    refine rr_aload_n 1 rfl rfl dX10_copies_8 ?_
    refine rr_iload_n 2 rfl rfl dX10_copies_9 ?_
    refine rr_aload_n 0 rfl rfl dX10_copies_10 ?_
    refine rr_iload_n 2 rfl rfl dX10_copies_11 ?_
    refine rr_iaload dX10_copies_12 lo_497 sh_497 (vp_in_nI (by omega) (by decide)) ?_
    rw [show (jj_gs h 500 16 a1) 497 = h 497 from rfl]
    refine rr_iastore dX10_copies_13 (lr_499 (jj_ink (i := s) hs)) (sr_499 (jj_ink (i := s) hs)) (vp_in_nI (by omega) (by decide)) ?_
    refine jj_Rh (jj_gs_set (B := h) (L := []) (b := 500) (len := 16) (G := a1) (x := (s : Int32).toNatClampNeg) rfl (jj_ink (i := s) hs)) ?_
    rw [jj_rs_nil]
    refine rr_iinc 2 1 [(0, .ref 497), (1, .ref (500 + (s : Int32).toNatClampNeg)), (2, .int ((nI k1) + 1))] dX10_copies_14 rfl rfl (by decide) rfl ?_
    refine rr_goto dX10_copies_17 ?_
    simpa only [nI_1, (nI_clamp (show k1 < 2 ^ 31 by omega)), fX10_copies_ng_1] using ih1
  · try dsimp only
    refine rr_iload_n 2 rfl rfl dX10_copies_2 ?_
    refine rr_bipush 35 rfl dX10_copies_3 ?_
    refine rr_icmp_ge dX10_copies_5 (fun _ => ?_) (fun c => absurd (jj_le_rf _) c)
    refine rr_return dX10_copies_20 rfl ?_
    simpa only [qX10_copies_ng_500] using kq
