/-! ===== rows of rows, by a function of two numbers ===== -/
theorem jj_ink {i : Int32} {n : Nat} (h : vp_in i n) : i.toNatClampNeg < n := Nat.lt_of_not_le (fun q => h (Or.inr q))
def jj_gd (h : Nat → Nat → Int32) (b len : Nat) : Nat → Nat → Int32 := fun j => if j < len then h (b + j) else fun _ => 0
theorem jj_gd_at {h : Nat → Nat → Int32} {b len x : Nat} (hx : x < len) : h (b + x) = jj_gd h b len x := (if_pos hx).symm
theorem jj_lk_out {b len j : Nat} (hj : j < len) : ∀ {L : List (Nat × (Nat → Int32))}, L.all (fun q => decide (q.1 < b) || decide (b + len ≤ q.1)) = true → L.lookup (b + j) = none
  | [], _ => rfl
  | q :: r, h => by
    simp only [List.all_cons, Bool.and_eq_true, Bool.or_eq_true, decide_eq_true_eq] at h
    have e : (b + j == q.1) = false := by
      rw [beq_eq_false_iff_ne]
      omega
    simp only [List.lookup, e]
    exact jj_lk_out hj h.2
theorem jj_rs_out {B : Nat → Nat → Int32} {L : List (Nat × (Nat → Int32))} {b len j : Nat} (hl : L.all (fun q => decide (q.1 < b) || decide (b + len ≤ q.1)) = true) (hj : j < len) : jj_rs B L (b + j) = B (b + j) := by
  unfold jj_rs
  rw [jj_lk_out hj hl]
theorem jj_gd_rs {B : Nat → Nat → Int32} {L : List (Nat × (Nat → Int32))} {b len : Nat} (hl : L.all (fun q => decide (q.1 < b) || decide (b + len ≤ q.1)) = true) : jj_gd (jj_rs B L) b len = jj_gd B b len := by
  funext j
  unfold jj_gd
  by_cases hj : j < len
  · rw [if_pos hj, if_pos hj]; exact jj_rs_out hl hj
  · rw [if_neg hj, if_neg hj]
theorem jj_gd_eq {X : List Nat} {h B : Nat → Nat → Int32} {b len : Nat} (e : jj_eq X h B) (hX : X.all (fun o => decide (o < b) || decide (b + len ≤ o)) = true) : jj_gd B b len = jj_gd h b len := by
  funext j
  unfold jj_gd
  by_cases hj : j < len
  · rw [if_pos hj, if_pos hj]
    refine e (b + j) (fun q => ?_)
    have := List.all_eq_true.mp hX _ q
    simp only [Bool.or_eq_true, decide_eq_true_eq] at this
    omega
  · rw [if_neg hj, if_neg hj]
def vX10_in (v : Int32) (a : Int32) (b : Int32) : Int32 := (if v < a then 0 else (if b < v then 0 else 1))
set_option maxHeartbeats 1000000 in
theorem sp_X10_in {d kc ks : Nat} {h : Nat → Nat → Int32} {g : Nat → Nat → Int64} {Q : jj_Rs → jj_St → Prop} {v : Int32} {a : Int32} {b : Int32} (kq : Q (.inl (some (.int (vX10_in v a b)))) (jj_S, 782, h, g)) : jj_R mX10_in (d + 0) kc ks (jj_S, 782, h, g) 0 [(0, .int v), (1, .int a), (2, .int b)] [] Q := by
  refine rr_iload_n 0 rfl rfl dX10_in_0 ?_
  refine rr_iload_n 1 rfl rfl dX10_in_1 ?_
  refine rr_icmp_lt dX10_in_2 (fun c1 => ?_) (fun c1 => ?_)
  · skip
    refine rr_iconst 0 rfl dX10_in_14 ?_
    refine rr_nreturn dX10_in_15 rfl (by first | rfl | assumption) ?_
    simpa only [vX10_in, if_pos c1] using kq
  · skip
    refine rr_iload_n 0 rfl rfl dX10_in_5 ?_
    refine rr_iload_n 2 rfl rfl dX10_in_6 ?_
    refine rr_icmp_gt dX10_in_7 (fun c2 => ?_) (fun c2 => ?_)
    · skip
      refine rr_iconst 0 rfl dX10_in_14 ?_
      refine rr_nreturn dX10_in_15 rfl (by first | rfl | assumption) ?_
      simpa only [vX10_in, if_neg c1, if_pos c2] using kq
    · skip
      refine rr_iconst 1 rfl dX10_in_10 ?_
      refine rr_goto dX10_in_11 ?_
      refine rr_nreturn dX10_in_15 rfl (by first | rfl | assumption) ?_
      simpa only [vX10_in, if_neg c1, if_neg c2] using kq
def vX10_less (a : Int32) (b : Int32) : Int32 := (if b ≤ a then b else a)
set_option maxHeartbeats 1000000 in
theorem sp_X10_less {d kc ks : Nat} {h : Nat → Nat → Int32} {g : Nat → Nat → Int64} {Q : jj_Rs → jj_St → Prop} {a : Int32} {b : Int32} (kq : Q (.inl (some (.int (vX10_less a b)))) (jj_S, 782, h, g)) : jj_R mX10_less (d + 0) kc ks (jj_S, 782, h, g) 0 [(0, .int a), (1, .int b)] [] Q := by
  refine rr_iload_n 0 rfl rfl dX10_less_0 ?_
  refine rr_iload_n 1 rfl rfl dX10_less_1 ?_
  refine rr_icmp_ge dX10_less_2 (fun c1 => ?_) (fun c1 => ?_)
  · skip
    refine rr_iload_n 1 rfl rfl dX10_less_9 ?_
    refine rr_ireturn dX10_less_10 rfl ?_
    simpa only [vX10_less, if_pos c1] using kq
  · skip
    refine rr_iload_n 0 rfl rfl dX10_less_5 ?_
    refine rr_goto dX10_less_6 ?_
    refine rr_ireturn dX10_less_10 rfl ?_
    simpa only [vX10_less, if_neg c1] using kq
def vX10_more (a : Int32) (b : Int32) : Int32 := (if a ≤ b then b else a)
set_option maxHeartbeats 1000000 in
theorem sp_X10_more {d kc ks : Nat} {h : Nat → Nat → Int32} {g : Nat → Nat → Int64} {Q : jj_Rs → jj_St → Prop} {a : Int32} {b : Int32} (kq : Q (.inl (some (.int (vX10_more a b)))) (jj_S, 782, h, g)) : jj_R mX10_more (d + 0) kc ks (jj_S, 782, h, g) 0 [(0, .int a), (1, .int b)] [] Q := by
  refine rr_iload_n 0 rfl rfl dX10_more_0 ?_
  refine rr_iload_n 1 rfl rfl dX10_more_1 ?_
  refine rr_icmp_le dX10_more_2 (fun c1 => ?_) (fun c1 => ?_)
  · skip
    refine rr_iload_n 1 rfl rfl dX10_more_9 ?_
    refine rr_ireturn dX10_more_10 rfl ?_
    simpa only [vX10_more, if_pos c1] using kq
  · skip
    refine rr_iload_n 0 rfl rfl dX10_more_5 ?_
    refine rr_goto dX10_more_6 ?_
    refine rr_ireturn dX10_more_10 rfl ?_
    simpa only [vX10_more, if_neg c1] using kq
def vX10_has (b : Int32) (k : Int32) : Int32 := (if ((b >>> (k &&& 31)) &&& 1) = 1 then 1 else 0)
set_option maxHeartbeats 1000000 in
theorem sp_X10_has {d kc ks : Nat} {h : Nat → Nat → Int32} {g : Nat → Nat → Int64} {Q : jj_Rs → jj_St → Prop} {b : Int32} {k : Int32} (kq : Q (.inl (some (.int (vX10_has b k)))) (jj_S, 782, h, g)) : jj_R mX10_has (d + 0) kc ks (jj_S, 782, h, g) 0 [(0, .int b), (1, .int k)] [] Q := by
  refine rr_iload_n 0 rfl rfl dX10_has_0 ?_
  refine rr_iload_n 1 rfl rfl dX10_has_1 ?_
  refine rr_ishr dX10_has_2 ?_
  refine rr_iconst 1 rfl dX10_has_3 ?_
  refine rr_iand dX10_has_4 ?_
  refine rr_iconst 1 rfl dX10_has_5 ?_
  refine rr_icmp_ne dX10_has_6 (fun c1 => ?_) (fun c1 => ?_)
  · skip
    refine rr_iconst 0 rfl dX10_has_13 ?_
    refine rr_nreturn dX10_has_14 rfl (by first | rfl | assumption) ?_
    simpa only [vX10_has, if_neg c1] using kq
  · skip
    refine rr_iconst 1 rfl dX10_has_9 ?_
    refine rr_goto dX10_has_10 ?_
    refine rr_nreturn dX10_has_14 rfl (by first | rfl | assumption) ?_
    simpa only [vX10_has, if_pos c1] using kq
def vX10_isDigit (c : Int32) : Int32 := (if c < 48 then 0 else (if 57 < c then 0 else 1))
set_option maxHeartbeats 1000000 in
theorem sp_X10_isDigit {d kc ks : Nat} {h : Nat → Nat → Int32} {g : Nat → Nat → Int64} {Q : jj_Rs → jj_St → Prop} {c : Int32} (kq : Q (.inl (some (.int (vX10_isDigit c)))) (jj_S, 782, h, g)) : jj_R mX10_isDigit (d + 0) kc ks (jj_S, 782, h, g) 0 [(0, .int c)] [] Q := by
  refine rr_iload_n 0 rfl rfl dX10_isDigit_0 ?_
  refine rr_bipush 48 rfl dX10_isDigit_1 ?_
  refine rr_icmp_lt dX10_isDigit_3 (fun c1 => ?_) (fun c1 => ?_)
  · skip
    refine rr_iconst 0 rfl dX10_isDigit_16 ?_
    refine rr_nreturn dX10_isDigit_17 rfl (by first | rfl | assumption) ?_
    simpa only [vX10_isDigit, if_pos c1] using kq
  · skip
    refine rr_iload_n 0 rfl rfl dX10_isDigit_6 ?_
    refine rr_bipush 57 rfl dX10_isDigit_7 ?_
    refine rr_icmp_gt dX10_isDigit_9 (fun c2 => ?_) (fun c2 => ?_)
    · skip
      refine rr_iconst 0 rfl dX10_isDigit_16 ?_
      refine rr_nreturn dX10_isDigit_17 rfl (by first | rfl | assumption) ?_
      simpa only [vX10_isDigit, if_neg c1, if_pos c2] using kq
    · skip
      refine rr_iconst 1 rfl dX10_isDigit_12 ?_
      refine rr_goto dX10_isDigit_13 ?_
      refine rr_nreturn dX10_isDigit_17 rfl (by first | rfl | assumption) ?_
      simpa only [vX10_isDigit, if_neg c1, if_neg c2] using kq
def vX10_isSmall (c : Int32) : Int32 := (if c < 97 then 0 else (if 122 < c then 0 else 1))
set_option maxHeartbeats 1000000 in
theorem sp_X10_isSmall {d kc ks : Nat} {h : Nat → Nat → Int32} {g : Nat → Nat → Int64} {Q : jj_Rs → jj_St → Prop} {c : Int32} (kq : Q (.inl (some (.int (vX10_isSmall c)))) (jj_S, 782, h, g)) : jj_R mX10_isSmall (d + 0) kc ks (jj_S, 782, h, g) 0 [(0, .int c)] [] Q := by
  refine rr_iload_n 0 rfl rfl dX10_isSmall_0 ?_
  refine rr_bipush 97 rfl dX10_isSmall_1 ?_
  refine rr_icmp_lt dX10_isSmall_3 (fun c1 => ?_) (fun c1 => ?_)
  · skip
    refine rr_iconst 0 rfl dX10_isSmall_16 ?_
    refine rr_nreturn dX10_isSmall_17 rfl (by first | rfl | assumption) ?_
    simpa only [vX10_isSmall, if_pos c1] using kq
  · skip
    refine rr_iload_n 0 rfl rfl dX10_isSmall_6 ?_
    refine rr_bipush 122 rfl dX10_isSmall_7 ?_
    refine rr_icmp_gt dX10_isSmall_9 (fun c2 => ?_) (fun c2 => ?_)
    · skip
      refine rr_iconst 0 rfl dX10_isSmall_16 ?_
      refine rr_nreturn dX10_isSmall_17 rfl (by first | rfl | assumption) ?_
      simpa only [vX10_isSmall, if_neg c1, if_pos c2] using kq
    · skip
      refine rr_iconst 1 rfl dX10_isSmall_12 ?_
      refine rr_goto dX10_isSmall_13 ?_
      refine rr_nreturn dX10_isSmall_17 rfl (by first | rfl | assumption) ?_
      simpa only [vX10_isSmall, if_neg c1, if_neg c2] using kq
def vX10_six (a : Int32) (b : Int32) (c : Int32) (d_ : Int32) (e : Int32) (f : Int32) : Int32 := (if d_ = 0 then (if e = 0 then (if f = 0 then (((27 : Int32) * (((27 : Int32) * a) + b)) + c) else (((27 : Int32) * (((27 : Int32) * (((27 : Int32) * a) + b)) + c)) + f)) else (if f = 0 then (((27 : Int32) * (((27 : Int32) * (((27 : Int32) * a) + b)) + c)) + e) else (((27 : Int32) * (((27 : Int32) * (((27 : Int32) * (((27 : Int32) * a) + b)) + c)) + e)) + f))) else (if e = 0 then (if f = 0 then (((27 : Int32) * (((27 : Int32) * (((27 : Int32) * a) + b)) + c)) + d_) else (((27 : Int32) * (((27 : Int32) * (((27 : Int32) * (((27 : Int32) * a) + b)) + c)) + d_)) + f)) else (if f = 0 then (((27 : Int32) * (((27 : Int32) * (((27 : Int32) * (((27 : Int32) * a) + b)) + c)) + d_)) + e) else (((27 : Int32) * (((27 : Int32) * (((27 : Int32) * (((27 : Int32) * (((27 : Int32) * a) + b)) + c)) + d_)) + e)) + f))))
set_option maxHeartbeats 1000000 in
theorem sp_X10_six {d kc ks : Nat} {h : Nat → Nat → Int32} {g : Nat → Nat → Int64} {Q : jj_Rs → jj_St → Prop} {a : Int32} {b : Int32} {c : Int32} {d_ : Int32} {e : Int32} {f : Int32} (kq : Q (.inl (some (.int (vX10_six a b c d_ e f)))) (jj_S, 782, h, g)) : jj_R mX10_six (d + 0) kc ks (jj_S, 782, h, g) 0 [(0, .int a), (1, .int b), (2, .int c), (3, .int d_), (4, .int e), (5, .int f)] [] Q := by
  refine rr_bipush 27 rfl dX10_six_0 ?_
  refine rr_bipush 27 rfl dX10_six_2 ?_
  refine rr_iload_n 0 rfl rfl dX10_six_4 ?_
  refine rr_imul dX10_six_5 ?_
  refine rr_iload_n 1 rfl rfl dX10_six_6 ?_
  refine rr_iadd dX10_six_7 ?_
  refine rr_imul dX10_six_8 ?_
  refine rr_iload_n 2 rfl rfl dX10_six_9 ?_
  refine rr_iadd dX10_six_10 ?_
  refine rr_istore [(0, .int a), (1, .int b), (2, .int c), (3, .int d_), (4, .int e), (5, .int f), (6, .int (((27 : Int32) * (((27 : Int32) * a) + b)) + c))] dX10_six_11 (by decide) rfl ?_
  refine rr_iload_n 3 rfl rfl dX10_six_13 ?_
  refine rr_if_ne dX10_six_14 (fun c1 => ?_) (fun c1 => ?_)
  · skip
    refine rr_bipush 27 rfl dX10_six_22 ?_
    refine rr_iload 6 rfl dX10_six_24 ?_
    refine rr_imul dX10_six_26 ?_
    refine rr_iload_n 3 rfl rfl dX10_six_27 ?_
    refine rr_iadd dX10_six_28 ?_
    refine rr_istore [(0, .int a), (1, .int b), (2, .int c), (3, .int d_), (4, .int e), (5, .int f), (6, .int (((27 : Int32) * (((27 : Int32) * (((27 : Int32) * a) + b)) + c)) + d_))] dX10_six_29 (by decide) rfl ?_
    refine rr_iload 4 rfl dX10_six_31 ?_
    refine rr_if_ne dX10_six_33 (fun c2 => ?_) (fun c2 => ?_)
    · skip
      refine rr_bipush 27 rfl dX10_six_41 ?_
      refine rr_iload 6 rfl dX10_six_43 ?_
      refine rr_imul dX10_six_45 ?_
      refine rr_iload 4 rfl dX10_six_46 ?_
      refine rr_iadd dX10_six_48 ?_
      refine rr_istore [(0, .int a), (1, .int b), (2, .int c), (3, .int d_), (4, .int e), (5, .int f), (6, .int (((27 : Int32) * (((27 : Int32) * (((27 : Int32) * (((27 : Int32) * a) + b)) + c)) + d_)) + e))] dX10_six_49 (by decide) rfl ?_
      refine rr_iload 5 rfl dX10_six_51 ?_
      refine rr_if_ne dX10_six_53 (fun c3 => ?_) (fun c3 => ?_)
      · skip
        refine rr_bipush 27 rfl dX10_six_61 ?_
        refine rr_iload 6 rfl dX10_six_63 ?_
        refine rr_imul dX10_six_65 ?_
        refine rr_iload 5 rfl dX10_six_66 ?_
        refine rr_iadd dX10_six_68 ?_
        refine rr_ireturn dX10_six_69 rfl ?_
        simpa only [vX10_six, if_neg c1, if_neg c2, if_neg c3] using kq
      · skip
        refine rr_iload 6 rfl dX10_six_56 ?_
        refine rr_goto dX10_six_58 ?_
        refine rr_ireturn dX10_six_69 rfl ?_
        simpa only [vX10_six, if_neg c1, if_neg c2, if_pos c3] using kq
    · skip
      refine rr_iload 6 rfl dX10_six_36 ?_
      refine rr_goto dX10_six_38 ?_
      refine rr_istore [(0, .int a), (1, .int b), (2, .int c), (3, .int d_), (4, .int e), (5, .int f), (6, .int (((27 : Int32) * (((27 : Int32) * (((27 : Int32) * a) + b)) + c)) + d_))] dX10_six_49 (by decide) rfl ?_
      refine rr_iload 5 rfl dX10_six_51 ?_
      refine rr_if_ne dX10_six_53 (fun c4 => ?_) (fun c4 => ?_)
      · skip
        refine rr_bipush 27 rfl dX10_six_61 ?_
        refine rr_iload 6 rfl dX10_six_63 ?_
        refine rr_imul dX10_six_65 ?_
        refine rr_iload 5 rfl dX10_six_66 ?_
        refine rr_iadd dX10_six_68 ?_
        refine rr_ireturn dX10_six_69 rfl ?_
        simpa only [vX10_six, if_neg c1, if_pos c2, if_neg c4] using kq
      · skip
        refine rr_iload 6 rfl dX10_six_56 ?_
        refine rr_goto dX10_six_58 ?_
        refine rr_ireturn dX10_six_69 rfl ?_
        simpa only [vX10_six, if_neg c1, if_pos c2, if_pos c4] using kq
  · skip
    refine rr_iload 6 rfl dX10_six_17 ?_
    refine rr_goto dX10_six_19 ?_
    refine rr_istore [(0, .int a), (1, .int b), (2, .int c), (3, .int d_), (4, .int e), (5, .int f), (6, .int (((27 : Int32) * (((27 : Int32) * a) + b)) + c))] dX10_six_29 (by decide) rfl ?_
    refine rr_iload 4 rfl dX10_six_31 ?_
    refine rr_if_ne dX10_six_33 (fun c5 => ?_) (fun c5 => ?_)
    · skip
      refine rr_bipush 27 rfl dX10_six_41 ?_
      refine rr_iload 6 rfl dX10_six_43 ?_
      refine rr_imul dX10_six_45 ?_
      refine rr_iload 4 rfl dX10_six_46 ?_
      refine rr_iadd dX10_six_48 ?_
      refine rr_istore [(0, .int a), (1, .int b), (2, .int c), (3, .int d_), (4, .int e), (5, .int f), (6, .int (((27 : Int32) * (((27 : Int32) * (((27 : Int32) * a) + b)) + c)) + e))] dX10_six_49 (by decide) rfl ?_
      refine rr_iload 5 rfl dX10_six_51 ?_
      refine rr_if_ne dX10_six_53 (fun c6 => ?_) (fun c6 => ?_)
      · skip
        refine rr_bipush 27 rfl dX10_six_61 ?_
        refine rr_iload 6 rfl dX10_six_63 ?_
        refine rr_imul dX10_six_65 ?_
        refine rr_iload 5 rfl dX10_six_66 ?_
        refine rr_iadd dX10_six_68 ?_
        refine rr_ireturn dX10_six_69 rfl ?_
        simpa only [vX10_six, if_pos c1, if_neg c5, if_neg c6] using kq
      · skip
        refine rr_iload 6 rfl dX10_six_56 ?_
        refine rr_goto dX10_six_58 ?_
        refine rr_ireturn dX10_six_69 rfl ?_
        simpa only [vX10_six, if_pos c1, if_neg c5, if_pos c6] using kq
    · skip
      refine rr_iload 6 rfl dX10_six_36 ?_
      refine rr_goto dX10_six_38 ?_
      refine rr_istore [(0, .int a), (1, .int b), (2, .int c), (3, .int d_), (4, .int e), (5, .int f), (6, .int (((27 : Int32) * (((27 : Int32) * a) + b)) + c))] dX10_six_49 (by decide) rfl ?_
      refine rr_iload 5 rfl dX10_six_51 ?_
      refine rr_if_ne dX10_six_53 (fun c7 => ?_) (fun c7 => ?_)
      · skip
        refine rr_bipush 27 rfl dX10_six_61 ?_
        refine rr_iload 6 rfl dX10_six_63 ?_
        refine rr_imul dX10_six_65 ?_
        refine rr_iload 5 rfl dX10_six_66 ?_
        refine rr_iadd dX10_six_68 ?_
        refine rr_ireturn dX10_six_69 rfl ?_
        simpa only [vX10_six, if_pos c1, if_pos c5, if_neg c7] using kq
      · skip
        refine rr_iload 6 rfl dX10_six_56 ?_
        refine rr_goto dX10_six_58 ?_
        refine rr_ireturn dX10_six_69 rfl ?_
        simpa only [vX10_six, if_pos c1, if_pos c5, if_pos c7] using kq
def vX10_off (a : Int32) (b : Int32) : Int32 := (if a ≤ b then (b - a) else (a - b))
set_option maxHeartbeats 1000000 in
theorem sp_X10_off {d kc ks : Nat} {h : Nat → Nat → Int32} {g : Nat → Nat → Int64} {Q : jj_Rs → jj_St → Prop} {a : Int32} {b : Int32} (kq : Q (.inl (some (.int (vX10_off a b)))) (jj_S, 782, h, g)) : jj_R mX10_off (d + 0) kc ks (jj_S, 782, h, g) 0 [(0, .int a), (1, .int b)] [] Q := by
  refine rr_iload_n 0 rfl rfl dX10_off_0 ?_
  refine rr_iload_n 1 rfl rfl dX10_off_1 ?_
  refine rr_icmp_le dX10_off_2 (fun c1 => ?_) (fun c1 => ?_)
  · skip
    refine rr_iload_n 1 rfl rfl dX10_off_11 ?_
    refine rr_iload_n 0 rfl rfl dX10_off_12 ?_
    refine rr_isub dX10_off_13 ?_
    refine rr_ireturn dX10_off_14 rfl ?_
    simpa only [vX10_off, if_pos c1] using kq
  · skip
    refine rr_iload_n 0 rfl rfl dX10_off_5 ?_
    refine rr_iload_n 1 rfl rfl dX10_off_6 ?_
    refine rr_isub dX10_off_7 ?_
    refine rr_goto dX10_off_8 ?_
    refine rr_ireturn dX10_off_14 rfl ?_
    simpa only [vX10_off, if_neg c1] using kq
def vX10_hasBy (a : Int32) (b : Int32) (v : Int32) (w : Int32) : Int32 := (if a = b then (if a = 0 then (-w) else w) else (if a = 0 then v else 0))
set_option maxHeartbeats 1000000 in
theorem sp_X10_hasBy {d kc ks : Nat} {h : Nat → Nat → Int32} {g : Nat → Nat → Int64} {Q : jj_Rs → jj_St → Prop} {a : Int32} {b : Int32} {v : Int32} {w : Int32} (kq : Q (.inl (some (.int (vX10_hasBy a b v w)))) (jj_S, 782, h, g)) : jj_R mX10_hasBy (d + 0) kc ks (jj_S, 782, h, g) 0 [(0, .int a), (1, .int b), (2, .int v), (3, .int w)] [] Q := by
  refine rr_iload_n 0 rfl rfl dX10_hasBy_0 ?_
  refine rr_iload_n 1 rfl rfl dX10_hasBy_1 ?_
  refine rr_icmp_ne dX10_hasBy_2 (fun c1 => ?_) (fun c1 => ?_)
  · skip
    refine rr_iload_n 0 rfl rfl dX10_hasBy_18 ?_
    refine rr_if_ne dX10_hasBy_19 (fun c2 => ?_) (fun c2 => ?_)
    · skip
      refine rr_iconst 0 rfl dX10_hasBy_26 ?_
      refine rr_ireturn dX10_hasBy_27 rfl ?_
      simpa only [vX10_hasBy, if_neg c1, if_neg c2] using kq
    · skip
      refine rr_iload_n 2 rfl rfl dX10_hasBy_22 ?_
      refine rr_goto dX10_hasBy_23 ?_
      refine rr_ireturn dX10_hasBy_27 rfl ?_
      simpa only [vX10_hasBy, if_neg c1, if_pos c2] using kq
  · skip
    refine rr_iload_n 0 rfl rfl dX10_hasBy_5 ?_
    refine rr_if_ne dX10_hasBy_6 (fun c3 => ?_) (fun c3 => ?_)
    · skip
      refine rr_iload_n 3 rfl rfl dX10_hasBy_14 ?_
      refine rr_goto dX10_hasBy_15 ?_
      refine rr_ireturn dX10_hasBy_27 rfl ?_
      simpa only [vX10_hasBy, if_pos c1, if_neg c3] using kq
    · skip
      refine rr_iload_n 3 rfl rfl dX10_hasBy_9 ?_
      refine rr_ineg dX10_hasBy_10 ?_
      refine rr_goto dX10_hasBy_11 ?_
      refine rr_ireturn dX10_hasBy_27 rfl ?_
      simpa only [vX10_hasBy, if_pos c1, if_pos c3] using kq
def vX10_isBest (a : Int32) (b : Int32) (v : Int32) (w : Int32) : Int32 := (if (vX10_hasBy a b v w) < (vX10_hasBy ((1 : Int32) - a) b v w) then 0 else 1)
set_option maxHeartbeats 1000000 in
theorem sp_X10_isBest {d kc ks : Nat} {h : Nat → Nat → Int32} {g : Nat → Nat → Int64} {Q : jj_Rs → jj_St → Prop} {a : Int32} {b : Int32} {v : Int32} {w : Int32} (kq : Q (.inl (some (.int (vX10_isBest a b v w)))) (jj_S, 782, h, g)) : jj_R mX10_isBest (d + 1) kc ks (jj_S, 782, h, g) 0 [(0, .int a), (1, .int b), (2, .int v), (3, .int w)] [] Q := by
  refine rr_iload_n 0 rfl rfl dX10_isBest_0 ?_
  refine rr_iload_n 1 rfl rfl dX10_isBest_1 ?_
  refine rr_iload_n 2 rfl rfl dX10_isBest_2 ?_
  refine rr_iload_n 3 rfl rfl dX10_isBest_3 ?_
  refine rr_callS (As := [.int a, .int b, .int v, .int w]) (rest := []) (kc2 := 0) (ks2 := 0) dX10_isBest_4 okX10_hasBy lX10_358 rfl (Nat.le_of_ble_eq_true rfl) (Nat.le_of_ble_eq_true rfl) rfl (by omega) (by simp [jj_rk]) (by simp [jj_rk]) ?_
  refine sp_X10_hasBy  ?_
  show jj_R _ _ kc ks (jj_S, 782, h, g) 7 [(0, .int a), (1, .int b), (2, .int v), (3, .int w)] [.int (vX10_hasBy a b v w)] Q
  refine rr_iconst 1 rfl dX10_isBest_7 ?_
  refine rr_iload_n 0 rfl rfl dX10_isBest_8 ?_
  refine rr_isub dX10_isBest_9 ?_
  refine rr_iload_n 1 rfl rfl dX10_isBest_10 ?_
  refine rr_iload_n 2 rfl rfl dX10_isBest_11 ?_
  refine rr_iload_n 3 rfl rfl dX10_isBest_12 ?_
  refine rr_callS (As := [.int ((1 : Int32) - a), .int b, .int v, .int w]) (rest := [.int (vX10_hasBy a b v w)]) (kc2 := 0) (ks2 := 0) dX10_isBest_13 okX10_hasBy lX10_358 rfl (Nat.le_of_ble_eq_true rfl) (Nat.le_of_ble_eq_true rfl) rfl (by omega) (by simp [jj_rk]) (by simp [jj_rk]) ?_
  refine sp_X10_hasBy  ?_
  show jj_R _ _ kc ks (jj_S, 782, h, g) 16 [(0, .int a), (1, .int b), (2, .int v), (3, .int w)] [.int (vX10_hasBy ((1 : Int32) - a) b v w), .int (vX10_hasBy a b v w)] Q
  refine rr_icmp_lt dX10_isBest_16 (fun c1 => ?_) (fun c1 => ?_)
  · skip
    refine rr_iconst 0 rfl dX10_isBest_23 ?_
    refine rr_nreturn dX10_isBest_24 rfl (by first | rfl | assumption) ?_
    simpa only [vX10_isBest, if_pos c1] using kq
  · skip
    refine rr_iconst 1 rfl dX10_isBest_19 ?_
    refine rr_goto dX10_isBest_20 ?_
    refine rr_nreturn dX10_isBest_24 rfl (by first | rfl | assumption) ?_
    simpa only [vX10_isBest, if_neg c1] using kq
def vX10_isWeek (a : Int32) (q : Int32) : Int32 := (if (vX10_in a 1 96) = 0 then 0 else (if (vX10_in q 0 16) = 0 then 0 else 1))
set_option maxHeartbeats 1000000 in
theorem sp_X10_isWeek {d kc ks : Nat} {h : Nat → Nat → Int32} {g : Nat → Nat → Int64} {Q : jj_Rs → jj_St → Prop} {a : Int32} {q : Int32} (kq : Q (.inl (some (.int (vX10_isWeek a q)))) (jj_S, 782, h, g)) : jj_R mX10_isWeek (d + 1) kc ks (jj_S, 782, h, g) 0 [(0, .int a), (1, .int q)] [] Q := by
  refine rr_iload_n 0 rfl rfl dX10_isWeek_0 ?_
  refine rr_iconst 1 rfl dX10_isWeek_1 ?_
  refine rr_bipush 96 rfl dX10_isWeek_2 ?_
  refine rr_callS (As := [.int a, .int 1, .int 96]) (rest := []) (kc2 := 0) (ks2 := 0) dX10_isWeek_4 okX10_in lX10_129 rfl (Nat.le_of_ble_eq_true rfl) (Nat.le_of_ble_eq_true rfl) rfl (by omega) (by simp [jj_rk]) (by simp [jj_rk]) ?_
  refine sp_X10_in  ?_
  show jj_R _ _ kc ks (jj_S, 782, h, g) 7 [(0, .int a), (1, .int q)] [.int (vX10_in a 1 96)] Q
  refine rr_if_eq dX10_isWeek_7 (fun c1 => ?_) (fun c1 => ?_)
  · skip
    refine rr_iconst 0 rfl dX10_isWeek_24 ?_
    refine rr_nreturn dX10_isWeek_25 rfl (by first | rfl | assumption) ?_
    simpa only [vX10_isWeek, if_pos c1] using kq
  · skip
    refine rr_iload_n 1 rfl rfl dX10_isWeek_10 ?_
    refine rr_iconst 0 rfl dX10_isWeek_11 ?_
    refine rr_bipush 16 rfl dX10_isWeek_12 ?_
    refine rr_callS (As := [.int q, .int 0, .int 16]) (rest := []) (kc2 := 0) (ks2 := 0) dX10_isWeek_14 okX10_in lX10_129 rfl (Nat.le_of_ble_eq_true rfl) (Nat.le_of_ble_eq_true rfl) rfl (by omega) (by simp [jj_rk]) (by simp [jj_rk]) ?_
    refine sp_X10_in  ?_
    show jj_R _ _ kc ks (jj_S, 782, h, g) 17 [(0, .int a), (1, .int q)] [.int (vX10_in q 0 16)] Q
    refine rr_if_eq dX10_isWeek_17 (fun c2 => ?_) (fun c2 => ?_)
    · skip
      refine rr_iconst 0 rfl dX10_isWeek_24 ?_
      refine rr_nreturn dX10_isWeek_25 rfl (by first | rfl | assumption) ?_
      simpa only [vX10_isWeek, if_neg c1, if_pos c2] using kq
    · skip
      refine rr_iconst 1 rfl dX10_isWeek_20 ?_
      refine rr_goto dX10_isWeek_21 ?_
      refine rr_nreturn dX10_isWeek_25 rfl (by first | rfl | assumption) ?_
      simpa only [vX10_isWeek, if_neg c1, if_neg c2] using kq
def vX10_by (s : Int32) (x : Int32) (y : Int32) : Int32 := (if s = 2 then (x + y) else (if s = 3 then (x - y) else (if s = 4 then (x * y) else (if s = 5 then (if y = 0 then 0 else (if y = (-1) then (-x) else (x / y))) else (if s = 6 then (if y = 0 then 0 else (if y = (-1) then 0 else (x - x / y * y))) else (if s = 7 then (vX10_less x y) else (vX10_more x y)))))))
set_option maxHeartbeats 1000000 in
theorem sp_X10_by {d kc ks : Nat} {h : Nat → Nat → Int32} {g : Nat → Nat → Int64} {Q : jj_Rs → jj_St → Prop} {s : Int32} {x : Int32} {y : Int32} (kq : Q (.inl (some (.int (vX10_by s x y)))) (jj_S, 782, h, g)) : jj_R mX10_by (d + 1) kc ks (jj_S, 782, h, g) 0 [(0, .int s), (1, .int x), (2, .int y)] [] Q := by
  refine rr_iload_n 0 rfl rfl dX10_by_0 ?_
  by_cases c1 : s = 2
  · skip
    refine rr_tcase (tgt := 40) c1 39 dX10_by_1 (by decide) (by decide) (by decide) (by decide) ?_
    refine rr_iload_n 1 rfl rfl dX10_by_40 ?_
    refine rr_iload_n 2 rfl rfl dX10_by_41 ?_
    refine rr_iadd dX10_by_42 ?_
    refine rr_ireturn dX10_by_43 rfl ?_
    simpa only [vX10_by, if_pos c1] using kq
  · skip
    by_cases c2 : s = 3
    · skip
      refine rr_tcase (tgt := 44) c2 43 dX10_by_1 (by decide) (by decide) (by decide) (by decide) ?_
      refine rr_iload_n 1 rfl rfl dX10_by_44 ?_
      refine rr_iload_n 2 rfl rfl dX10_by_45 ?_
      refine rr_isub dX10_by_46 ?_
      refine rr_ireturn dX10_by_47 rfl ?_
      simpa only [vX10_by, if_neg c1, if_pos c2] using kq
    · skip
      by_cases c3 : s = 4
      · skip
        refine rr_tcase (tgt := 48) c3 47 dX10_by_1 (by decide) (by decide) (by decide) (by decide) ?_
        refine rr_iload_n 1 rfl rfl dX10_by_48 ?_
        refine rr_iload_n 2 rfl rfl dX10_by_49 ?_
        refine rr_imul dX10_by_50 ?_
        refine rr_ireturn dX10_by_51 rfl ?_
        simpa only [vX10_by, if_neg c1, if_neg c2, if_pos c3] using kq
      · skip
        by_cases c4 : s = 5
        · skip
          refine rr_tcase (tgt := 52) c4 51 dX10_by_1 (by decide) (by decide) (by decide) (by decide) ?_
          refine rr_iload_n 2 rfl rfl dX10_by_52 ?_
          refine rr_if_ne dX10_by_53 (fun c5 => ?_) (fun c5 => ?_)
          · skip
            refine rr_iload_n 2 rfl rfl dX10_by_60 ?_
            refine rr_iconst (-1) rfl dX10_by_61 ?_
            refine rr_icmp_ne dX10_by_62 (fun c6 => ?_) (fun c6 => ?_)
            · skip
              refine rr_iload_n 1 rfl rfl dX10_by_70 ?_
              refine rr_iload_n 2 rfl rfl dX10_by_71 ?_
              refine rr_idiv (by first | assumption | exact jj_pM hn (by assumption) | exact jj_pM hn (jj_two (by assumption)).1 | exact jj_pM hn (jj_two (by assumption)).2 | decide | omega) dX10_by_72 ?_
              refine rr_ireturn dX10_by_73 rfl ?_
              simpa only [vX10_by, if_neg c1, if_neg c2, if_neg c3, if_pos c4, if_neg c5, if_neg c6] using kq
            · skip
              refine rr_iload_n 1 rfl rfl dX10_by_65 ?_
              refine rr_ineg dX10_by_66 ?_
              refine rr_goto dX10_by_67 ?_
              refine rr_ireturn dX10_by_73 rfl ?_
              simpa only [vX10_by, if_neg c1, if_neg c2, if_neg c3, if_pos c4, if_neg c5, if_pos c6] using kq
          · skip
            refine rr_iconst 0 rfl dX10_by_56 ?_
            refine rr_goto dX10_by_57 ?_
            refine rr_ireturn dX10_by_73 rfl ?_
            simpa only [vX10_by, if_neg c1, if_neg c2, if_neg c3, if_pos c4, if_pos c5] using kq
        · skip
          by_cases c7 : s = 6
          · skip
            refine rr_tcase (tgt := 74) c7 73 dX10_by_1 (by decide) (by decide) (by decide) (by decide) ?_
            refine rr_iload_n 2 rfl rfl dX10_by_74 ?_
            refine rr_if_eq dX10_by_75 (fun c8 => ?_) (fun c8 => ?_)
            · skip
              refine rr_iconst 0 rfl dX10_by_83 ?_
              refine rr_goto dX10_by_84 ?_
              refine rr_ireturn dX10_by_90 rfl ?_
              simpa only [vX10_by, if_neg c1, if_neg c2, if_neg c3, if_neg c4, if_pos c7, if_pos c8] using kq
            · skip
              refine rr_iload_n 2 rfl rfl dX10_by_78 ?_
              refine rr_iconst (-1) rfl dX10_by_79 ?_
              refine rr_icmp_ne dX10_by_80 (fun c9 => ?_) (fun c9 => ?_)
              · skip
                refine rr_iload_n 1 rfl rfl dX10_by_87 ?_
                refine rr_iload_n 2 rfl rfl dX10_by_88 ?_
                refine rr_irem (by first | assumption | exact jj_pM hn (by assumption) | exact jj_pM hn (jj_two (by assumption)).1 | exact jj_pM hn (jj_two (by assumption)).2 | decide | omega) dX10_by_89 ?_
                refine rr_ireturn dX10_by_90 rfl ?_
                simpa only [vX10_by, if_neg c1, if_neg c2, if_neg c3, if_neg c4, if_pos c7, if_neg c8, if_neg c9] using kq
              · skip
                refine rr_iconst 0 rfl dX10_by_83 ?_
                refine rr_goto dX10_by_84 ?_
                refine rr_ireturn dX10_by_90 rfl ?_
                simpa only [vX10_by, if_neg c1, if_neg c2, if_neg c3, if_neg c4, if_pos c7, if_neg c8, if_pos c9] using kq
          · skip
            by_cases c10 : s = 7
            · skip
              refine rr_tcase (tgt := 91) c10 90 dX10_by_1 (by decide) (by decide) (by decide) (by decide) ?_
              refine rr_iload_n 1 rfl rfl dX10_by_91 ?_
              refine rr_iload_n 2 rfl rfl dX10_by_92 ?_
              refine rr_callS (As := [.int x, .int y]) (rest := []) (kc2 := 0) (ks2 := 0) dX10_by_93 okX10_less lX10_235 rfl (Nat.le_of_ble_eq_true rfl) (Nat.le_of_ble_eq_true rfl) rfl (by omega) (by simp [jj_rk]) (by simp [jj_rk]) ?_
              refine sp_X10_less  ?_
              show jj_R _ _ kc ks (jj_S, 782, h, g) 96 [(0, .int s), (1, .int x), (2, .int y)] [.int (vX10_less x y)] Q
              refine rr_ireturn dX10_by_96 rfl ?_
              simpa only [vX10_by, if_neg c1, if_neg c2, if_neg c3, if_neg c4, if_neg c7, if_pos c10] using kq
            · skip
              refine rr_tableOut (tgt := 97) dX10_by_1 (by have q0 := lv_neT c1 (a := 2) rfl; have q1 := lv_neT c2 (a := 3) rfl; have q2 := lv_neT c3 (a := 4) rfl; have q3 := lv_neT c4 (a := 5) rfl; have q4 := lv_neT c7 (a := 6) rfl; have q5 := lv_neT c10 (a := 7) rfl; omega) (by decide) ?_
              refine rr_iload_n 1 rfl rfl dX10_by_97 ?_
              refine rr_iload_n 2 rfl rfl dX10_by_98 ?_
              refine rr_callS (As := [.int x, .int y]) (rest := []) (kc2 := 0) (ks2 := 0) dX10_by_99 okX10_more lX10_238 rfl (Nat.le_of_ble_eq_true rfl) (Nat.le_of_ble_eq_true rfl) rfl (by omega) (by simp [jj_rk]) (by simp [jj_rk]) ?_
              refine sp_X10_more  ?_
              show jj_R _ _ kc ks (jj_S, 782, h, g) 102 [(0, .int s), (1, .int x), (2, .int y)] [.int (vX10_more x y)] Q
              refine rr_ireturn dX10_by_102 rfl ?_
              simpa only [vX10_by, if_neg c1, if_neg c2, if_neg c3, if_neg c4, if_neg c7, if_neg c10] using kq
def vX10_thrown (r49 : Nat → Int32) : Int32 := (r49 0)
set_option maxHeartbeats 1000000 in
theorem sp_X10_thrown {d kc ks : Nat} {h : Nat → Nat → Int32} {g : Nat → Nat → Int64} {Q : jj_Rs → jj_St → Prop}  (kq : Q (.inl (some (.int (vX10_thrown (h 49))))) (jj_S, 782, h, g)) : jj_R mX10_thrown (d + 0) kc ks (jj_S, 782, h, g) 0 [(0, .ref 49)] [] Q := by
  refine rr_aload_n 0 rfl rfl dX10_thrown_0 ?_
  refine rr_getI dX10_thrown_1 fX10_95 lo_49 sh_49 rfl ?_
  refine rr_ireturn dX10_thrown_4 rfl ?_
  simpa only [vX10_thrown] using kq
def vX10_bad1_10 (r49 : Nat → Int32) (r51 : Nat → Int32) : Int32 := 1
def rX10_bad1_10_49 (r49 : Nat → Int32) (r51 : Nat → Int32) : Nat → Int32 := (upd r49 (0) 1)
def rX10_bad1_10_51 (r49 : Nat → Int32) (r51 : Nat → Int32) : Nat → Int32 := (upd r51 (0) ((r51 0) + 1))
set_option maxHeartbeats 1000000 in
theorem sp_X10_bad1_10 {d kc ks : Nat} {h : Nat → Nat → Int32} {g : Nat → Nat → Int64} {Q : jj_Rs → jj_St → Prop}  (hz : h 49 0 = 0) (kq : Q (.inl (some (.int (vX10_bad1_10 (h 49) (h 51))))) (jj_S, 782, (jj_rs h [(49, (rX10_bad1_10_49 (h 49) (h 51))), (51, (rX10_bad1_10_51 (h 49) (h 51)))]), g)) : jj_R mX10_bad (d + 0) kc ks (jj_S, 782, h, g) 0 [(0, .ref 49), (1, .int 1), (2, .int 1), (3, .int 0)] [] Q := by
  refine rr_iload_n 1 rfl rfl dX10_bad_0 ?_
  refine rr_if_eq dX10_bad_1 (fun c => absurd c (by decide)) (fun _ => ?_)
  refine rr_aload_n 0 rfl rfl dX10_bad_4 ?_
  refine rr_getI dX10_bad_5 fX10_95 lo_49 sh_49 rfl ?_
  rw [show (h 49) 0 = 0 from hz]
  refine rr_if_ne dX10_bad_8 (fun c => absurd c (by decide)) (fun _ => ?_)
  refine rr_aload_n 0 rfl rfl dX10_bad_11 ?_
  refine rr_iload_n 2 rfl rfl dX10_bad_12 ?_
  refine rr_putI dX10_bad_13 fX10_95 ni10_0 lo_49 sh_49 rfl ?_
  rw [jj_rs_set0 (B := h) (o := 49) (r := (h 49)) rfl]
  refine rr_aload_n 0 rfl rfl dX10_bad_16 ?_
  refine rr_getR dX10_bad_17 fX10_17 lo_49 sh_49 rfl ?_
  refine rr_iload_n 3 rfl rfl dX10_bad_20 ?_
  refine rr_dup2 rfl rfl dX10_bad_21 ?_
  refine rr_iaload dX10_bad_22 lo_51 sh_51 (jj_inL rfl) ?_
  rw [show (jj_rs h [(49, (upd (h 49) (0) 1))]) 51 = h 51 from rfl]
  rw [show (h 51) (0 : Int32).toNatClampNeg = (h 51) 0 from rfl]
  refine rr_iconst 1 rfl dX10_bad_23 ?_
  refine rr_iadd dX10_bad_24 ?_
  refine rr_iastore dX10_bad_25 lo_51 sh_51 (jj_inL rfl) ?_
  rw [show (0 : Int32).toNatClampNeg = 0 from rfl]
  rw [jj_rs_set (B := h) (L := [(49, (upd (h 49) (0) 1))]) (L2 := [(49, (upd (h 49) (0) 1)), (51, (upd (h 51) (0) (((h 51) 0) + 1)))]) (r := (h 51)) rfl rfl]
  refine rr_aload_n 0 rfl rfl dX10_bad_26 ?_
  refine rr_getI dX10_bad_27 fX10_95 lo_49 sh_49 rfl ?_
  rw [show (jj_rs h [(49, (upd (h 49) (0) 1)), (51, (upd (h 51) (0) (((h 51) 0) + 1)))]) 49 = (upd (h 49) (0) 1) from rfl]
  rw [show (upd (h 49) (0) 1) 0 = 1 from rfl]
  refine rr_if_eq dX10_bad_30 (fun c => absurd c (by decide)) (fun _ => ?_)
  refine rr_iconst 1 rfl dX10_bad_33 ?_
  refine rr_goto dX10_bad_34 ?_
  refine rr_nreturn dX10_bad_38 rfl (by first | rfl | assumption) ?_
  simpa only [vX10_bad1_10, rX10_bad1_10_49, rX10_bad1_10_51] using kq
def vX10_bad0_10  : Int32 := 0
set_option maxHeartbeats 1000000 in
theorem sp_X10_bad0_10 {d kc ks : Nat} {h : Nat → Nat → Int32} {g : Nat → Nat → Int64} {Q : jj_Rs → jj_St → Prop}  (hz : h 49 0 = 0) (kq : Q (.inl (some (.int vX10_bad0_10))) (jj_S, 782, h, g)) : jj_R mX10_bad (d + 0) kc ks (jj_S, 782, h, g) 0 [(0, .ref 49), (1, .int 0), (2, .int 1), (3, .int 0)] [] Q := by
  refine rr_iload_n 1 rfl rfl dX10_bad_0 ?_
  refine rr_if_eq dX10_bad_1 (fun _ => ?_) (fun c => absurd (by decide) c)
  refine rr_aload_n 0 rfl rfl dX10_bad_26 ?_
  refine rr_getI dX10_bad_27 fX10_95 lo_49 sh_49 rfl ?_
  rw [show (h 49) 0 = 0 from hz]
  refine rr_if_eq dX10_bad_30 (fun _ => ?_) (fun c => absurd (by decide) c)
  refine rr_iconst 0 rfl dX10_bad_37 ?_
  refine rr_nreturn dX10_bad_38 rfl (by first | rfl | assumption) ?_
  simpa only [vX10_bad0_10] using kq
def vX10_bad1_11 (r49 : Nat → Int32) (r51 : Nat → Int32) : Int32 := 1
def rX10_bad1_11_49 (r49 : Nat → Int32) (r51 : Nat → Int32) : Nat → Int32 := (upd r49 (0) 1)
def rX10_bad1_11_51 (r49 : Nat → Int32) (r51 : Nat → Int32) : Nat → Int32 := (upd r51 (1) ((r51 1) + 1))
set_option maxHeartbeats 1000000 in
theorem sp_X10_bad1_11 {d kc ks : Nat} {h : Nat → Nat → Int32} {g : Nat → Nat → Int64} {Q : jj_Rs → jj_St → Prop}  (hz : h 49 0 = 0) (kq : Q (.inl (some (.int (vX10_bad1_11 (h 49) (h 51))))) (jj_S, 782, (jj_rs h [(49, (rX10_bad1_11_49 (h 49) (h 51))), (51, (rX10_bad1_11_51 (h 49) (h 51)))]), g)) : jj_R mX10_bad (d + 0) kc ks (jj_S, 782, h, g) 0 [(0, .ref 49), (1, .int 1), (2, .int 1), (3, .int 1)] [] Q := by
  refine rr_iload_n 1 rfl rfl dX10_bad_0 ?_
  refine rr_if_eq dX10_bad_1 (fun c => absurd c (by decide)) (fun _ => ?_)
  refine rr_aload_n 0 rfl rfl dX10_bad_4 ?_
  refine rr_getI dX10_bad_5 fX10_95 lo_49 sh_49 rfl ?_
  rw [show (h 49) 0 = 0 from hz]
  refine rr_if_ne dX10_bad_8 (fun c => absurd c (by decide)) (fun _ => ?_)
  refine rr_aload_n 0 rfl rfl dX10_bad_11 ?_
  refine rr_iload_n 2 rfl rfl dX10_bad_12 ?_
  refine rr_putI dX10_bad_13 fX10_95 ni10_0 lo_49 sh_49 rfl ?_
  rw [jj_rs_set0 (B := h) (o := 49) (r := (h 49)) rfl]
  refine rr_aload_n 0 rfl rfl dX10_bad_16 ?_
  refine rr_getR dX10_bad_17 fX10_17 lo_49 sh_49 rfl ?_
  refine rr_iload_n 3 rfl rfl dX10_bad_20 ?_
  refine rr_dup2 rfl rfl dX10_bad_21 ?_
  refine rr_iaload dX10_bad_22 lo_51 sh_51 (jj_inL rfl) ?_
  rw [show (jj_rs h [(49, (upd (h 49) (0) 1))]) 51 = h 51 from rfl]
  rw [show (h 51) (1 : Int32).toNatClampNeg = (h 51) 1 from rfl]
  refine rr_iconst 1 rfl dX10_bad_23 ?_
  refine rr_iadd dX10_bad_24 ?_
  refine rr_iastore dX10_bad_25 lo_51 sh_51 (jj_inL rfl) ?_
  rw [show (1 : Int32).toNatClampNeg = 1 from rfl]
  rw [jj_rs_set (B := h) (L := [(49, (upd (h 49) (0) 1))]) (L2 := [(49, (upd (h 49) (0) 1)), (51, (upd (h 51) (1) (((h 51) 1) + 1)))]) (r := (h 51)) rfl rfl]
  refine rr_aload_n 0 rfl rfl dX10_bad_26 ?_
  refine rr_getI dX10_bad_27 fX10_95 lo_49 sh_49 rfl ?_
  rw [show (jj_rs h [(49, (upd (h 49) (0) 1)), (51, (upd (h 51) (1) (((h 51) 1) + 1)))]) 49 = (upd (h 49) (0) 1) from rfl]
  rw [show (upd (h 49) (0) 1) 0 = 1 from rfl]
  refine rr_if_eq dX10_bad_30 (fun c => absurd c (by decide)) (fun _ => ?_)
  refine rr_iconst 1 rfl dX10_bad_33 ?_
  refine rr_goto dX10_bad_34 ?_
  refine rr_nreturn dX10_bad_38 rfl (by first | rfl | assumption) ?_
  simpa only [vX10_bad1_11, rX10_bad1_11_49, rX10_bad1_11_51] using kq
def vX10_bad0_11  : Int32 := 0
set_option maxHeartbeats 1000000 in
theorem sp_X10_bad0_11 {d kc ks : Nat} {h : Nat → Nat → Int32} {g : Nat → Nat → Int64} {Q : jj_Rs → jj_St → Prop}  (hz : h 49 0 = 0) (kq : Q (.inl (some (.int vX10_bad0_11))) (jj_S, 782, h, g)) : jj_R mX10_bad (d + 0) kc ks (jj_S, 782, h, g) 0 [(0, .ref 49), (1, .int 0), (2, .int 1), (3, .int 1)] [] Q := by
  refine rr_iload_n 1 rfl rfl dX10_bad_0 ?_
  refine rr_if_eq dX10_bad_1 (fun _ => ?_) (fun c => absurd (by decide) c)
  refine rr_aload_n 0 rfl rfl dX10_bad_26 ?_
  refine rr_getI dX10_bad_27 fX10_95 lo_49 sh_49 rfl ?_
  rw [show (h 49) 0 = 0 from hz]
  refine rr_if_eq dX10_bad_30 (fun _ => ?_) (fun c => absurd (by decide) c)
  refine rr_iconst 0 rfl dX10_bad_37 ?_
  refine rr_nreturn dX10_bad_38 rfl (by first | rfl | assumption) ?_
  simpa only [vX10_bad0_11] using kq
def vX10_bad1_21 (r49 : Nat → Int32) (r51 : Nat → Int32) : Int32 := 1
def rX10_bad1_21_49 (r49 : Nat → Int32) (r51 : Nat → Int32) : Nat → Int32 := (upd r49 (0) 2)
def rX10_bad1_21_51 (r49 : Nat → Int32) (r51 : Nat → Int32) : Nat → Int32 := (upd r51 (1) ((r51 1) + 1))
set_option maxHeartbeats 1000000 in
theorem sp_X10_bad1_21 {d kc ks : Nat} {h : Nat → Nat → Int32} {g : Nat → Nat → Int64} {Q : jj_Rs → jj_St → Prop}  (hz : h 49 0 = 0) (kq : Q (.inl (some (.int (vX10_bad1_21 (h 49) (h 51))))) (jj_S, 782, (jj_rs h [(49, (rX10_bad1_21_49 (h 49) (h 51))), (51, (rX10_bad1_21_51 (h 49) (h 51)))]), g)) : jj_R mX10_bad (d + 0) kc ks (jj_S, 782, h, g) 0 [(0, .ref 49), (1, .int 1), (2, .int 2), (3, .int 1)] [] Q := by
  refine rr_iload_n 1 rfl rfl dX10_bad_0 ?_
  refine rr_if_eq dX10_bad_1 (fun c => absurd c (by decide)) (fun _ => ?_)
  refine rr_aload_n 0 rfl rfl dX10_bad_4 ?_
  refine rr_getI dX10_bad_5 fX10_95 lo_49 sh_49 rfl ?_
  rw [show (h 49) 0 = 0 from hz]
  refine rr_if_ne dX10_bad_8 (fun c => absurd c (by decide)) (fun _ => ?_)
  refine rr_aload_n 0 rfl rfl dX10_bad_11 ?_
  refine rr_iload_n 2 rfl rfl dX10_bad_12 ?_
  refine rr_putI dX10_bad_13 fX10_95 ni10_0 lo_49 sh_49 rfl ?_
  rw [jj_rs_set0 (B := h) (o := 49) (r := (h 49)) rfl]
  refine rr_aload_n 0 rfl rfl dX10_bad_16 ?_
  refine rr_getR dX10_bad_17 fX10_17 lo_49 sh_49 rfl ?_
  refine rr_iload_n 3 rfl rfl dX10_bad_20 ?_
  refine rr_dup2 rfl rfl dX10_bad_21 ?_
  refine rr_iaload dX10_bad_22 lo_51 sh_51 (jj_inL rfl) ?_
  rw [show (jj_rs h [(49, (upd (h 49) (0) 2))]) 51 = h 51 from rfl]
  rw [show (h 51) (1 : Int32).toNatClampNeg = (h 51) 1 from rfl]
  refine rr_iconst 1 rfl dX10_bad_23 ?_
  refine rr_iadd dX10_bad_24 ?_
  refine rr_iastore dX10_bad_25 lo_51 sh_51 (jj_inL rfl) ?_
  rw [show (1 : Int32).toNatClampNeg = 1 from rfl]
  rw [jj_rs_set (B := h) (L := [(49, (upd (h 49) (0) 2))]) (L2 := [(49, (upd (h 49) (0) 2)), (51, (upd (h 51) (1) (((h 51) 1) + 1)))]) (r := (h 51)) rfl rfl]
  refine rr_aload_n 0 rfl rfl dX10_bad_26 ?_
  refine rr_getI dX10_bad_27 fX10_95 lo_49 sh_49 rfl ?_
  rw [show (jj_rs h [(49, (upd (h 49) (0) 2)), (51, (upd (h 51) (1) (((h 51) 1) + 1)))]) 49 = (upd (h 49) (0) 2) from rfl]
  rw [show (upd (h 49) (0) 2) 0 = 2 from rfl]
  refine rr_if_eq dX10_bad_30 (fun c => absurd c (by decide)) (fun _ => ?_)
  refine rr_iconst 1 rfl dX10_bad_33 ?_
  refine rr_goto dX10_bad_34 ?_
  refine rr_nreturn dX10_bad_38 rfl (by first | rfl | assumption) ?_
  simpa only [vX10_bad1_21, rX10_bad1_21_49, rX10_bad1_21_51] using kq
def vX10_bad0_21  : Int32 := 0
set_option maxHeartbeats 1000000 in
theorem sp_X10_bad0_21 {d kc ks : Nat} {h : Nat → Nat → Int32} {g : Nat → Nat → Int64} {Q : jj_Rs → jj_St → Prop}  (hz : h 49 0 = 0) (kq : Q (.inl (some (.int vX10_bad0_21))) (jj_S, 782, h, g)) : jj_R mX10_bad (d + 0) kc ks (jj_S, 782, h, g) 0 [(0, .ref 49), (1, .int 0), (2, .int 2), (3, .int 1)] [] Q := by
  refine rr_iload_n 1 rfl rfl dX10_bad_0 ?_
  refine rr_if_eq dX10_bad_1 (fun _ => ?_) (fun c => absurd (by decide) c)
  refine rr_aload_n 0 rfl rfl dX10_bad_26 ?_
  refine rr_getI dX10_bad_27 fX10_95 lo_49 sh_49 rfl ?_
  rw [show (h 49) 0 = 0 from hz]
  refine rr_if_eq dX10_bad_30 (fun _ => ?_) (fun c => absurd (by decide) c)
  refine rr_iconst 0 rfl dX10_bad_37 ?_
  refine rr_nreturn dX10_bad_38 rfl (by first | rfl | assumption) ?_
  simpa only [vX10_bad0_21] using kq
def vX10_isPerson (n : Nat) (p : Int32) : Int32 := (vX10_in p 0 ((nI n) - 1))
set_option maxHeartbeats 1000000 in
theorem sp_X10_isPerson {d kc ks : Nat} {h : Nat → Nat → Int32} {g : Nat → Nat → Int64} {Q : jj_Rs → jj_St → Prop} {n : Nat} {p : Int32} (hT : h 53 0 = nI n) (hn : n ≤ 8) (kq : Q (.inl (some (.int (vX10_isPerson n p)))) (jj_S, 782, h, g)) : jj_R mX10_isPerson (d + 1) kc ks (jj_S, 782, h, g) 0 [(0, .ref 49), (1, .int p)] [] Q := by
  refine rr_iload_n 1 rfl rfl dX10_isPerson_0 ?_
  refine rr_iconst 0 rfl dX10_isPerson_1 ?_
  refine rr_aload_n 0 rfl rfl dX10_isPerson_2 ?_
  refine rr_getR dX10_isPerson_3 fX10_23 lo_49 sh_49 rfl ?_
  refine rr_iconst 0 rfl dX10_isPerson_6 ?_
  refine rr_iaload dX10_isPerson_7 lo_53 sh_53 (jj_inL rfl) ?_
  rw [show (h 53) (0 : Int32).toNatClampNeg = (nI n) from hT]
  refine rr_iconst 1 rfl dX10_isPerson_8 ?_
  refine rr_isub dX10_isPerson_9 ?_
  refine rr_callS (As := [.int p, .int 0, .int ((nI n) - 1)]) (rest := []) (kc2 := 0) (ks2 := 0) dX10_isPerson_10 okX10_in lX10_129 rfl (Nat.le_of_ble_eq_true rfl) (Nat.le_of_ble_eq_true rfl) rfl (by omega) (by simp [jj_rk]) (by simp [jj_rk]) ?_
  refine sp_X10_in  ?_
  show jj_R _ _ kc ks (jj_S, 782, h, g) 13 [(0, .ref 49), (1, .int p)] [.int (vX10_in p 0 ((nI n) - 1))] Q
  refine rr_nreturn dX10_isPerson_13 rfl (by first | rfl | ((unfold vX10_in; repeat' split) <;> rfl) | assumption) ?_
  simpa only [vX10_isPerson] using kq
def vX10_areTwo (n : Nat) (a : Int32) (b : Int32) : Int32 := (if (vX10_isPerson n a) = 0 then 0 else (if (vX10_isPerson n b) = 0 then 0 else 1))
set_option maxHeartbeats 1000000 in
theorem sp_X10_areTwo {d kc ks : Nat} {h : Nat → Nat → Int32} {g : Nat → Nat → Int64} {Q : jj_Rs → jj_St → Prop} {n : Nat} {a : Int32} {b : Int32} (hT : h 53 0 = nI n) (hn : n ≤ 8) (kq : Q (.inl (some (.int (vX10_areTwo n a b)))) (jj_S, 782, h, g)) : jj_R mX10_areTwo (d + 2) kc ks (jj_S, 782, h, g) 0 [(0, .ref 49), (1, .int a), (2, .int b)] [] Q := by
  refine rr_aload_n 0 rfl rfl dX10_areTwo_0 ?_
  refine rr_iload_n 1 rfl rfl dX10_areTwo_1 ?_
  refine rr_callV (As := [.int a]) (rest := []) (kc2 := 0) (ks2 := 0) dX10_areTwo_2 okX10_isPerson lX10_321 lo_49 sh_49 rfl rfl (Nat.le_of_ble_eq_true rfl) (Nat.le_of_ble_eq_true rfl) rfl (by omega) (by simp [jj_rk]) (by simp [jj_rk]) ?_
  refine sp_X10_isPerson (by first | assumption | exact jj_pM hn (by assumption) | exact jj_pM hn (jj_two (by assumption)).1 | exact jj_pM hn (jj_two (by assumption)).2 | decide | omega) (by first | assumption | exact jj_pM hn (by assumption) | exact jj_pM hn (jj_two (by assumption)).1 | exact jj_pM hn (jj_two (by assumption)).2 | decide | omega) ?_
  show jj_R _ _ kc ks (jj_S, 782, h, g) 5 [(0, .ref 49), (1, .int a), (2, .int b)] [.int (vX10_isPerson n a)] Q
  refine rr_if_eq dX10_areTwo_5 (fun c1 => ?_) (fun c1 => ?_)
  · skip
    refine rr_iconst 0 rfl dX10_areTwo_20 ?_
    refine rr_nreturn dX10_areTwo_21 rfl (by first | rfl | assumption) ?_
    simpa only [vX10_areTwo, if_pos c1] using kq
  · skip
    refine rr_aload_n 0 rfl rfl dX10_areTwo_8 ?_
    refine rr_iload_n 2 rfl rfl dX10_areTwo_9 ?_
    refine rr_callV (As := [.int b]) (rest := []) (kc2 := 0) (ks2 := 0) dX10_areTwo_10 okX10_isPerson lX10_321 lo_49 sh_49 rfl rfl (Nat.le_of_ble_eq_true rfl) (Nat.le_of_ble_eq_true rfl) rfl (by omega) (by simp [jj_rk]) (by simp [jj_rk]) ?_
    refine sp_X10_isPerson (by first | assumption | exact jj_pM hn (by assumption) | exact jj_pM hn (jj_two (by assumption)).1 | exact jj_pM hn (jj_two (by assumption)).2 | decide | omega) (by first | assumption | exact jj_pM hn (by assumption) | exact jj_pM hn (jj_two (by assumption)).1 | exact jj_pM hn (jj_two (by assumption)).2 | decide | omega) ?_
    show jj_R _ _ kc ks (jj_S, 782, h, g) 13 [(0, .ref 49), (1, .int a), (2, .int b)] [.int (vX10_isPerson n b)] Q
    refine rr_if_eq dX10_areTwo_13 (fun c2 => ?_) (fun c2 => ?_)
    · skip
      refine rr_iconst 0 rfl dX10_areTwo_20 ?_
      refine rr_nreturn dX10_areTwo_21 rfl (by first | rfl | assumption) ?_
      simpa only [vX10_areTwo, if_neg c1, if_pos c2] using kq
    · skip
      refine rr_iconst 1 rfl dX10_areTwo_16 ?_
      refine rr_goto dX10_areTwo_17 ?_
      refine rr_nreturn dX10_areTwo_21 rfl (by first | rfl | assumption) ?_
      simpa only [vX10_areTwo, if_neg c1, if_neg c2] using kq
def vX10_everybody (n : Nat) : Int32 := ((1 <<< ((nI n) &&& 31)) - 1)
set_option maxHeartbeats 1000000 in
theorem sp_X10_everybody {d kc ks : Nat} {h : Nat → Nat → Int32} {g : Nat → Nat → Int64} {Q : jj_Rs → jj_St → Prop} {n : Nat} (hT : h 53 0 = nI n) (hn : n ≤ 8) (kq : Q (.inl (some (.int (vX10_everybody n)))) (jj_S, 782, h, g)) : jj_R mX10_everybody (d + 0) kc ks (jj_S, 782, h, g) 0 [(0, .ref 49)] [] Q := by
  refine rr_iconst 1 rfl dX10_everybody_0 ?_
  refine rr_aload_n 0 rfl rfl dX10_everybody_1 ?_
  refine rr_getR dX10_everybody_2 fX10_23 lo_49 sh_49 rfl ?_
  refine rr_iconst 0 rfl dX10_everybody_5 ?_
  refine rr_iaload dX10_everybody_6 lo_53 sh_53 (jj_inL rfl) ?_
  rw [show (h 53) (0 : Int32).toNatClampNeg = (nI n) from hT]
  refine rr_ishl dX10_everybody_7 ?_
  refine rr_iconst 1 rfl dX10_everybody_8 ?_
  refine rr_isub dX10_everybody_9 ?_
  refine rr_ireturn dX10_everybody_10 rfl ?_
  simpa only [vX10_everybody] using kq
/-- a PERSON that is told, to the reference -/
theorem jj_persM {n : Nat} {p : Int32} (hn : n ≤ 8) (c : ¬ vX10_isPerson n p = 0) : ∃ P : Nat, P < n ∧ p = nI P := by
  unfold vX10_isPerson vX10_in at c
  by_cases q : p < 0
  · rw [if_pos q] at c; exact absurd rfl c
  · rw [if_neg q] at c
    by_cases q2 : nI n - 1 < p
    · rw [if_pos q2] at c; exact absurd rfl c
    · refine ⟨p.toNatClampNeg, ?_, jj_nIc q⟩
      rcases Nat.eq_zero_or_pos n with rfl | h0
      · exfalso
        rw [Int32.lt_iff_toInt_lt] at q q2
        have e : (nI 0 - 1 : Int32).toInt = -1 := by decide
        simp at q
        omega
      · obtain ⟨k, rfl⟩ : ∃ k, n = k + 1 := ⟨n - 1, by omega⟩
        rw [nI_pred] at q2
        have := jj_nle (b := k) (by omega) q2
        omega
theorem jj_pM {n : Nat} {p : Int32} (hn : n ≤ 8) (c : ¬ vX10_isPerson n p = 0) : vp_in p 8 := by
  obtain ⟨P, hP, rfl⟩ := jj_persM hn c
  exact vp_in_nI (by omega) (by decide)
theorem jj_two {n : Nat} {a b : Int32} (c : ¬ vX10_areTwo n a b = 0) : ¬ vX10_isPerson n a = 0 ∧ ¬ vX10_isPerson n b = 0 := by
  unfold vX10_areTwo at c
  by_cases q : vX10_isPerson n a = 0
  · rw [if_pos q] at c; exact absurd rfl c
  · rw [if_neg q] at c
    by_cases q2 : vX10_isPerson n b = 0
    · rw [if_pos q2] at c; exact absurd rfl c
    · exact ⟨q, q2⟩
theorem jj_rowin {n o N : Nat} {p : Int32} (hp : vp_in p n) (hN : o + n ≤ N) (hb : N < 2 ^ 31) : vp_in (nI o + p) N := by
  obtain ⟨P, hP, rfl⟩ := vp_in_of hp (by omega)
  rw [nI_add]
  exact vp_in_nI (by omega) hb
theorem jj_rowin2 {n o N : Nat} {p : Int32} (hp : vp_in p n) (hN : o + n ≤ N) (hb : N < 2 ^ 31) : (nI o + p).toNatClampNeg = o + p.toNatClampNeg := by
  obtain ⟨P, hP, rfl⟩ := vp_in_of hp (by omega)
  rw [nI_add, nI_clamp (by omega), nI_clamp (by omega)]
def vX10_behind_n (r497 : Nat → Int32) (p : Int32) : Int32 := ((r497 33) - (r497 (((0 : Int32) + p) : Int32).toNatClampNeg))
set_option maxHeartbeats 1000000 in
theorem sp_X10_behind_n {d kc ks : Nat} {h : Nat → Nat → Int32} {g : Nat → Nat → Int64} {Q : jj_Rs → jj_St → Prop} {p : Int32} (hp : vp_in p 8) (kq : Q (.inl (some (.int (vX10_behind_n (h 497) p)))) (jj_S, 782, h, g)) : jj_R mX10_behind (d + 0) kc ks (jj_S, 782, h, g) 0 [(0, .ref 497), (1, .int p)] [] Q := by
  refine rr_aload_n 0 rfl rfl dX10_behind_0 ?_
  refine rr_bipush 33 rfl dX10_behind_1 ?_
  refine rr_iaload dX10_behind_3 lo_497 sh_497 (jj_inL rfl) ?_
  rw [show (h 497) (33 : Int32).toNatClampNeg = (h 497) 33 from rfl]
  refine rr_aload_n 0 rfl rfl dX10_behind_4 ?_
  refine rr_iconst 0 rfl dX10_behind_5 ?_
  refine rr_iload_n 1 rfl rfl dX10_behind_6 ?_
  refine rr_iadd dX10_behind_7 ?_
  refine rr_iaload dX10_behind_8 lo_497 sh_497 (jj_rowin (n := 8) (o := 0) (by first | assumption | exact jj_pM hn (by assumption) | exact jj_pM hn (jj_two (by assumption)).1 | exact jj_pM hn (jj_two (by assumption)).2 | decide | omega) (by decide) (by decide)) ?_
  refine rr_isub dX10_behind_9 ?_
  refine rr_ireturn dX10_behind_10 rfl ?_
  simpa only [vX10_behind_n] using kq
def vX10_isLoose_n (r497 : Nat → Int32) (p : Int32) : Int32 := (if (r497 (((8 : Int32) + p) : Int32).toNatClampNeg) = 0 then (if (vX10_has (r497 32) p) = 0 then 1 else 0) else 0)
set_option maxHeartbeats 1000000 in
theorem sp_X10_isLoose_n {d kc ks : Nat} {h : Nat → Nat → Int32} {g : Nat → Nat → Int64} {Q : jj_Rs → jj_St → Prop} {p : Int32} (hp : vp_in p 8) (kq : Q (.inl (some (.int (vX10_isLoose_n (h 497) p)))) (jj_S, 782, h, g)) : jj_R mX10_isLoose (d + 1) kc ks (jj_S, 782, h, g) 0 [(0, .ref 497), (1, .int p)] [] Q := by
  refine rr_aload_n 0 rfl rfl dX10_isLoose_0 ?_
  refine rr_bipush 8 rfl dX10_isLoose_1 ?_
  refine rr_iload_n 1 rfl rfl dX10_isLoose_3 ?_
  refine rr_iadd dX10_isLoose_4 ?_
  refine rr_iaload dX10_isLoose_5 lo_497 sh_497 (jj_rowin (n := 8) (o := 8) (by first | assumption | exact jj_pM hn (by assumption) | exact jj_pM hn (jj_two (by assumption)).1 | exact jj_pM hn (jj_two (by assumption)).2 | decide | omega) (by decide) (by decide)) ?_
  refine rr_if_ne dX10_isLoose_6 (fun c1 => ?_) (fun c1 => ?_)
  · skip
    refine rr_iconst 0 rfl dX10_isLoose_24 ?_
    refine rr_nreturn dX10_isLoose_25 rfl (by first | rfl | assumption) ?_
    simpa only [vX10_isLoose_n, if_neg c1] using kq
  · skip
    refine rr_aload_n 0 rfl rfl dX10_isLoose_9 ?_
    refine rr_bipush 32 rfl dX10_isLoose_10 ?_
    refine rr_iaload dX10_isLoose_12 lo_497 sh_497 (jj_inL rfl) ?_
    rw [show (h 497) (32 : Int32).toNatClampNeg = (h 497) 32 from rfl]
    refine rr_iload_n 1 rfl rfl dX10_isLoose_13 ?_
    refine rr_callS (As := [.int ((h 497) 32), .int p]) (rest := []) (kc2 := 0) (ks2 := 0) dX10_isLoose_14 okX10_has lX10_254 rfl (Nat.le_of_ble_eq_true rfl) (Nat.le_of_ble_eq_true rfl) rfl (by omega) (by simp [jj_rk]) (by simp [jj_rk]) ?_
    refine sp_X10_has  ?_
    show jj_R _ _ kc ks (jj_S, 782, h, g) 17 [(0, .ref 497), (1, .int p)] [.int (vX10_has ((h 497) 32) p)] Q
    refine rr_if_ne dX10_isLoose_17 (fun c2 => ?_) (fun c2 => ?_)
    · skip
      refine rr_iconst 0 rfl dX10_isLoose_24 ?_
      refine rr_nreturn dX10_isLoose_25 rfl (by first | rfl | assumption) ?_
      simpa only [vX10_isLoose_n, if_pos c1, if_neg c2] using kq
    · skip
      refine rr_iconst 1 rfl dX10_isLoose_20 ?_
      refine rr_goto dX10_isLoose_21 ?_
      refine rr_nreturn dX10_isLoose_25 rfl (by first | rfl | assumption) ?_
      simpa only [vX10_isLoose_n, if_pos c1, if_pos c2] using kq
def vX10_isHand_n (r497 : Nat → Int32) (a : Int32) (b : Int32) : Int32 := (if a = b then 1 else (if (r497 (((8 : Int32) + a) : Int32).toNatClampNeg) ≤ 0 then 0 else 1))
set_option maxHeartbeats 1000000 in
theorem sp_X10_isHand_n {d kc ks : Nat} {h : Nat → Nat → Int32} {g : Nat → Nat → Int64} {Q : jj_Rs → jj_St → Prop} {a : Int32} {b : Int32} (ha : vp_in a 8) (hb : vp_in b 8) (kq : Q (.inl (some (.int (vX10_isHand_n (h 497) a b)))) (jj_S, 782, h, g)) : jj_R mX10_isHand (d + 0) kc ks (jj_S, 782, h, g) 0 [(0, .ref 497), (1, .int a), (2, .int b)] [] Q := by
  refine rr_iload_n 1 rfl rfl dX10_isHand_0 ?_
  refine rr_iload_n 2 rfl rfl dX10_isHand_1 ?_
  refine rr_icmp_eq dX10_isHand_2 (fun c1 => ?_) (fun c1 => ?_)
  · skip
    refine rr_iconst 1 rfl dX10_isHand_14 ?_
    refine rr_goto dX10_isHand_15 ?_
    refine rr_nreturn dX10_isHand_19 rfl (by first | rfl | assumption) ?_
    simpa only [vX10_isHand_n, if_pos c1] using kq
  · skip
    refine rr_aload_n 0 rfl rfl dX10_isHand_5 ?_
    refine rr_bipush 8 rfl dX10_isHand_6 ?_
    refine rr_iload_n 1 rfl rfl dX10_isHand_8 ?_
    refine rr_iadd dX10_isHand_9 ?_
    refine rr_iaload dX10_isHand_10 lo_497 sh_497 (jj_rowin (n := 8) (o := 8) (by first | assumption | exact jj_pM hn (by assumption) | exact jj_pM hn (jj_two (by assumption)).1 | exact jj_pM hn (jj_two (by assumption)).2 | decide | omega) (by decide) (by decide)) ?_
    refine rr_if_le dX10_isHand_11 (fun c2 => ?_) (fun c2 => ?_)
    · skip
      refine rr_iconst 0 rfl dX10_isHand_18 ?_
      refine rr_nreturn dX10_isHand_19 rfl (by first | rfl | assumption) ?_
      simpa only [vX10_isHand_n, if_neg c1, if_pos c2] using kq
    · skip
      refine rr_iconst 1 rfl dX10_isHand_14 ?_
      refine rr_goto dX10_isHand_15 ?_
      refine rr_nreturn dX10_isHand_19 rfl (by first | rfl | assumption) ?_
      simpa only [vX10_isHand_n, if_neg c1, if_neg c2] using kq
def fX10_tiedSo_n_1 (r497 : Nat → Int32) (w : Int32) (k1 : Nat) (a1 : Int32) : Int32 := (if (r497 (((8 : Int32) + (nI k1)) : Int32).toNatClampNeg) < w then (a1 ||| 0) else (a1 ||| (1 <<< ((nI k1) &&& 31))))
def vX10_tiedSo_n (r497 : Nat → Int32) (n : Nat) (w : Int32) : Int32 := (jj_fo (fX10_tiedSo_n_1 r497 w) n 0)
set_option maxHeartbeats 1000000 in
theorem sp_X10_tiedSo_n {d kc ks : Nat} {h : Nat → Nat → Int32} {g : Nat → Nat → Int64} {Q : jj_Rs → jj_St → Prop} {n : Nat} {w : Int32} (hT : h 53 0 = nI n) (hn : n ≤ 8) (kq : Q (.inl (some (.int (vX10_tiedSo_n (h 497) n w)))) (jj_S, 782, h, g)) : jj_R mX10_tiedSo (d + 0) kc ks (jj_S, 782, h, g) 0 [(0, .ref 49), (1, .ref 497), (2, .int w)] [] Q := by
  refine rr_iconst 0 rfl dX10_tiedSo_0 ?_
  refine rr_istore_n [(0, .ref 49), (1, .ref 497), (2, .int w), (3, .int 0)] dX10_tiedSo_1 rfl (by decide) rfl ?_
  refine rr_iconst 0 rfl dX10_tiedSo_2 ?_
  refine rr_istore [(0, .ref 49), (1, .ref 497), (2, .int w), (3, .int 0), (4, .int 0)] dX10_tiedSo_3 (by decide) rfl ?_
  refine jj_for (fun k1 (a1 : Int32) => jj_R _ _ kc ks (jj_S, 782, h, g) 5 [(0, .ref 49), (1, .ref 497), (2, .int w), (3, .int a1), (4, .int (nI k1))] [] Q) (fX10_tiedSo_n_1 (h 497) w) n 0 ?_ ?_
  · intro k1 hk1 ih1
    generalize jj_fo _ k1 _ = a1 at ih1 ⊢
    try dsimp only at ih1 ⊢
    refine rr_iload 4 rfl dX10_tiedSo_5 ?_
    refine rr_aload_n 0 rfl rfl dX10_tiedSo_7 ?_
    refine rr_getR dX10_tiedSo_8 fX10_23 lo_49 sh_49 rfl ?_
    refine rr_iconst 0 rfl dX10_tiedSo_11 ?_
    refine rr_iaload dX10_tiedSo_12 lo_53 sh_53 (jj_inL rfl) ?_
    rw [show (h 53) (0 : Int32).toNatClampNeg = (nI n) from hT]
    refine rr_icmp_ge dX10_tiedSo_13 (fun c => absurd c (nI_ge (a := k1) (b := n) (by omega) (by omega))) (fun _ => ?_)
    refine rr_iload_n 3 rfl rfl dX10_tiedSo_16 ?_
    refine rr_aload_n 1 rfl rfl dX10_tiedSo_17 ?_
    refine rr_bipush 8 rfl dX10_tiedSo_18 ?_
    refine rr_iload 4 rfl dX10_tiedSo_20 ?_
    refine rr_iadd dX10_tiedSo_22 ?_
    refine rr_iaload dX10_tiedSo_23 lo_497 sh_497 (jj_rowin (n := 8) (o := 8) (vp_in_nI (by omega) (by decide)) (by decide) (by decide)) ?_
    refine rr_iload_n 2 rfl rfl dX10_tiedSo_24 ?_
    refine rr_icmp_lt dX10_tiedSo_25 (fun c1 => ?_) (fun c1 => ?_)
    · skip
      refine rr_iconst 0 rfl dX10_tiedSo_35 ?_
      refine rr_ior dX10_tiedSo_36 ?_
      refine rr_istore_n [(0, .ref 49), (1, .ref 497), (2, .int w), (3, .int (a1 ||| 0)), (4, .int (nI k1))] dX10_tiedSo_37 rfl (by decide) rfl ?_
      refine rr_iinc 4 1 [(0, .ref 49), (1, .ref 497), (2, .int w), (3, .int (a1 ||| 0)), (4, .int ((nI k1) + 1))] dX10_tiedSo_38 rfl rfl (by decide) rfl ?_
      refine rr_goto dX10_tiedSo_41 ?_
      try simp only [(nI_clamp (show k1 < 2 ^ 31 by omega))] at c1
      simpa only [nI_1, (nI_clamp (show k1 < 2 ^ 31 by omega)), fX10_tiedSo_n_1, if_pos c1] using ih1
    · skip
      refine rr_iconst 1 rfl dX10_tiedSo_28 ?_
      refine rr_iload 4 rfl dX10_tiedSo_29 ?_
      refine rr_ishl dX10_tiedSo_31 ?_
      refine rr_goto dX10_tiedSo_32 ?_
      refine rr_ior dX10_tiedSo_36 ?_
      refine rr_istore_n [(0, .ref 49), (1, .ref 497), (2, .int w), (3, .int (a1 ||| (1 <<< ((nI k1) &&& 31)))), (4, .int (nI k1))] dX10_tiedSo_37 rfl (by decide) rfl ?_
      refine rr_iinc 4 1 [(0, .ref 49), (1, .ref 497), (2, .int w), (3, .int (a1 ||| (1 <<< ((nI k1) &&& 31)))), (4, .int ((nI k1) + 1))] dX10_tiedSo_38 rfl rfl (by decide) rfl ?_
      refine rr_goto dX10_tiedSo_41 ?_
      try simp only [(nI_clamp (show k1 < 2 ^ 31 by omega))] at c1
      simpa only [nI_1, (nI_clamp (show k1 < 2 ^ 31 by omega)), fX10_tiedSo_n_1, if_neg c1] using ih1
  · try dsimp only
    refine rr_iload 4 rfl dX10_tiedSo_5 ?_
    refine rr_aload_n 0 rfl rfl dX10_tiedSo_7 ?_
    refine rr_getR dX10_tiedSo_8 fX10_23 lo_49 sh_49 rfl ?_
    refine rr_iconst 0 rfl dX10_tiedSo_11 ?_
    refine rr_iaload dX10_tiedSo_12 lo_53 sh_53 (jj_inL rfl) ?_
    rw [show (h 53) (0 : Int32).toNatClampNeg = (nI n) from hT]
    refine rr_icmp_ge dX10_tiedSo_13 (fun _ => ?_) (fun c => absurd (jj_le_rf _) c)
    refine rr_iload_n 3 rfl rfl dX10_tiedSo_44 ?_
    refine rr_ireturn dX10_tiedSo_45 rfl ?_
    simpa only [vX10_tiedSo_n] using kq
def fX10_late_n_1 (r497 : Nat → Int32) (k1 : Nat) (a1 : Int32) : Int32 := (if (vX10_behind_n r497 (nI k1)) ≤ 0 then (a1 ||| 0) else (a1 ||| (1 <<< ((nI k1) &&& 31))))
def vX10_late_n (r497 : Nat → Int32) (n : Nat) : Int32 := (jj_fo (fX10_late_n_1 r497) n 0)
set_option maxHeartbeats 1000000 in
theorem sp_X10_late_n {d kc ks : Nat} {h : Nat → Nat → Int32} {g : Nat → Nat → Int64} {Q : jj_Rs → jj_St → Prop} {n : Nat} (hT : h 53 0 = nI n) (hn : n ≤ 8) (kq : Q (.inl (some (.int (vX10_late_n (h 497) n)))) (jj_S, 782, h, g)) : jj_R mX10_late (d + 1) kc ks (jj_S, 782, h, g) 0 [(0, .ref 49), (1, .ref 497)] [] Q := by
  refine rr_iconst 0 rfl dX10_late_0 ?_
  refine rr_istore_n [(0, .ref 49), (1, .ref 497), (2, .int 0)] dX10_late_1 rfl (by decide) rfl ?_
  refine rr_iconst 0 rfl dX10_late_2 ?_
  refine rr_istore_n [(0, .ref 49), (1, .ref 497), (2, .int 0), (3, .int 0)] dX10_late_3 rfl (by decide) rfl ?_
  refine jj_for (fun k1 (a1 : Int32) => jj_R _ _ kc ks (jj_S, 782, h, g) 4 [(0, .ref 49), (1, .ref 497), (2, .int a1), (3, .int (nI k1))] [] Q) (fX10_late_n_1 (h 497)) n 0 ?_ ?_
  · intro k1 hk1 ih1
    generalize jj_fo _ k1 _ = a1 at ih1 ⊢
    try dsimp only at ih1 ⊢
    refine rr_iload_n 3 rfl rfl dX10_late_4 ?_
    refine rr_aload_n 0 rfl rfl dX10_late_5 ?_
    refine rr_getR dX10_late_6 fX10_23 lo_49 sh_49 rfl ?_
    refine rr_iconst 0 rfl dX10_late_9 ?_
    refine rr_iaload dX10_late_10 lo_53 sh_53 (jj_inL rfl) ?_
    rw [show (h 53) (0 : Int32).toNatClampNeg = (nI n) from hT]
    refine rr_icmp_ge dX10_late_11 (fun c => absurd c (nI_ge (a := k1) (b := n) (by omega) (by omega))) (fun _ => ?_)
    refine rr_iload_n 2 rfl rfl dX10_late_14 ?_
    refine rr_aload_n 1 rfl rfl dX10_late_15 ?_
    refine rr_iload_n 3 rfl rfl dX10_late_16 ?_
    refine rr_callS (As := [.ref 497, .int (nI k1)]) (rest := [.int a1]) (kc2 := 0) (ks2 := 0) dX10_late_17 okX10_behind lX10_260 rfl (Nat.le_of_ble_eq_true rfl) (Nat.le_of_ble_eq_true rfl) rfl (by omega) (by simp [jj_rk]) (by simp [jj_rk]) ?_
    refine sp_X10_behind_n (vp_in_nI (by omega) (by decide)) ?_
    show jj_R _ _ kc ks (jj_S, 782, h, g) 20 [(0, .ref 49), (1, .ref 497), (2, .int a1), (3, .int (nI k1))] [.int (vX10_behind_n (h 497) (nI k1)), .int a1] Q
    refine rr_if_le dX10_late_20 (fun c1 => ?_) (fun c1 => ?_)
    · skip
      refine rr_iconst 0 rfl dX10_late_29 ?_
      refine rr_ior dX10_late_30 ?_
      refine rr_istore_n [(0, .ref 49), (1, .ref 497), (2, .int (a1 ||| 0)), (3, .int (nI k1))] dX10_late_31 rfl (by decide) rfl ?_
      refine rr_iinc 3 1 [(0, .ref 49), (1, .ref 497), (2, .int (a1 ||| 0)), (3, .int ((nI k1) + 1))] dX10_late_32 rfl rfl (by decide) rfl ?_
      refine rr_goto dX10_late_35 ?_
      try simp only [(nI_clamp (show k1 < 2 ^ 31 by omega))] at c1
      simpa only [nI_1, (nI_clamp (show k1 < 2 ^ 31 by omega)), fX10_late_n_1, if_pos c1] using ih1
    · skip
      refine rr_iconst 1 rfl dX10_late_23 ?_
      refine rr_iload_n 3 rfl rfl dX10_late_24 ?_
      refine rr_ishl dX10_late_25 ?_
      refine rr_goto dX10_late_26 ?_
      refine rr_ior dX10_late_30 ?_
      refine rr_istore_n [(0, .ref 49), (1, .ref 497), (2, .int (a1 ||| (1 <<< ((nI k1) &&& 31)))), (3, .int (nI k1))] dX10_late_31 rfl (by decide) rfl ?_
      refine rr_iinc 3 1 [(0, .ref 49), (1, .ref 497), (2, .int (a1 ||| (1 <<< ((nI k1) &&& 31)))), (3, .int ((nI k1) + 1))] dX10_late_32 rfl rfl (by decide) rfl ?_
      refine rr_goto dX10_late_35 ?_
      try simp only [(nI_clamp (show k1 < 2 ^ 31 by omega))] at c1
      simpa only [nI_1, (nI_clamp (show k1 < 2 ^ 31 by omega)), fX10_late_n_1, if_neg c1] using ih1
  · try dsimp only
    refine rr_iload_n 3 rfl rfl dX10_late_4 ?_
    refine rr_aload_n 0 rfl rfl dX10_late_5 ?_
    refine rr_getR dX10_late_6 fX10_23 lo_49 sh_49 rfl ?_
    refine rr_iconst 0 rfl dX10_late_9 ?_
    refine rr_iaload dX10_late_10 lo_53 sh_53 (jj_inL rfl) ?_
    rw [show (h 53) (0 : Int32).toNatClampNeg = (nI n) from hT]
    refine rr_icmp_ge dX10_late_11 (fun _ => ?_) (fun c => absurd (jj_le_rf _) c)
    refine rr_iload_n 2 rfl rfl dX10_late_38 ?_
    refine rr_ireturn dX10_late_39 rfl ?_
    simpa only [vX10_late_n] using kq
def fX10_lateness_n_1 (r497 : Nat → Int32) (k1 : Nat) (a1 : Int32) : Int32 := (a1 + (vX10_behind_n r497 (nI k1)))
def vX10_lateness_n (r497 : Nat → Int32) (n : Nat) : Int32 := (jj_fo (fX10_lateness_n_1 r497) n 0)
set_option maxHeartbeats 1000000 in
theorem sp_X10_lateness_n {d kc ks : Nat} {h : Nat → Nat → Int32} {g : Nat → Nat → Int64} {Q : jj_Rs → jj_St → Prop} {n : Nat} (hT : h 53 0 = nI n) (hn : n ≤ 8) (kq : Q (.inl (some (.int (vX10_lateness_n (h 497) n)))) (jj_S, 782, h, g)) : jj_R mX10_lateness (d + 1) kc ks (jj_S, 782, h, g) 0 [(0, .ref 49), (1, .ref 497)] [] Q := by
  refine rr_iconst 0 rfl dX10_lateness_0 ?_
  refine rr_istore_n [(0, .ref 49), (1, .ref 497), (2, .int 0)] dX10_lateness_1 rfl (by decide) rfl ?_
  refine rr_iconst 0 rfl dX10_lateness_2 ?_
  refine rr_istore_n [(0, .ref 49), (1, .ref 497), (2, .int 0), (3, .int 0)] dX10_lateness_3 rfl (by decide) rfl ?_
  refine jj_for (fun k1 (a1 : Int32) => jj_R _ _ kc ks (jj_S, 782, h, g) 4 [(0, .ref 49), (1, .ref 497), (2, .int a1), (3, .int (nI k1))] [] Q) (fX10_lateness_n_1 (h 497)) n 0 ?_ ?_
  · intro k1 hk1 ih1
    generalize jj_fo _ k1 _ = a1 at ih1 ⊢
    try dsimp only at ih1 ⊢
    refine rr_iload_n 3 rfl rfl dX10_lateness_4 ?_
    refine rr_aload_n 0 rfl rfl dX10_lateness_5 ?_
    refine rr_getR dX10_lateness_6 fX10_23 lo_49 sh_49 rfl ?_
    refine rr_iconst 0 rfl dX10_lateness_9 ?_
    refine rr_iaload dX10_lateness_10 lo_53 sh_53 (jj_inL rfl) ?_
    rw [show (h 53) (0 : Int32).toNatClampNeg = (nI n) from hT]
    refine rr_icmp_ge dX10_lateness_11 (fun c => absurd c (nI_ge (a := k1) (b := n) (by omega) (by omega))) (fun _ => ?_)
    refine rr_iload_n 2 rfl rfl dX10_lateness_14 ?_
    refine rr_aload_n 1 rfl rfl dX10_lateness_15 ?_
    refine rr_iload_n 3 rfl rfl dX10_lateness_16 ?_
    refine rr_callS (As := [.ref 497, .int (nI k1)]) (rest := [.int a1]) (kc2 := 0) (ks2 := 0) dX10_lateness_17 okX10_behind lX10_260 rfl (Nat.le_of_ble_eq_true rfl) (Nat.le_of_ble_eq_true rfl) rfl (by omega) (by simp [jj_rk]) (by simp [jj_rk]) ?_
    refine sp_X10_behind_n (vp_in_nI (by omega) (by decide)) ?_
    show jj_R _ _ kc ks (jj_S, 782, h, g) 20 [(0, .ref 49), (1, .ref 497), (2, .int a1), (3, .int (nI k1))] [.int (vX10_behind_n (h 497) (nI k1)), .int a1] Q
    refine rr_iadd dX10_lateness_20 ?_
    refine rr_istore_n [(0, .ref 49), (1, .ref 497), (2, .int (a1 + (vX10_behind_n (h 497) (nI k1)))), (3, .int (nI k1))] dX10_lateness_21 rfl (by decide) rfl ?_
    refine rr_iinc 3 1 [(0, .ref 49), (1, .ref 497), (2, .int (a1 + (vX10_behind_n (h 497) (nI k1)))), (3, .int ((nI k1) + 1))] dX10_lateness_22 rfl rfl (by decide) rfl ?_
    refine rr_goto dX10_lateness_25 ?_
    simpa only [nI_1, (nI_clamp (show k1 < 2 ^ 31 by omega)), fX10_lateness_n_1] using ih1
  · try dsimp only
    refine rr_iload_n 3 rfl rfl dX10_lateness_4 ?_
    refine rr_aload_n 0 rfl rfl dX10_lateness_5 ?_
    refine rr_getR dX10_lateness_6 fX10_23 lo_49 sh_49 rfl ?_
    refine rr_iconst 0 rfl dX10_lateness_9 ?_
    refine rr_iaload dX10_lateness_10 lo_53 sh_53 (jj_inL rfl) ?_
    rw [show (h 53) (0 : Int32).toNatClampNeg = (nI n) from hT]
    refine rr_icmp_ge dX10_lateness_11 (fun _ => ?_) (fun c => absurd (jj_le_rf _) c)
    refine rr_iload_n 2 rfl rfl dX10_lateness_28 ?_
    refine rr_ireturn dX10_lateness_29 rfl ?_
    simpa only [vX10_lateness_n] using kq
def fX10_slipsOf_n_1 (r497 : Nat → Int32) (k1 : Nat) (a1 : Int32) : Int32 := (a1 + (r497 (((16 : Int32) + (nI k1)) : Int32).toNatClampNeg))
def vX10_slipsOf_n (r497 : Nat → Int32) (n : Nat) : Int32 := (jj_fo (fX10_slipsOf_n_1 r497) n 0)
set_option maxHeartbeats 1000000 in
theorem sp_X10_slipsOf_n {d kc ks : Nat} {h : Nat → Nat → Int32} {g : Nat → Nat → Int64} {Q : jj_Rs → jj_St → Prop} {n : Nat} (hT : h 53 0 = nI n) (hn : n ≤ 8) (kq : Q (.inl (some (.int (vX10_slipsOf_n (h 497) n)))) (jj_S, 782, h, g)) : jj_R mX10_slipsOf (d + 0) kc ks (jj_S, 782, h, g) 0 [(0, .ref 49), (1, .ref 497)] [] Q := by
  refine rr_iconst 0 rfl dX10_slipsOf_0 ?_
  refine rr_istore_n [(0, .ref 49), (1, .ref 497), (2, .int 0)] dX10_slipsOf_1 rfl (by decide) rfl ?_
  refine rr_iconst 0 rfl dX10_slipsOf_2 ?_
  refine rr_istore_n [(0, .ref 49), (1, .ref 497), (2, .int 0), (3, .int 0)] dX10_slipsOf_3 rfl (by decide) rfl ?_
  refine jj_for (fun k1 (a1 : Int32) => jj_R _ _ kc ks (jj_S, 782, h, g) 4 [(0, .ref 49), (1, .ref 497), (2, .int a1), (3, .int (nI k1))] [] Q) (fX10_slipsOf_n_1 (h 497)) n 0 ?_ ?_
  · intro k1 hk1 ih1
    generalize jj_fo _ k1 _ = a1 at ih1 ⊢
    try dsimp only at ih1 ⊢
    refine rr_iload_n 3 rfl rfl dX10_slipsOf_4 ?_
    refine rr_aload_n 0 rfl rfl dX10_slipsOf_5 ?_
    refine rr_getR dX10_slipsOf_6 fX10_23 lo_49 sh_49 rfl ?_
    refine rr_iconst 0 rfl dX10_slipsOf_9 ?_
    refine rr_iaload dX10_slipsOf_10 lo_53 sh_53 (jj_inL rfl) ?_
    rw [show (h 53) (0 : Int32).toNatClampNeg = (nI n) from hT]
    refine rr_icmp_ge dX10_slipsOf_11 (fun c => absurd c (nI_ge (a := k1) (b := n) (by omega) (by omega))) (fun _ => ?_)
    refine rr_iload_n 2 rfl rfl dX10_slipsOf_14 ?_
    refine rr_aload_n 1 rfl rfl dX10_slipsOf_15 ?_
    refine rr_bipush 16 rfl dX10_slipsOf_16 ?_
    refine rr_iload_n 3 rfl rfl dX10_slipsOf_18 ?_
    refine rr_iadd dX10_slipsOf_19 ?_
    refine rr_iaload dX10_slipsOf_20 lo_497 sh_497 (jj_rowin (n := 8) (o := 16) (vp_in_nI (by omega) (by decide)) (by decide) (by decide)) ?_
    refine rr_iadd dX10_slipsOf_21 ?_
    refine rr_istore_n [(0, .ref 49), (1, .ref 497), (2, .int (a1 + ((h 497) (((16 : Int32) + (nI k1)) : Int32).toNatClampNeg))), (3, .int (nI k1))] dX10_slipsOf_22 rfl (by decide) rfl ?_
    refine rr_iinc 3 1 [(0, .ref 49), (1, .ref 497), (2, .int (a1 + ((h 497) (((16 : Int32) + (nI k1)) : Int32).toNatClampNeg))), (3, .int ((nI k1) + 1))] dX10_slipsOf_23 rfl rfl (by decide) rfl ?_
    refine rr_goto dX10_slipsOf_26 ?_
    simpa only [nI_1, (nI_clamp (show k1 < 2 ^ 31 by omega)), fX10_slipsOf_n_1] using ih1
  · try dsimp only
    refine rr_iload_n 3 rfl rfl dX10_slipsOf_4 ?_
    refine rr_aload_n 0 rfl rfl dX10_slipsOf_5 ?_
    refine rr_getR dX10_slipsOf_6 fX10_23 lo_49 sh_49 rfl ?_
    refine rr_iconst 0 rfl dX10_slipsOf_9 ?_
    refine rr_iaload dX10_slipsOf_10 lo_53 sh_53 (jj_inL rfl) ?_
    rw [show (h 53) (0 : Int32).toNatClampNeg = (nI n) from hT]
    refine rr_icmp_ge dX10_slipsOf_11 (fun _ => ?_) (fun c => absurd (jj_le_rf _) c)
    refine rr_iload_n 2 rfl rfl dX10_slipsOf_29 ?_
    refine rr_ireturn dX10_slipsOf_30 rfl ?_
    simpa only [vX10_slipsOf_n] using kq
def fX10_dayEnds_n_1  (k1 : Nat) (a1 : (Nat → Int32)) : (Nat → Int32) := (if (a1 (((8 : Int32) + (nI k1)) : Int32).toNatClampNeg) = 2 then (if ((upd a1 ((((0 : Int32) + (nI k1)) : Int32).toNatClampNeg) ((a1 (((0 : Int32) + (nI k1)) : Int32).toNatClampNeg) + 1)) (((8 : Int32) + (nI k1)) : Int32).toNatClampNeg) = 2 then (if (vX10_has ((upd (upd a1 ((((0 : Int32) + (nI k1)) : Int32).toNatClampNeg) ((a1 (((0 : Int32) + (nI k1)) : Int32).toNatClampNeg) + 1)) ((((8 : Int32) + (nI k1)) : Int32).toNatClampNeg) 2) 32) (nI k1)) = 0 then (upd (upd (upd a1 ((((0 : Int32) + (nI k1)) : Int32).toNatClampNeg) ((a1 (((0 : Int32) + (nI k1)) : Int32).toNatClampNeg) + 1)) ((((8 : Int32) + (nI k1)) : Int32).toNatClampNeg) 2) ((((0 : Int32) + (nI k1)) : Int32).toNatClampNeg) ((upd (upd a1 ((((0 : Int32) + (nI k1)) : Int32).toNatClampNeg) ((a1 (((0 : Int32) + (nI k1)) : Int32).toNatClampNeg) + 1)) ((((8 : Int32) + (nI k1)) : Int32).toNatClampNeg) 2) (((0 : Int32) + (nI k1)) : Int32).toNatClampNeg)) else (upd (upd (upd a1 ((((0 : Int32) + (nI k1)) : Int32).toNatClampNeg) ((a1 (((0 : Int32) + (nI k1)) : Int32).toNatClampNeg) + 1)) ((((8 : Int32) + (nI k1)) : Int32).toNatClampNeg) 2) ((((0 : Int32) + (nI k1)) : Int32).toNatClampNeg) ((upd (upd a1 ((((0 : Int32) + (nI k1)) : Int32).toNatClampNeg) ((a1 (((0 : Int32) + (nI k1)) : Int32).toNatClampNeg) + 1)) ((((8 : Int32) + (nI k1)) : Int32).toNatClampNeg) 2) 33))) else (if (vX10_has ((upd (upd a1 ((((0 : Int32) + (nI k1)) : Int32).toNatClampNeg) ((a1 (((0 : Int32) + (nI k1)) : Int32).toNatClampNeg) + 1)) ((((8 : Int32) + (nI k1)) : Int32).toNatClampNeg) 0) 32) (nI k1)) = 0 then (upd (upd (upd a1 ((((0 : Int32) + (nI k1)) : Int32).toNatClampNeg) ((a1 (((0 : Int32) + (nI k1)) : Int32).toNatClampNeg) + 1)) ((((8 : Int32) + (nI k1)) : Int32).toNatClampNeg) 0) ((((0 : Int32) + (nI k1)) : Int32).toNatClampNeg) ((upd (upd a1 ((((0 : Int32) + (nI k1)) : Int32).toNatClampNeg) ((a1 (((0 : Int32) + (nI k1)) : Int32).toNatClampNeg) + 1)) ((((8 : Int32) + (nI k1)) : Int32).toNatClampNeg) 0) (((0 : Int32) + (nI k1)) : Int32).toNatClampNeg)) else (upd (upd (upd a1 ((((0 : Int32) + (nI k1)) : Int32).toNatClampNeg) ((a1 (((0 : Int32) + (nI k1)) : Int32).toNatClampNeg) + 1)) ((((8 : Int32) + (nI k1)) : Int32).toNatClampNeg) 0) ((((0 : Int32) + (nI k1)) : Int32).toNatClampNeg) ((upd (upd a1 ((((0 : Int32) + (nI k1)) : Int32).toNatClampNeg) ((a1 (((0 : Int32) + (nI k1)) : Int32).toNatClampNeg) + 1)) ((((8 : Int32) + (nI k1)) : Int32).toNatClampNeg) 0) 33)))) else (if ((upd a1 ((((0 : Int32) + (nI k1)) : Int32).toNatClampNeg) ((a1 (((0 : Int32) + (nI k1)) : Int32).toNatClampNeg) + 0)) (((8 : Int32) + (nI k1)) : Int32).toNatClampNeg) = 2 then (if (vX10_has ((upd (upd a1 ((((0 : Int32) + (nI k1)) : Int32).toNatClampNeg) ((a1 (((0 : Int32) + (nI k1)) : Int32).toNatClampNeg) + 0)) ((((8 : Int32) + (nI k1)) : Int32).toNatClampNeg) 2) 32) (nI k1)) = 0 then (upd (upd (upd a1 ((((0 : Int32) + (nI k1)) : Int32).toNatClampNeg) ((a1 (((0 : Int32) + (nI k1)) : Int32).toNatClampNeg) + 0)) ((((8 : Int32) + (nI k1)) : Int32).toNatClampNeg) 2) ((((0 : Int32) + (nI k1)) : Int32).toNatClampNeg) ((upd (upd a1 ((((0 : Int32) + (nI k1)) : Int32).toNatClampNeg) ((a1 (((0 : Int32) + (nI k1)) : Int32).toNatClampNeg) + 0)) ((((8 : Int32) + (nI k1)) : Int32).toNatClampNeg) 2) (((0 : Int32) + (nI k1)) : Int32).toNatClampNeg)) else (upd (upd (upd a1 ((((0 : Int32) + (nI k1)) : Int32).toNatClampNeg) ((a1 (((0 : Int32) + (nI k1)) : Int32).toNatClampNeg) + 0)) ((((8 : Int32) + (nI k1)) : Int32).toNatClampNeg) 2) ((((0 : Int32) + (nI k1)) : Int32).toNatClampNeg) ((upd (upd a1 ((((0 : Int32) + (nI k1)) : Int32).toNatClampNeg) ((a1 (((0 : Int32) + (nI k1)) : Int32).toNatClampNeg) + 0)) ((((8 : Int32) + (nI k1)) : Int32).toNatClampNeg) 2) 33))) else (if (vX10_has ((upd (upd a1 ((((0 : Int32) + (nI k1)) : Int32).toNatClampNeg) ((a1 (((0 : Int32) + (nI k1)) : Int32).toNatClampNeg) + 0)) ((((8 : Int32) + (nI k1)) : Int32).toNatClampNeg) 0) 32) (nI k1)) = 0 then (upd (upd (upd a1 ((((0 : Int32) + (nI k1)) : Int32).toNatClampNeg) ((a1 (((0 : Int32) + (nI k1)) : Int32).toNatClampNeg) + 0)) ((((8 : Int32) + (nI k1)) : Int32).toNatClampNeg) 0) ((((0 : Int32) + (nI k1)) : Int32).toNatClampNeg) ((upd (upd a1 ((((0 : Int32) + (nI k1)) : Int32).toNatClampNeg) ((a1 (((0 : Int32) + (nI k1)) : Int32).toNatClampNeg) + 0)) ((((8 : Int32) + (nI k1)) : Int32).toNatClampNeg) 0) (((0 : Int32) + (nI k1)) : Int32).toNatClampNeg)) else (upd (upd (upd a1 ((((0 : Int32) + (nI k1)) : Int32).toNatClampNeg) ((a1 (((0 : Int32) + (nI k1)) : Int32).toNatClampNeg) + 0)) ((((8 : Int32) + (nI k1)) : Int32).toNatClampNeg) 0) ((((0 : Int32) + (nI k1)) : Int32).toNatClampNeg) ((upd (upd a1 ((((0 : Int32) + (nI k1)) : Int32).toNatClampNeg) ((a1 (((0 : Int32) + (nI k1)) : Int32).toNatClampNeg) + 0)) ((((8 : Int32) + (nI k1)) : Int32).toNatClampNeg) 0) 33)))))
def rX10_dayEnds_n_497 (r497 : Nat → Int32) (n : Nat) : Nat → Int32 := (jj_fo fX10_dayEnds_n_1 n (upd r497 (33) ((r497 33) + 1)))
set_option maxHeartbeats 1000000 in
theorem sp_X10_dayEnds_n {d kc ks : Nat} {h : Nat → Nat → Int32} {g : Nat → Nat → Int64} {Q : jj_Rs → jj_St → Prop} {n : Nat} (hT : h 53 0 = nI n) (hn : n ≤ 8) (kq : Q (.inl none) (jj_S, 782, (jj_rs h [(497, (rX10_dayEnds_n_497 (h 497) n))]), g)) : jj_R mX10_dayEnds (d + 1) kc ks (jj_S, 782, h, g) 0 [(0, .ref 49), (1, .ref 497)] [] Q := by
  refine rr_aload_n 1 rfl rfl dX10_dayEnds_0 ?_
  refine rr_bipush 33 rfl dX10_dayEnds_1 ?_
  refine rr_dup2 rfl rfl dX10_dayEnds_3 ?_
  refine rr_iaload dX10_dayEnds_4 lo_497 sh_497 (jj_inL rfl) ?_
  rw [show (h 497) (33 : Int32).toNatClampNeg = (h 497) 33 from rfl]
  refine rr_iconst 1 rfl dX10_dayEnds_5 ?_
  refine rr_iadd dX10_dayEnds_6 ?_
  refine rr_iastore dX10_dayEnds_7 lo_497 sh_497 (jj_inL rfl) ?_
  rw [show (33 : Int32).toNatClampNeg = 33 from rfl]
  rw [jj_rs_set0 (B := h) (o := 497) (r := (h 497)) rfl]
  refine rr_iconst 0 rfl dX10_dayEnds_8 ?_
  refine rr_istore_n [(0, .ref 49), (1, .ref 497), (2, .int 0)] dX10_dayEnds_9 rfl (by decide) rfl ?_
  refine jj_for (fun k1 (a1 : (Nat → Int32)) => jj_R _ _ kc ks (jj_S, 782, (jj_rs h [(497, a1)]), g) 10 [(0, .ref 49), (1, .ref 497), (2, .int (nI k1))] [] Q) fX10_dayEnds_n_1 n (upd (h 497) (33) (((h 497) 33) + 1)) ?_ ?_
  · intro k1 hk1 ih1
    generalize jj_fo _ k1 _ = a1 at ih1 ⊢
    try dsimp only at ih1 ⊢
    refine rr_iload_n 2 rfl rfl dX10_dayEnds_10 ?_
    refine rr_aload_n 0 rfl rfl dX10_dayEnds_11 ?_
    refine rr_getR dX10_dayEnds_12 fX10_23 lo_49 sh_49 rfl ?_
    refine rr_iconst 0 rfl dX10_dayEnds_15 ?_
    refine rr_iaload dX10_dayEnds_16 lo_53 sh_53 (jj_inL rfl) ?_
    rw [show (jj_rs h [(497, a1)]) 53 = h 53 from rfl]
    rw [show (h 53) (0 : Int32).toNatClampNeg = (nI n) from hT]
    refine rr_icmp_ge dX10_dayEnds_17 (fun c => absurd c (nI_ge (a := k1) (b := n) (by omega) (by omega))) (fun _ => ?_)
    refine rr_aload_n 1 rfl rfl dX10_dayEnds_20 ?_
    refine rr_iconst 0 rfl dX10_dayEnds_21 ?_
    refine rr_iload_n 2 rfl rfl dX10_dayEnds_22 ?_
    refine rr_iadd dX10_dayEnds_23 ?_
    refine rr_dup2 rfl rfl dX10_dayEnds_24 ?_
    refine rr_iaload dX10_dayEnds_25 lo_497 sh_497 (jj_rowin (n := 8) (o := 0) (vp_in_nI (by omega) (by decide)) (by decide) (by decide)) ?_
    rw [show (jj_rs h [(497, a1)]) 497 = a1 from rfl]
    refine rr_aload_n 1 rfl rfl dX10_dayEnds_26 ?_
    refine rr_bipush 8 rfl dX10_dayEnds_27 ?_
    refine rr_iload_n 2 rfl rfl dX10_dayEnds_29 ?_
    refine rr_iadd dX10_dayEnds_30 ?_
    refine rr_iaload dX10_dayEnds_31 lo_497 sh_497 (jj_rowin (n := 8) (o := 8) (vp_in_nI (by omega) (by decide)) (by decide) (by decide)) ?_
    rw [show (jj_rs h [(497, a1)]) 497 = a1 from rfl]
    refine rr_iconst 2 rfl dX10_dayEnds_32 ?_
    refine rr_icmp_ne dX10_dayEnds_33 (fun c1 => ?_) (fun c1 => ?_)
    · skip
      refine rr_iconst 0 rfl dX10_dayEnds_40 ?_
      refine rr_iadd dX10_dayEnds_41 ?_
      refine rr_iastore dX10_dayEnds_42 lo_497 sh_497 (jj_rowin (n := 8) (o := 0) (vp_in_nI (by omega) (by decide)) (by decide) (by decide)) ?_
      rw [jj_rs_set (B := h) (L := [(497, a1)]) (L2 := [(497, (upd a1 ((((0 : Int32) + (nI k1)) : Int32).toNatClampNeg) ((a1 (((0 : Int32) + (nI k1)) : Int32).toNatClampNeg) + 0)))]) (r := a1) rfl rfl]
      refine rr_aload_n 1 rfl rfl dX10_dayEnds_43 ?_
      refine rr_bipush 8 rfl dX10_dayEnds_44 ?_
      refine rr_iload_n 2 rfl rfl dX10_dayEnds_46 ?_
      refine rr_iadd dX10_dayEnds_47 ?_
      refine rr_aload_n 1 rfl rfl dX10_dayEnds_48 ?_
      refine rr_bipush 8 rfl dX10_dayEnds_49 ?_
      refine rr_iload_n 2 rfl rfl dX10_dayEnds_51 ?_
      refine rr_iadd dX10_dayEnds_52 ?_
      refine rr_iaload dX10_dayEnds_53 lo_497 sh_497 (jj_rowin (n := 8) (o := 8) (vp_in_nI (by omega) (by decide)) (by decide) (by decide)) ?_
      rw [show (jj_rs h [(497, (upd a1 ((((0 : Int32) + (nI k1)) : Int32).toNatClampNeg) ((a1 (((0 : Int32) + (nI k1)) : Int32).toNatClampNeg) + 0)))]) 497 = (upd a1 ((((0 : Int32) + (nI k1)) : Int32).toNatClampNeg) ((a1 (((0 : Int32) + (nI k1)) : Int32).toNatClampNeg) + 0)) from rfl]
      refine rr_iconst 2 rfl dX10_dayEnds_54 ?_
      refine rr_icmp_ne dX10_dayEnds_55 (fun c2 => ?_) (fun c2 => ?_)
      · skip
        refine rr_iconst 0 rfl dX10_dayEnds_62 ?_
        refine rr_iastore dX10_dayEnds_63 lo_497 sh_497 (jj_rowin (n := 8) (o := 8) (vp_in_nI (by omega) (by decide)) (by decide) (by decide)) ?_
        rw [jj_rs_set (B := h) (L := [(497, (upd a1 ((((0 : Int32) + (nI k1)) : Int32).toNatClampNeg) ((a1 (((0 : Int32) + (nI k1)) : Int32).toNatClampNeg) + 0)))]) (L2 := [(497, (upd (upd a1 ((((0 : Int32) + (nI k1)) : Int32).toNatClampNeg) ((a1 (((0 : Int32) + (nI k1)) : Int32).toNatClampNeg) + 0)) ((((8 : Int32) + (nI k1)) : Int32).toNatClampNeg) 0))]) (r := (upd a1 ((((0 : Int32) + (nI k1)) : Int32).toNatClampNeg) ((a1 (((0 : Int32) + (nI k1)) : Int32).toNatClampNeg) + 0))) rfl rfl]
        refine rr_aload_n 1 rfl rfl dX10_dayEnds_64 ?_
        refine rr_iconst 0 rfl dX10_dayEnds_65 ?_
        refine rr_iload_n 2 rfl rfl dX10_dayEnds_66 ?_
        refine rr_iadd dX10_dayEnds_67 ?_
        refine rr_aload_n 1 rfl rfl dX10_dayEnds_68 ?_
        refine rr_bipush 32 rfl dX10_dayEnds_69 ?_
        refine rr_iaload dX10_dayEnds_71 lo_497 sh_497 (jj_inL rfl) ?_
        rw [show (jj_rs h [(497, (upd (upd a1 ((((0 : Int32) + (nI k1)) : Int32).toNatClampNeg) ((a1 (((0 : Int32) + (nI k1)) : Int32).toNatClampNeg) + 0)) ((((8 : Int32) + (nI k1)) : Int32).toNatClampNeg) 0))]) 497 = (upd (upd a1 ((((0 : Int32) + (nI k1)) : Int32).toNatClampNeg) ((a1 (((0 : Int32) + (nI k1)) : Int32).toNatClampNeg) + 0)) ((((8 : Int32) + (nI k1)) : Int32).toNatClampNeg) 0) from rfl]
        rw [show (upd (upd a1 ((((0 : Int32) + (nI k1)) : Int32).toNatClampNeg) ((a1 (((0 : Int32) + (nI k1)) : Int32).toNatClampNeg) + 0)) ((((8 : Int32) + (nI k1)) : Int32).toNatClampNeg) 0) (32 : Int32).toNatClampNeg = (upd (upd a1 ((((0 : Int32) + (nI k1)) : Int32).toNatClampNeg) ((a1 (((0 : Int32) + (nI k1)) : Int32).toNatClampNeg) + 0)) ((((8 : Int32) + (nI k1)) : Int32).toNatClampNeg) 0) 32 from rfl]
        refine rr_iload_n 2 rfl rfl dX10_dayEnds_72 ?_
        refine rr_callS (As := [.int ((upd (upd a1 ((((0 : Int32) + (nI k1)) : Int32).toNatClampNeg) ((a1 (((0 : Int32) + (nI k1)) : Int32).toNatClampNeg) + 0)) ((((8 : Int32) + (nI k1)) : Int32).toNatClampNeg) 0) 32), .int (nI k1)]) (rest := [.int ((0 : Int32) + (nI k1)), .ref 497]) (kc2 := 0) (ks2 := 0) dX10_dayEnds_73 okX10_has lX10_254 rfl (Nat.le_of_ble_eq_true rfl) (Nat.le_of_ble_eq_true rfl) rfl (by omega) (by simp [jj_rk]) (by simp [jj_rk]) ?_
        refine sp_X10_has  ?_
        show jj_R _ _ kc ks (jj_S, 782, (jj_rs h [(497, (upd (upd a1 ((((0 : Int32) + (nI k1)) : Int32).toNatClampNeg) ((a1 (((0 : Int32) + (nI k1)) : Int32).toNatClampNeg) + 0)) ((((8 : Int32) + (nI k1)) : Int32).toNatClampNeg) 0))]), g) 76 [(0, .ref 49), (1, .ref 497), (2, .int (nI k1))] [.int (vX10_has ((upd (upd a1 ((((0 : Int32) + (nI k1)) : Int32).toNatClampNeg) ((a1 (((0 : Int32) + (nI k1)) : Int32).toNatClampNeg) + 0)) ((((8 : Int32) + (nI k1)) : Int32).toNatClampNeg) 0) 32) (nI k1)), .int ((0 : Int32) + (nI k1)), .ref 497] Q
        refine rr_if_eq dX10_dayEnds_76 (fun c3 => ?_) (fun c3 => ?_)
        · skip
          refine rr_aload_n 1 rfl rfl dX10_dayEnds_86 ?_
          refine rr_iconst 0 rfl dX10_dayEnds_87 ?_
          refine rr_iload_n 2 rfl rfl dX10_dayEnds_88 ?_
          refine rr_iadd dX10_dayEnds_89 ?_
          refine rr_iaload dX10_dayEnds_90 lo_497 sh_497 (jj_rowin (n := 8) (o := 0) (vp_in_nI (by omega) (by decide)) (by decide) (by decide)) ?_
          rw [show (jj_rs h [(497, (upd (upd a1 ((((0 : Int32) + (nI k1)) : Int32).toNatClampNeg) ((a1 (((0 : Int32) + (nI k1)) : Int32).toNatClampNeg) + 0)) ((((8 : Int32) + (nI k1)) : Int32).toNatClampNeg) 0))]) 497 = (upd (upd a1 ((((0 : Int32) + (nI k1)) : Int32).toNatClampNeg) ((a1 (((0 : Int32) + (nI k1)) : Int32).toNatClampNeg) + 0)) ((((8 : Int32) + (nI k1)) : Int32).toNatClampNeg) 0) from rfl]
          refine rr_iastore dX10_dayEnds_91 lo_497 sh_497 (jj_rowin (n := 8) (o := 0) (vp_in_nI (by omega) (by decide)) (by decide) (by decide)) ?_
          rw [jj_rs_set (B := h) (L := [(497, (upd (upd a1 ((((0 : Int32) + (nI k1)) : Int32).toNatClampNeg) ((a1 (((0 : Int32) + (nI k1)) : Int32).toNatClampNeg) + 0)) ((((8 : Int32) + (nI k1)) : Int32).toNatClampNeg) 0))]) (L2 := [(497, (upd (upd (upd a1 ((((0 : Int32) + (nI k1)) : Int32).toNatClampNeg) ((a1 (((0 : Int32) + (nI k1)) : Int32).toNatClampNeg) + 0)) ((((8 : Int32) + (nI k1)) : Int32).toNatClampNeg) 0) ((((0 : Int32) + (nI k1)) : Int32).toNatClampNeg) ((upd (upd a1 ((((0 : Int32) + (nI k1)) : Int32).toNatClampNeg) ((a1 (((0 : Int32) + (nI k1)) : Int32).toNatClampNeg) + 0)) ((((8 : Int32) + (nI k1)) : Int32).toNatClampNeg) 0) (((0 : Int32) + (nI k1)) : Int32).toNatClampNeg)))]) (r := (upd (upd a1 ((((0 : Int32) + (nI k1)) : Int32).toNatClampNeg) ((a1 (((0 : Int32) + (nI k1)) : Int32).toNatClampNeg) + 0)) ((((8 : Int32) + (nI k1)) : Int32).toNatClampNeg) 0)) rfl rfl]
          refine rr_iinc 2 1 [(0, .ref 49), (1, .ref 497), (2, .int ((nI k1) + 1))] dX10_dayEnds_92 rfl rfl (by decide) rfl ?_
          refine rr_goto dX10_dayEnds_95 ?_
          try simp only [(nI_clamp (show k1 < 2 ^ 31 by omega))] at c1
          try simp only [(nI_clamp (show k1 < 2 ^ 31 by omega))] at c2
          try simp only [(nI_clamp (show k1 < 2 ^ 31 by omega))] at c3
          simpa only [nI_1, (nI_clamp (show k1 < 2 ^ 31 by omega)), fX10_dayEnds_n_1, if_neg c1, if_neg c2, if_pos c3] using ih1
        · skip
          refine rr_aload_n 1 rfl rfl dX10_dayEnds_79 ?_
          refine rr_bipush 33 rfl dX10_dayEnds_80 ?_
          refine rr_iaload dX10_dayEnds_82 lo_497 sh_497 (jj_inL rfl) ?_
          rw [show (jj_rs h [(497, (upd (upd a1 ((((0 : Int32) + (nI k1)) : Int32).toNatClampNeg) ((a1 (((0 : Int32) + (nI k1)) : Int32).toNatClampNeg) + 0)) ((((8 : Int32) + (nI k1)) : Int32).toNatClampNeg) 0))]) 497 = (upd (upd a1 ((((0 : Int32) + (nI k1)) : Int32).toNatClampNeg) ((a1 (((0 : Int32) + (nI k1)) : Int32).toNatClampNeg) + 0)) ((((8 : Int32) + (nI k1)) : Int32).toNatClampNeg) 0) from rfl]
          rw [show (upd (upd a1 ((((0 : Int32) + (nI k1)) : Int32).toNatClampNeg) ((a1 (((0 : Int32) + (nI k1)) : Int32).toNatClampNeg) + 0)) ((((8 : Int32) + (nI k1)) : Int32).toNatClampNeg) 0) (33 : Int32).toNatClampNeg = (upd (upd a1 ((((0 : Int32) + (nI k1)) : Int32).toNatClampNeg) ((a1 (((0 : Int32) + (nI k1)) : Int32).toNatClampNeg) + 0)) ((((8 : Int32) + (nI k1)) : Int32).toNatClampNeg) 0) 33 from rfl]
          refine rr_goto dX10_dayEnds_83 ?_
          refine rr_iastore dX10_dayEnds_91 lo_497 sh_497 (jj_rowin (n := 8) (o := 0) (vp_in_nI (by omega) (by decide)) (by decide) (by decide)) ?_
          rw [jj_rs_set (B := h) (L := [(497, (upd (upd a1 ((((0 : Int32) + (nI k1)) : Int32).toNatClampNeg) ((a1 (((0 : Int32) + (nI k1)) : Int32).toNatClampNeg) + 0)) ((((8 : Int32) + (nI k1)) : Int32).toNatClampNeg) 0))]) (L2 := [(497, (upd (upd (upd a1 ((((0 : Int32) + (nI k1)) : Int32).toNatClampNeg) ((a1 (((0 : Int32) + (nI k1)) : Int32).toNatClampNeg) + 0)) ((((8 : Int32) + (nI k1)) : Int32).toNatClampNeg) 0) ((((0 : Int32) + (nI k1)) : Int32).toNatClampNeg) ((upd (upd a1 ((((0 : Int32) + (nI k1)) : Int32).toNatClampNeg) ((a1 (((0 : Int32) + (nI k1)) : Int32).toNatClampNeg) + 0)) ((((8 : Int32) + (nI k1)) : Int32).toNatClampNeg) 0) 33)))]) (r := (upd (upd a1 ((((0 : Int32) + (nI k1)) : Int32).toNatClampNeg) ((a1 (((0 : Int32) + (nI k1)) : Int32).toNatClampNeg) + 0)) ((((8 : Int32) + (nI k1)) : Int32).toNatClampNeg) 0)) rfl rfl]
          refine rr_iinc 2 1 [(0, .ref 49), (1, .ref 497), (2, .int ((nI k1) + 1))] dX10_dayEnds_92 rfl rfl (by decide) rfl ?_
          refine rr_goto dX10_dayEnds_95 ?_
          try simp only [(nI_clamp (show k1 < 2 ^ 31 by omega))] at c1
          try simp only [(nI_clamp (show k1 < 2 ^ 31 by omega))] at c2
          try simp only [(nI_clamp (show k1 < 2 ^ 31 by omega))] at c3
          simpa only [nI_1, (nI_clamp (show k1 < 2 ^ 31 by omega)), fX10_dayEnds_n_1, if_neg c1, if_neg c2, if_neg c3] using ih1
      · skip
        refine rr_iconst 2 rfl dX10_dayEnds_58 ?_
        refine rr_goto dX10_dayEnds_59 ?_
        refine rr_iastore dX10_dayEnds_63 lo_497 sh_497 (jj_rowin (n := 8) (o := 8) (vp_in_nI (by omega) (by decide)) (by decide) (by decide)) ?_
        rw [jj_rs_set (B := h) (L := [(497, (upd a1 ((((0 : Int32) + (nI k1)) : Int32).toNatClampNeg) ((a1 (((0 : Int32) + (nI k1)) : Int32).toNatClampNeg) + 0)))]) (L2 := [(497, (upd (upd a1 ((((0 : Int32) + (nI k1)) : Int32).toNatClampNeg) ((a1 (((0 : Int32) + (nI k1)) : Int32).toNatClampNeg) + 0)) ((((8 : Int32) + (nI k1)) : Int32).toNatClampNeg) 2))]) (r := (upd a1 ((((0 : Int32) + (nI k1)) : Int32).toNatClampNeg) ((a1 (((0 : Int32) + (nI k1)) : Int32).toNatClampNeg) + 0))) rfl rfl]
        refine rr_aload_n 1 rfl rfl dX10_dayEnds_64 ?_
        refine rr_iconst 0 rfl dX10_dayEnds_65 ?_
        refine rr_iload_n 2 rfl rfl dX10_dayEnds_66 ?_
        refine rr_iadd dX10_dayEnds_67 ?_
        refine rr_aload_n 1 rfl rfl dX10_dayEnds_68 ?_
        refine rr_bipush 32 rfl dX10_dayEnds_69 ?_
        refine rr_iaload dX10_dayEnds_71 lo_497 sh_497 (jj_inL rfl) ?_
        rw [show (jj_rs h [(497, (upd (upd a1 ((((0 : Int32) + (nI k1)) : Int32).toNatClampNeg) ((a1 (((0 : Int32) + (nI k1)) : Int32).toNatClampNeg) + 0)) ((((8 : Int32) + (nI k1)) : Int32).toNatClampNeg) 2))]) 497 = (upd (upd a1 ((((0 : Int32) + (nI k1)) : Int32).toNatClampNeg) ((a1 (((0 : Int32) + (nI k1)) : Int32).toNatClampNeg) + 0)) ((((8 : Int32) + (nI k1)) : Int32).toNatClampNeg) 2) from rfl]
        rw [show (upd (upd a1 ((((0 : Int32) + (nI k1)) : Int32).toNatClampNeg) ((a1 (((0 : Int32) + (nI k1)) : Int32).toNatClampNeg) + 0)) ((((8 : Int32) + (nI k1)) : Int32).toNatClampNeg) 2) (32 : Int32).toNatClampNeg = (upd (upd a1 ((((0 : Int32) + (nI k1)) : Int32).toNatClampNeg) ((a1 (((0 : Int32) + (nI k1)) : Int32).toNatClampNeg) + 0)) ((((8 : Int32) + (nI k1)) : Int32).toNatClampNeg) 2) 32 from rfl]
        refine rr_iload_n 2 rfl rfl dX10_dayEnds_72 ?_
        refine rr_callS (As := [.int ((upd (upd a1 ((((0 : Int32) + (nI k1)) : Int32).toNatClampNeg) ((a1 (((0 : Int32) + (nI k1)) : Int32).toNatClampNeg) + 0)) ((((8 : Int32) + (nI k1)) : Int32).toNatClampNeg) 2) 32), .int (nI k1)]) (rest := [.int ((0 : Int32) + (nI k1)), .ref 497]) (kc2 := 0) (ks2 := 0) dX10_dayEnds_73 okX10_has lX10_254 rfl (Nat.le_of_ble_eq_true rfl) (Nat.le_of_ble_eq_true rfl) rfl (by omega) (by simp [jj_rk]) (by simp [jj_rk]) ?_
        refine sp_X10_has  ?_
        show jj_R _ _ kc ks (jj_S, 782, (jj_rs h [(497, (upd (upd a1 ((((0 : Int32) + (nI k1)) : Int32).toNatClampNeg) ((a1 (((0 : Int32) + (nI k1)) : Int32).toNatClampNeg) + 0)) ((((8 : Int32) + (nI k1)) : Int32).toNatClampNeg) 2))]), g) 76 [(0, .ref 49), (1, .ref 497), (2, .int (nI k1))] [.int (vX10_has ((upd (upd a1 ((((0 : Int32) + (nI k1)) : Int32).toNatClampNeg) ((a1 (((0 : Int32) + (nI k1)) : Int32).toNatClampNeg) + 0)) ((((8 : Int32) + (nI k1)) : Int32).toNatClampNeg) 2) 32) (nI k1)), .int ((0 : Int32) + (nI k1)), .ref 497] Q
        refine rr_if_eq dX10_dayEnds_76 (fun c4 => ?_) (fun c4 => ?_)
        · skip
          refine rr_aload_n 1 rfl rfl dX10_dayEnds_86 ?_
          refine rr_iconst 0 rfl dX10_dayEnds_87 ?_
          refine rr_iload_n 2 rfl rfl dX10_dayEnds_88 ?_
          refine rr_iadd dX10_dayEnds_89 ?_
          refine rr_iaload dX10_dayEnds_90 lo_497 sh_497 (jj_rowin (n := 8) (o := 0) (vp_in_nI (by omega) (by decide)) (by decide) (by decide)) ?_
          rw [show (jj_rs h [(497, (upd (upd a1 ((((0 : Int32) + (nI k1)) : Int32).toNatClampNeg) ((a1 (((0 : Int32) + (nI k1)) : Int32).toNatClampNeg) + 0)) ((((8 : Int32) + (nI k1)) : Int32).toNatClampNeg) 2))]) 497 = (upd (upd a1 ((((0 : Int32) + (nI k1)) : Int32).toNatClampNeg) ((a1 (((0 : Int32) + (nI k1)) : Int32).toNatClampNeg) + 0)) ((((8 : Int32) + (nI k1)) : Int32).toNatClampNeg) 2) from rfl]
          refine rr_iastore dX10_dayEnds_91 lo_497 sh_497 (jj_rowin (n := 8) (o := 0) (vp_in_nI (by omega) (by decide)) (by decide) (by decide)) ?_
          rw [jj_rs_set (B := h) (L := [(497, (upd (upd a1 ((((0 : Int32) + (nI k1)) : Int32).toNatClampNeg) ((a1 (((0 : Int32) + (nI k1)) : Int32).toNatClampNeg) + 0)) ((((8 : Int32) + (nI k1)) : Int32).toNatClampNeg) 2))]) (L2 := [(497, (upd (upd (upd a1 ((((0 : Int32) + (nI k1)) : Int32).toNatClampNeg) ((a1 (((0 : Int32) + (nI k1)) : Int32).toNatClampNeg) + 0)) ((((8 : Int32) + (nI k1)) : Int32).toNatClampNeg) 2) ((((0 : Int32) + (nI k1)) : Int32).toNatClampNeg) ((upd (upd a1 ((((0 : Int32) + (nI k1)) : Int32).toNatClampNeg) ((a1 (((0 : Int32) + (nI k1)) : Int32).toNatClampNeg) + 0)) ((((8 : Int32) + (nI k1)) : Int32).toNatClampNeg) 2) (((0 : Int32) + (nI k1)) : Int32).toNatClampNeg)))]) (r := (upd (upd a1 ((((0 : Int32) + (nI k1)) : Int32).toNatClampNeg) ((a1 (((0 : Int32) + (nI k1)) : Int32).toNatClampNeg) + 0)) ((((8 : Int32) + (nI k1)) : Int32).toNatClampNeg) 2)) rfl rfl]
          refine rr_iinc 2 1 [(0, .ref 49), (1, .ref 497), (2, .int ((nI k1) + 1))] dX10_dayEnds_92 rfl rfl (by decide) rfl ?_
          refine rr_goto dX10_dayEnds_95 ?_
          try simp only [(nI_clamp (show k1 < 2 ^ 31 by omega))] at c1
          try simp only [(nI_clamp (show k1 < 2 ^ 31 by omega))] at c2
          try simp only [(nI_clamp (show k1 < 2 ^ 31 by omega))] at c4
          simpa only [nI_1, (nI_clamp (show k1 < 2 ^ 31 by omega)), fX10_dayEnds_n_1, if_neg c1, if_pos c2, if_pos c4] using ih1
        · skip
          refine rr_aload_n 1 rfl rfl dX10_dayEnds_79 ?_
          refine rr_bipush 33 rfl dX10_dayEnds_80 ?_
          refine rr_iaload dX10_dayEnds_82 lo_497 sh_497 (jj_inL rfl) ?_
          rw [show (jj_rs h [(497, (upd (upd a1 ((((0 : Int32) + (nI k1)) : Int32).toNatClampNeg) ((a1 (((0 : Int32) + (nI k1)) : Int32).toNatClampNeg) + 0)) ((((8 : Int32) + (nI k1)) : Int32).toNatClampNeg) 2))]) 497 = (upd (upd a1 ((((0 : Int32) + (nI k1)) : Int32).toNatClampNeg) ((a1 (((0 : Int32) + (nI k1)) : Int32).toNatClampNeg) + 0)) ((((8 : Int32) + (nI k1)) : Int32).toNatClampNeg) 2) from rfl]
          rw [show (upd (upd a1 ((((0 : Int32) + (nI k1)) : Int32).toNatClampNeg) ((a1 (((0 : Int32) + (nI k1)) : Int32).toNatClampNeg) + 0)) ((((8 : Int32) + (nI k1)) : Int32).toNatClampNeg) 2) (33 : Int32).toNatClampNeg = (upd (upd a1 ((((0 : Int32) + (nI k1)) : Int32).toNatClampNeg) ((a1 (((0 : Int32) + (nI k1)) : Int32).toNatClampNeg) + 0)) ((((8 : Int32) + (nI k1)) : Int32).toNatClampNeg) 2) 33 from rfl]
          refine rr_goto dX10_dayEnds_83 ?_
          refine rr_iastore dX10_dayEnds_91 lo_497 sh_497 (jj_rowin (n := 8) (o := 0) (vp_in_nI (by omega) (by decide)) (by decide) (by decide)) ?_
          rw [jj_rs_set (B := h) (L := [(497, (upd (upd a1 ((((0 : Int32) + (nI k1)) : Int32).toNatClampNeg) ((a1 (((0 : Int32) + (nI k1)) : Int32).toNatClampNeg) + 0)) ((((8 : Int32) + (nI k1)) : Int32).toNatClampNeg) 2))]) (L2 := [(497, (upd (upd (upd a1 ((((0 : Int32) + (nI k1)) : Int32).toNatClampNeg) ((a1 (((0 : Int32) + (nI k1)) : Int32).toNatClampNeg) + 0)) ((((8 : Int32) + (nI k1)) : Int32).toNatClampNeg) 2) ((((0 : Int32) + (nI k1)) : Int32).toNatClampNeg) ((upd (upd a1 ((((0 : Int32) + (nI k1)) : Int32).toNatClampNeg) ((a1 (((0 : Int32) + (nI k1)) : Int32).toNatClampNeg) + 0)) ((((8 : Int32) + (nI k1)) : Int32).toNatClampNeg) 2) 33)))]) (r := (upd (upd a1 ((((0 : Int32) + (nI k1)) : Int32).toNatClampNeg) ((a1 (((0 : Int32) + (nI k1)) : Int32).toNatClampNeg) + 0)) ((((8 : Int32) + (nI k1)) : Int32).toNatClampNeg) 2)) rfl rfl]
          refine rr_iinc 2 1 [(0, .ref 49), (1, .ref 497), (2, .int ((nI k1) + 1))] dX10_dayEnds_92 rfl rfl (by decide) rfl ?_
          refine rr_goto dX10_dayEnds_95 ?_
          try simp only [(nI_clamp (show k1 < 2 ^ 31 by omega))] at c1
          try simp only [(nI_clamp (show k1 < 2 ^ 31 by omega))] at c2
          try simp only [(nI_clamp (show k1 < 2 ^ 31 by omega))] at c4
          simpa only [nI_1, (nI_clamp (show k1 < 2 ^ 31 by omega)), fX10_dayEnds_n_1, if_neg c1, if_pos c2, if_neg c4] using ih1
    · skip
      refine rr_iconst 1 rfl dX10_dayEnds_36 ?_
      refine rr_goto dX10_dayEnds_37 ?_
      refine rr_iadd dX10_dayEnds_41 ?_
      refine rr_iastore dX10_dayEnds_42 lo_497 sh_497 (jj_rowin (n := 8) (o := 0) (vp_in_nI (by omega) (by decide)) (by decide) (by decide)) ?_
      rw [jj_rs_set (B := h) (L := [(497, a1)]) (L2 := [(497, (upd a1 ((((0 : Int32) + (nI k1)) : Int32).toNatClampNeg) ((a1 (((0 : Int32) + (nI k1)) : Int32).toNatClampNeg) + 1)))]) (r := a1) rfl rfl]
      refine rr_aload_n 1 rfl rfl dX10_dayEnds_43 ?_
      refine rr_bipush 8 rfl dX10_dayEnds_44 ?_
      refine rr_iload_n 2 rfl rfl dX10_dayEnds_46 ?_
      refine rr_iadd dX10_dayEnds_47 ?_
      refine rr_aload_n 1 rfl rfl dX10_dayEnds_48 ?_
      refine rr_bipush 8 rfl dX10_dayEnds_49 ?_
      refine rr_iload_n 2 rfl rfl dX10_dayEnds_51 ?_
      refine rr_iadd dX10_dayEnds_52 ?_
      refine rr_iaload dX10_dayEnds_53 lo_497 sh_497 (jj_rowin (n := 8) (o := 8) (vp_in_nI (by omega) (by decide)) (by decide) (by decide)) ?_
      rw [show (jj_rs h [(497, (upd a1 ((((0 : Int32) + (nI k1)) : Int32).toNatClampNeg) ((a1 (((0 : Int32) + (nI k1)) : Int32).toNatClampNeg) + 1)))]) 497 = (upd a1 ((((0 : Int32) + (nI k1)) : Int32).toNatClampNeg) ((a1 (((0 : Int32) + (nI k1)) : Int32).toNatClampNeg) + 1)) from rfl]
      refine rr_iconst 2 rfl dX10_dayEnds_54 ?_
      refine rr_icmp_ne dX10_dayEnds_55 (fun c5 => ?_) (fun c5 => ?_)
      · skip
        refine rr_iconst 0 rfl dX10_dayEnds_62 ?_
        refine rr_iastore dX10_dayEnds_63 lo_497 sh_497 (jj_rowin (n := 8) (o := 8) (vp_in_nI (by omega) (by decide)) (by decide) (by decide)) ?_
        rw [jj_rs_set (B := h) (L := [(497, (upd a1 ((((0 : Int32) + (nI k1)) : Int32).toNatClampNeg) ((a1 (((0 : Int32) + (nI k1)) : Int32).toNatClampNeg) + 1)))]) (L2 := [(497, (upd (upd a1 ((((0 : Int32) + (nI k1)) : Int32).toNatClampNeg) ((a1 (((0 : Int32) + (nI k1)) : Int32).toNatClampNeg) + 1)) ((((8 : Int32) + (nI k1)) : Int32).toNatClampNeg) 0))]) (r := (upd a1 ((((0 : Int32) + (nI k1)) : Int32).toNatClampNeg) ((a1 (((0 : Int32) + (nI k1)) : Int32).toNatClampNeg) + 1))) rfl rfl]
        refine rr_aload_n 1 rfl rfl dX10_dayEnds_64 ?_
        refine rr_iconst 0 rfl dX10_dayEnds_65 ?_
        refine rr_iload_n 2 rfl rfl dX10_dayEnds_66 ?_
        refine rr_iadd dX10_dayEnds_67 ?_
        refine rr_aload_n 1 rfl rfl dX10_dayEnds_68 ?_
        refine rr_bipush 32 rfl dX10_dayEnds_69 ?_
        refine rr_iaload dX10_dayEnds_71 lo_497 sh_497 (jj_inL rfl) ?_
        rw [show (jj_rs h [(497, (upd (upd a1 ((((0 : Int32) + (nI k1)) : Int32).toNatClampNeg) ((a1 (((0 : Int32) + (nI k1)) : Int32).toNatClampNeg) + 1)) ((((8 : Int32) + (nI k1)) : Int32).toNatClampNeg) 0))]) 497 = (upd (upd a1 ((((0 : Int32) + (nI k1)) : Int32).toNatClampNeg) ((a1 (((0 : Int32) + (nI k1)) : Int32).toNatClampNeg) + 1)) ((((8 : Int32) + (nI k1)) : Int32).toNatClampNeg) 0) from rfl]
        rw [show (upd (upd a1 ((((0 : Int32) + (nI k1)) : Int32).toNatClampNeg) ((a1 (((0 : Int32) + (nI k1)) : Int32).toNatClampNeg) + 1)) ((((8 : Int32) + (nI k1)) : Int32).toNatClampNeg) 0) (32 : Int32).toNatClampNeg = (upd (upd a1 ((((0 : Int32) + (nI k1)) : Int32).toNatClampNeg) ((a1 (((0 : Int32) + (nI k1)) : Int32).toNatClampNeg) + 1)) ((((8 : Int32) + (nI k1)) : Int32).toNatClampNeg) 0) 32 from rfl]
        refine rr_iload_n 2 rfl rfl dX10_dayEnds_72 ?_
        refine rr_callS (As := [.int ((upd (upd a1 ((((0 : Int32) + (nI k1)) : Int32).toNatClampNeg) ((a1 (((0 : Int32) + (nI k1)) : Int32).toNatClampNeg) + 1)) ((((8 : Int32) + (nI k1)) : Int32).toNatClampNeg) 0) 32), .int (nI k1)]) (rest := [.int ((0 : Int32) + (nI k1)), .ref 497]) (kc2 := 0) (ks2 := 0) dX10_dayEnds_73 okX10_has lX10_254 rfl (Nat.le_of_ble_eq_true rfl) (Nat.le_of_ble_eq_true rfl) rfl (by omega) (by simp [jj_rk]) (by simp [jj_rk]) ?_
        refine sp_X10_has  ?_
        show jj_R _ _ kc ks (jj_S, 782, (jj_rs h [(497, (upd (upd a1 ((((0 : Int32) + (nI k1)) : Int32).toNatClampNeg) ((a1 (((0 : Int32) + (nI k1)) : Int32).toNatClampNeg) + 1)) ((((8 : Int32) + (nI k1)) : Int32).toNatClampNeg) 0))]), g) 76 [(0, .ref 49), (1, .ref 497), (2, .int (nI k1))] [.int (vX10_has ((upd (upd a1 ((((0 : Int32) + (nI k1)) : Int32).toNatClampNeg) ((a1 (((0 : Int32) + (nI k1)) : Int32).toNatClampNeg) + 1)) ((((8 : Int32) + (nI k1)) : Int32).toNatClampNeg) 0) 32) (nI k1)), .int ((0 : Int32) + (nI k1)), .ref 497] Q
        refine rr_if_eq dX10_dayEnds_76 (fun c6 => ?_) (fun c6 => ?_)
        · skip
          refine rr_aload_n 1 rfl rfl dX10_dayEnds_86 ?_
          refine rr_iconst 0 rfl dX10_dayEnds_87 ?_
          refine rr_iload_n 2 rfl rfl dX10_dayEnds_88 ?_
          refine rr_iadd dX10_dayEnds_89 ?_
          refine rr_iaload dX10_dayEnds_90 lo_497 sh_497 (jj_rowin (n := 8) (o := 0) (vp_in_nI (by omega) (by decide)) (by decide) (by decide)) ?_
          rw [show (jj_rs h [(497, (upd (upd a1 ((((0 : Int32) + (nI k1)) : Int32).toNatClampNeg) ((a1 (((0 : Int32) + (nI k1)) : Int32).toNatClampNeg) + 1)) ((((8 : Int32) + (nI k1)) : Int32).toNatClampNeg) 0))]) 497 = (upd (upd a1 ((((0 : Int32) + (nI k1)) : Int32).toNatClampNeg) ((a1 (((0 : Int32) + (nI k1)) : Int32).toNatClampNeg) + 1)) ((((8 : Int32) + (nI k1)) : Int32).toNatClampNeg) 0) from rfl]
          refine rr_iastore dX10_dayEnds_91 lo_497 sh_497 (jj_rowin (n := 8) (o := 0) (vp_in_nI (by omega) (by decide)) (by decide) (by decide)) ?_
          rw [jj_rs_set (B := h) (L := [(497, (upd (upd a1 ((((0 : Int32) + (nI k1)) : Int32).toNatClampNeg) ((a1 (((0 : Int32) + (nI k1)) : Int32).toNatClampNeg) + 1)) ((((8 : Int32) + (nI k1)) : Int32).toNatClampNeg) 0))]) (L2 := [(497, (upd (upd (upd a1 ((((0 : Int32) + (nI k1)) : Int32).toNatClampNeg) ((a1 (((0 : Int32) + (nI k1)) : Int32).toNatClampNeg) + 1)) ((((8 : Int32) + (nI k1)) : Int32).toNatClampNeg) 0) ((((0 : Int32) + (nI k1)) : Int32).toNatClampNeg) ((upd (upd a1 ((((0 : Int32) + (nI k1)) : Int32).toNatClampNeg) ((a1 (((0 : Int32) + (nI k1)) : Int32).toNatClampNeg) + 1)) ((((8 : Int32) + (nI k1)) : Int32).toNatClampNeg) 0) (((0 : Int32) + (nI k1)) : Int32).toNatClampNeg)))]) (r := (upd (upd a1 ((((0 : Int32) + (nI k1)) : Int32).toNatClampNeg) ((a1 (((0 : Int32) + (nI k1)) : Int32).toNatClampNeg) + 1)) ((((8 : Int32) + (nI k1)) : Int32).toNatClampNeg) 0)) rfl rfl]
          refine rr_iinc 2 1 [(0, .ref 49), (1, .ref 497), (2, .int ((nI k1) + 1))] dX10_dayEnds_92 rfl rfl (by decide) rfl ?_
          refine rr_goto dX10_dayEnds_95 ?_
          try simp only [(nI_clamp (show k1 < 2 ^ 31 by omega))] at c1
          try simp only [(nI_clamp (show k1 < 2 ^ 31 by omega))] at c5
          try simp only [(nI_clamp (show k1 < 2 ^ 31 by omega))] at c6
          simpa only [nI_1, (nI_clamp (show k1 < 2 ^ 31 by omega)), fX10_dayEnds_n_1, if_pos c1, if_neg c5, if_pos c6] using ih1
        · skip
          refine rr_aload_n 1 rfl rfl dX10_dayEnds_79 ?_
          refine rr_bipush 33 rfl dX10_dayEnds_80 ?_
          refine rr_iaload dX10_dayEnds_82 lo_497 sh_497 (jj_inL rfl) ?_
          rw [show (jj_rs h [(497, (upd (upd a1 ((((0 : Int32) + (nI k1)) : Int32).toNatClampNeg) ((a1 (((0 : Int32) + (nI k1)) : Int32).toNatClampNeg) + 1)) ((((8 : Int32) + (nI k1)) : Int32).toNatClampNeg) 0))]) 497 = (upd (upd a1 ((((0 : Int32) + (nI k1)) : Int32).toNatClampNeg) ((a1 (((0 : Int32) + (nI k1)) : Int32).toNatClampNeg) + 1)) ((((8 : Int32) + (nI k1)) : Int32).toNatClampNeg) 0) from rfl]
          rw [show (upd (upd a1 ((((0 : Int32) + (nI k1)) : Int32).toNatClampNeg) ((a1 (((0 : Int32) + (nI k1)) : Int32).toNatClampNeg) + 1)) ((((8 : Int32) + (nI k1)) : Int32).toNatClampNeg) 0) (33 : Int32).toNatClampNeg = (upd (upd a1 ((((0 : Int32) + (nI k1)) : Int32).toNatClampNeg) ((a1 (((0 : Int32) + (nI k1)) : Int32).toNatClampNeg) + 1)) ((((8 : Int32) + (nI k1)) : Int32).toNatClampNeg) 0) 33 from rfl]
          refine rr_goto dX10_dayEnds_83 ?_
          refine rr_iastore dX10_dayEnds_91 lo_497 sh_497 (jj_rowin (n := 8) (o := 0) (vp_in_nI (by omega) (by decide)) (by decide) (by decide)) ?_
          rw [jj_rs_set (B := h) (L := [(497, (upd (upd a1 ((((0 : Int32) + (nI k1)) : Int32).toNatClampNeg) ((a1 (((0 : Int32) + (nI k1)) : Int32).toNatClampNeg) + 1)) ((((8 : Int32) + (nI k1)) : Int32).toNatClampNeg) 0))]) (L2 := [(497, (upd (upd (upd a1 ((((0 : Int32) + (nI k1)) : Int32).toNatClampNeg) ((a1 (((0 : Int32) + (nI k1)) : Int32).toNatClampNeg) + 1)) ((((8 : Int32) + (nI k1)) : Int32).toNatClampNeg) 0) ((((0 : Int32) + (nI k1)) : Int32).toNatClampNeg) ((upd (upd a1 ((((0 : Int32) + (nI k1)) : Int32).toNatClampNeg) ((a1 (((0 : Int32) + (nI k1)) : Int32).toNatClampNeg) + 1)) ((((8 : Int32) + (nI k1)) : Int32).toNatClampNeg) 0) 33)))]) (r := (upd (upd a1 ((((0 : Int32) + (nI k1)) : Int32).toNatClampNeg) ((a1 (((0 : Int32) + (nI k1)) : Int32).toNatClampNeg) + 1)) ((((8 : Int32) + (nI k1)) : Int32).toNatClampNeg) 0)) rfl rfl]
          refine rr_iinc 2 1 [(0, .ref 49), (1, .ref 497), (2, .int ((nI k1) + 1))] dX10_dayEnds_92 rfl rfl (by decide) rfl ?_
          refine rr_goto dX10_dayEnds_95 ?_
          try simp only [(nI_clamp (show k1 < 2 ^ 31 by omega))] at c1
          try simp only [(nI_clamp (show k1 < 2 ^ 31 by omega))] at c5
          try simp only [(nI_clamp (show k1 < 2 ^ 31 by omega))] at c6
          simpa only [nI_1, (nI_clamp (show k1 < 2 ^ 31 by omega)), fX10_dayEnds_n_1, if_pos c1, if_neg c5, if_neg c6] using ih1
      · skip
        refine rr_iconst 2 rfl dX10_dayEnds_58 ?_
        refine rr_goto dX10_dayEnds_59 ?_
        refine rr_iastore dX10_dayEnds_63 lo_497 sh_497 (jj_rowin (n := 8) (o := 8) (vp_in_nI (by omega) (by decide)) (by decide) (by decide)) ?_
        rw [jj_rs_set (B := h) (L := [(497, (upd a1 ((((0 : Int32) + (nI k1)) : Int32).toNatClampNeg) ((a1 (((0 : Int32) + (nI k1)) : Int32).toNatClampNeg) + 1)))]) (L2 := [(497, (upd (upd a1 ((((0 : Int32) + (nI k1)) : Int32).toNatClampNeg) ((a1 (((0 : Int32) + (nI k1)) : Int32).toNatClampNeg) + 1)) ((((8 : Int32) + (nI k1)) : Int32).toNatClampNeg) 2))]) (r := (upd a1 ((((0 : Int32) + (nI k1)) : Int32).toNatClampNeg) ((a1 (((0 : Int32) + (nI k1)) : Int32).toNatClampNeg) + 1))) rfl rfl]
        refine rr_aload_n 1 rfl rfl dX10_dayEnds_64 ?_
        refine rr_iconst 0 rfl dX10_dayEnds_65 ?_
        refine rr_iload_n 2 rfl rfl dX10_dayEnds_66 ?_
        refine rr_iadd dX10_dayEnds_67 ?_
        refine rr_aload_n 1 rfl rfl dX10_dayEnds_68 ?_
        refine rr_bipush 32 rfl dX10_dayEnds_69 ?_
        refine rr_iaload dX10_dayEnds_71 lo_497 sh_497 (jj_inL rfl) ?_
        rw [show (jj_rs h [(497, (upd (upd a1 ((((0 : Int32) + (nI k1)) : Int32).toNatClampNeg) ((a1 (((0 : Int32) + (nI k1)) : Int32).toNatClampNeg) + 1)) ((((8 : Int32) + (nI k1)) : Int32).toNatClampNeg) 2))]) 497 = (upd (upd a1 ((((0 : Int32) + (nI k1)) : Int32).toNatClampNeg) ((a1 (((0 : Int32) + (nI k1)) : Int32).toNatClampNeg) + 1)) ((((8 : Int32) + (nI k1)) : Int32).toNatClampNeg) 2) from rfl]
        rw [show (upd (upd a1 ((((0 : Int32) + (nI k1)) : Int32).toNatClampNeg) ((a1 (((0 : Int32) + (nI k1)) : Int32).toNatClampNeg) + 1)) ((((8 : Int32) + (nI k1)) : Int32).toNatClampNeg) 2) (32 : Int32).toNatClampNeg = (upd (upd a1 ((((0 : Int32) + (nI k1)) : Int32).toNatClampNeg) ((a1 (((0 : Int32) + (nI k1)) : Int32).toNatClampNeg) + 1)) ((((8 : Int32) + (nI k1)) : Int32).toNatClampNeg) 2) 32 from rfl]
        refine rr_iload_n 2 rfl rfl dX10_dayEnds_72 ?_
        refine rr_callS (As := [.int ((upd (upd a1 ((((0 : Int32) + (nI k1)) : Int32).toNatClampNeg) ((a1 (((0 : Int32) + (nI k1)) : Int32).toNatClampNeg) + 1)) ((((8 : Int32) + (nI k1)) : Int32).toNatClampNeg) 2) 32), .int (nI k1)]) (rest := [.int ((0 : Int32) + (nI k1)), .ref 497]) (kc2 := 0) (ks2 := 0) dX10_dayEnds_73 okX10_has lX10_254 rfl (Nat.le_of_ble_eq_true rfl) (Nat.le_of_ble_eq_true rfl) rfl (by omega) (by simp [jj_rk]) (by simp [jj_rk]) ?_
        refine sp_X10_has  ?_
        show jj_R _ _ kc ks (jj_S, 782, (jj_rs h [(497, (upd (upd a1 ((((0 : Int32) + (nI k1)) : Int32).toNatClampNeg) ((a1 (((0 : Int32) + (nI k1)) : Int32).toNatClampNeg) + 1)) ((((8 : Int32) + (nI k1)) : Int32).toNatClampNeg) 2))]), g) 76 [(0, .ref 49), (1, .ref 497), (2, .int (nI k1))] [.int (vX10_has ((upd (upd a1 ((((0 : Int32) + (nI k1)) : Int32).toNatClampNeg) ((a1 (((0 : Int32) + (nI k1)) : Int32).toNatClampNeg) + 1)) ((((8 : Int32) + (nI k1)) : Int32).toNatClampNeg) 2) 32) (nI k1)), .int ((0 : Int32) + (nI k1)), .ref 497] Q
        refine rr_if_eq dX10_dayEnds_76 (fun c7 => ?_) (fun c7 => ?_)
        · skip
          refine rr_aload_n 1 rfl rfl dX10_dayEnds_86 ?_
          refine rr_iconst 0 rfl dX10_dayEnds_87 ?_
          refine rr_iload_n 2 rfl rfl dX10_dayEnds_88 ?_
          refine rr_iadd dX10_dayEnds_89 ?_
          refine rr_iaload dX10_dayEnds_90 lo_497 sh_497 (jj_rowin (n := 8) (o := 0) (vp_in_nI (by omega) (by decide)) (by decide) (by decide)) ?_
          rw [show (jj_rs h [(497, (upd (upd a1 ((((0 : Int32) + (nI k1)) : Int32).toNatClampNeg) ((a1 (((0 : Int32) + (nI k1)) : Int32).toNatClampNeg) + 1)) ((((8 : Int32) + (nI k1)) : Int32).toNatClampNeg) 2))]) 497 = (upd (upd a1 ((((0 : Int32) + (nI k1)) : Int32).toNatClampNeg) ((a1 (((0 : Int32) + (nI k1)) : Int32).toNatClampNeg) + 1)) ((((8 : Int32) + (nI k1)) : Int32).toNatClampNeg) 2) from rfl]
          refine rr_iastore dX10_dayEnds_91 lo_497 sh_497 (jj_rowin (n := 8) (o := 0) (vp_in_nI (by omega) (by decide)) (by decide) (by decide)) ?_
          rw [jj_rs_set (B := h) (L := [(497, (upd (upd a1 ((((0 : Int32) + (nI k1)) : Int32).toNatClampNeg) ((a1 (((0 : Int32) + (nI k1)) : Int32).toNatClampNeg) + 1)) ((((8 : Int32) + (nI k1)) : Int32).toNatClampNeg) 2))]) (L2 := [(497, (upd (upd (upd a1 ((((0 : Int32) + (nI k1)) : Int32).toNatClampNeg) ((a1 (((0 : Int32) + (nI k1)) : Int32).toNatClampNeg) + 1)) ((((8 : Int32) + (nI k1)) : Int32).toNatClampNeg) 2) ((((0 : Int32) + (nI k1)) : Int32).toNatClampNeg) ((upd (upd a1 ((((0 : Int32) + (nI k1)) : Int32).toNatClampNeg) ((a1 (((0 : Int32) + (nI k1)) : Int32).toNatClampNeg) + 1)) ((((8 : Int32) + (nI k1)) : Int32).toNatClampNeg) 2) (((0 : Int32) + (nI k1)) : Int32).toNatClampNeg)))]) (r := (upd (upd a1 ((((0 : Int32) + (nI k1)) : Int32).toNatClampNeg) ((a1 (((0 : Int32) + (nI k1)) : Int32).toNatClampNeg) + 1)) ((((8 : Int32) + (nI k1)) : Int32).toNatClampNeg) 2)) rfl rfl]
          refine rr_iinc 2 1 [(0, .ref 49), (1, .ref 497), (2, .int ((nI k1) + 1))] dX10_dayEnds_92 rfl rfl (by decide) rfl ?_
          refine rr_goto dX10_dayEnds_95 ?_
          try simp only [(nI_clamp (show k1 < 2 ^ 31 by omega))] at c1
          try simp only [(nI_clamp (show k1 < 2 ^ 31 by omega))] at c5
          try simp only [(nI_clamp (show k1 < 2 ^ 31 by omega))] at c7
          simpa only [nI_1, (nI_clamp (show k1 < 2 ^ 31 by omega)), fX10_dayEnds_n_1, if_pos c1, if_pos c5, if_pos c7] using ih1
        · skip
          refine rr_aload_n 1 rfl rfl dX10_dayEnds_79 ?_
          refine rr_bipush 33 rfl dX10_dayEnds_80 ?_
          refine rr_iaload dX10_dayEnds_82 lo_497 sh_497 (jj_inL rfl) ?_
          rw [show (jj_rs h [(497, (upd (upd a1 ((((0 : Int32) + (nI k1)) : Int32).toNatClampNeg) ((a1 (((0 : Int32) + (nI k1)) : Int32).toNatClampNeg) + 1)) ((((8 : Int32) + (nI k1)) : Int32).toNatClampNeg) 2))]) 497 = (upd (upd a1 ((((0 : Int32) + (nI k1)) : Int32).toNatClampNeg) ((a1 (((0 : Int32) + (nI k1)) : Int32).toNatClampNeg) + 1)) ((((8 : Int32) + (nI k1)) : Int32).toNatClampNeg) 2) from rfl]
          rw [show (upd (upd a1 ((((0 : Int32) + (nI k1)) : Int32).toNatClampNeg) ((a1 (((0 : Int32) + (nI k1)) : Int32).toNatClampNeg) + 1)) ((((8 : Int32) + (nI k1)) : Int32).toNatClampNeg) 2) (33 : Int32).toNatClampNeg = (upd (upd a1 ((((0 : Int32) + (nI k1)) : Int32).toNatClampNeg) ((a1 (((0 : Int32) + (nI k1)) : Int32).toNatClampNeg) + 1)) ((((8 : Int32) + (nI k1)) : Int32).toNatClampNeg) 2) 33 from rfl]
          refine rr_goto dX10_dayEnds_83 ?_
          refine rr_iastore dX10_dayEnds_91 lo_497 sh_497 (jj_rowin (n := 8) (o := 0) (vp_in_nI (by omega) (by decide)) (by decide) (by decide)) ?_
          rw [jj_rs_set (B := h) (L := [(497, (upd (upd a1 ((((0 : Int32) + (nI k1)) : Int32).toNatClampNeg) ((a1 (((0 : Int32) + (nI k1)) : Int32).toNatClampNeg) + 1)) ((((8 : Int32) + (nI k1)) : Int32).toNatClampNeg) 2))]) (L2 := [(497, (upd (upd (upd a1 ((((0 : Int32) + (nI k1)) : Int32).toNatClampNeg) ((a1 (((0 : Int32) + (nI k1)) : Int32).toNatClampNeg) + 1)) ((((8 : Int32) + (nI k1)) : Int32).toNatClampNeg) 2) ((((0 : Int32) + (nI k1)) : Int32).toNatClampNeg) ((upd (upd a1 ((((0 : Int32) + (nI k1)) : Int32).toNatClampNeg) ((a1 (((0 : Int32) + (nI k1)) : Int32).toNatClampNeg) + 1)) ((((8 : Int32) + (nI k1)) : Int32).toNatClampNeg) 2) 33)))]) (r := (upd (upd a1 ((((0 : Int32) + (nI k1)) : Int32).toNatClampNeg) ((a1 (((0 : Int32) + (nI k1)) : Int32).toNatClampNeg) + 1)) ((((8 : Int32) + (nI k1)) : Int32).toNatClampNeg) 2)) rfl rfl]
          refine rr_iinc 2 1 [(0, .ref 49), (1, .ref 497), (2, .int ((nI k1) + 1))] dX10_dayEnds_92 rfl rfl (by decide) rfl ?_
          refine rr_goto dX10_dayEnds_95 ?_
          try simp only [(nI_clamp (show k1 < 2 ^ 31 by omega))] at c1
          try simp only [(nI_clamp (show k1 < 2 ^ 31 by omega))] at c5
          try simp only [(nI_clamp (show k1 < 2 ^ 31 by omega))] at c7
          simpa only [nI_1, (nI_clamp (show k1 < 2 ^ 31 by omega)), fX10_dayEnds_n_1, if_pos c1, if_pos c5, if_neg c7] using ih1
  · try dsimp only
    refine rr_iload_n 2 rfl rfl dX10_dayEnds_10 ?_
    refine rr_aload_n 0 rfl rfl dX10_dayEnds_11 ?_
    refine rr_getR dX10_dayEnds_12 fX10_23 lo_49 sh_49 rfl ?_
    refine rr_iconst 0 rfl dX10_dayEnds_15 ?_
    refine rr_iaload dX10_dayEnds_16 lo_53 sh_53 (jj_inL rfl) ?_
    rw [show (jj_rs h [(497, (jj_fo fX10_dayEnds_n_1 n (upd (h 497) (33) (((h 497) 33) + 1))))]) 53 = h 53 from rfl]
    rw [show (h 53) (0 : Int32).toNatClampNeg = (nI n) from hT]
    refine rr_icmp_ge dX10_dayEnds_17 (fun _ => ?_) (fun c => absurd (jj_le_rf _) c)
    refine rr_return dX10_dayEnds_98 rfl ?_
    simpa only [rX10_dayEnds_n_497] using kq
def vX10_behind_t (r498 : Nat → Int32) (p : Int32) : Int32 := ((r498 33) - (r498 (((0 : Int32) + p) : Int32).toNatClampNeg))
set_option maxHeartbeats 1000000 in
theorem sp_X10_behind_t {d kc ks : Nat} {h : Nat → Nat → Int32} {g : Nat → Nat → Int64} {Q : jj_Rs → jj_St → Prop} {p : Int32} (hp : vp_in p 8) (kq : Q (.inl (some (.int (vX10_behind_t (h 498) p)))) (jj_S, 782, h, g)) : jj_R mX10_behind (d + 0) kc ks (jj_S, 782, h, g) 0 [(0, .ref 498), (1, .int p)] [] Q := by
  refine rr_aload_n 0 rfl rfl dX10_behind_0 ?_
  refine rr_bipush 33 rfl dX10_behind_1 ?_
  refine rr_iaload dX10_behind_3 lo_498 sh_498 (jj_inL rfl) ?_
  rw [show (h 498) (33 : Int32).toNatClampNeg = (h 498) 33 from rfl]
  refine rr_aload_n 0 rfl rfl dX10_behind_4 ?_
  refine rr_iconst 0 rfl dX10_behind_5 ?_
  refine rr_iload_n 1 rfl rfl dX10_behind_6 ?_
  refine rr_iadd dX10_behind_7 ?_
  refine rr_iaload dX10_behind_8 lo_498 sh_498 (jj_rowin (n := 8) (o := 0) (by first | assumption | exact jj_pM hn (by assumption) | exact jj_pM hn (jj_two (by assumption)).1 | exact jj_pM hn (jj_two (by assumption)).2 | decide | omega) (by decide) (by decide)) ?_
  refine rr_isub dX10_behind_9 ?_
  refine rr_ireturn dX10_behind_10 rfl ?_
  simpa only [vX10_behind_t] using kq
def vX10_isLoose_t (r498 : Nat → Int32) (p : Int32) : Int32 := (if (r498 (((8 : Int32) + p) : Int32).toNatClampNeg) = 0 then (if (vX10_has (r498 32) p) = 0 then 1 else 0) else 0)
set_option maxHeartbeats 1000000 in
theorem sp_X10_isLoose_t {d kc ks : Nat} {h : Nat → Nat → Int32} {g : Nat → Nat → Int64} {Q : jj_Rs → jj_St → Prop} {p : Int32} (hp : vp_in p 8) (kq : Q (.inl (some (.int (vX10_isLoose_t (h 498) p)))) (jj_S, 782, h, g)) : jj_R mX10_isLoose (d + 1) kc ks (jj_S, 782, h, g) 0 [(0, .ref 498), (1, .int p)] [] Q := by
  refine rr_aload_n 0 rfl rfl dX10_isLoose_0 ?_
  refine rr_bipush 8 rfl dX10_isLoose_1 ?_
  refine rr_iload_n 1 rfl rfl dX10_isLoose_3 ?_
  refine rr_iadd dX10_isLoose_4 ?_
  refine rr_iaload dX10_isLoose_5 lo_498 sh_498 (jj_rowin (n := 8) (o := 8) (by first | assumption | exact jj_pM hn (by assumption) | exact jj_pM hn (jj_two (by assumption)).1 | exact jj_pM hn (jj_two (by assumption)).2 | decide | omega) (by decide) (by decide)) ?_
  refine rr_if_ne dX10_isLoose_6 (fun c1 => ?_) (fun c1 => ?_)
  · skip
    refine rr_iconst 0 rfl dX10_isLoose_24 ?_
    refine rr_nreturn dX10_isLoose_25 rfl (by first | rfl | assumption) ?_
    simpa only [vX10_isLoose_t, if_neg c1] using kq
  · skip
    refine rr_aload_n 0 rfl rfl dX10_isLoose_9 ?_
    refine rr_bipush 32 rfl dX10_isLoose_10 ?_
    refine rr_iaload dX10_isLoose_12 lo_498 sh_498 (jj_inL rfl) ?_
    rw [show (h 498) (32 : Int32).toNatClampNeg = (h 498) 32 from rfl]
    refine rr_iload_n 1 rfl rfl dX10_isLoose_13 ?_
    refine rr_callS (As := [.int ((h 498) 32), .int p]) (rest := []) (kc2 := 0) (ks2 := 0) dX10_isLoose_14 okX10_has lX10_254 rfl (Nat.le_of_ble_eq_true rfl) (Nat.le_of_ble_eq_true rfl) rfl (by omega) (by simp [jj_rk]) (by simp [jj_rk]) ?_
    refine sp_X10_has  ?_
    show jj_R _ _ kc ks (jj_S, 782, h, g) 17 [(0, .ref 498), (1, .int p)] [.int (vX10_has ((h 498) 32) p)] Q
    refine rr_if_ne dX10_isLoose_17 (fun c2 => ?_) (fun c2 => ?_)
    · skip
      refine rr_iconst 0 rfl dX10_isLoose_24 ?_
      refine rr_nreturn dX10_isLoose_25 rfl (by first | rfl | assumption) ?_
      simpa only [vX10_isLoose_t, if_pos c1, if_neg c2] using kq
    · skip
      refine rr_iconst 1 rfl dX10_isLoose_20 ?_
      refine rr_goto dX10_isLoose_21 ?_
      refine rr_nreturn dX10_isLoose_25 rfl (by first | rfl | assumption) ?_
      simpa only [vX10_isLoose_t, if_pos c1, if_pos c2] using kq
def vX10_isHand_t (r498 : Nat → Int32) (a : Int32) (b : Int32) : Int32 := (if a = b then 1 else (if (r498 (((8 : Int32) + a) : Int32).toNatClampNeg) ≤ 0 then 0 else 1))
set_option maxHeartbeats 1000000 in
theorem sp_X10_isHand_t {d kc ks : Nat} {h : Nat → Nat → Int32} {g : Nat → Nat → Int64} {Q : jj_Rs → jj_St → Prop} {a : Int32} {b : Int32} (ha : vp_in a 8) (hb : vp_in b 8) (kq : Q (.inl (some (.int (vX10_isHand_t (h 498) a b)))) (jj_S, 782, h, g)) : jj_R mX10_isHand (d + 0) kc ks (jj_S, 782, h, g) 0 [(0, .ref 498), (1, .int a), (2, .int b)] [] Q := by
  refine rr_iload_n 1 rfl rfl dX10_isHand_0 ?_
  refine rr_iload_n 2 rfl rfl dX10_isHand_1 ?_
  refine rr_icmp_eq dX10_isHand_2 (fun c1 => ?_) (fun c1 => ?_)
  · skip
    refine rr_iconst 1 rfl dX10_isHand_14 ?_
    refine rr_goto dX10_isHand_15 ?_
    refine rr_nreturn dX10_isHand_19 rfl (by first | rfl | assumption) ?_
    simpa only [vX10_isHand_t, if_pos c1] using kq
  · skip
    refine rr_aload_n 0 rfl rfl dX10_isHand_5 ?_
    refine rr_bipush 8 rfl dX10_isHand_6 ?_
    refine rr_iload_n 1 rfl rfl dX10_isHand_8 ?_
    refine rr_iadd dX10_isHand_9 ?_
    refine rr_iaload dX10_isHand_10 lo_498 sh_498 (jj_rowin (n := 8) (o := 8) (by first | assumption | exact jj_pM hn (by assumption) | exact jj_pM hn (jj_two (by assumption)).1 | exact jj_pM hn (jj_two (by assumption)).2 | decide | omega) (by decide) (by decide)) ?_
    refine rr_if_le dX10_isHand_11 (fun c2 => ?_) (fun c2 => ?_)
    · skip
      refine rr_iconst 0 rfl dX10_isHand_18 ?_
      refine rr_nreturn dX10_isHand_19 rfl (by first | rfl | assumption) ?_
      simpa only [vX10_isHand_t, if_neg c1, if_pos c2] using kq
    · skip
      refine rr_iconst 1 rfl dX10_isHand_14 ?_
      refine rr_goto dX10_isHand_15 ?_
      refine rr_nreturn dX10_isHand_19 rfl (by first | rfl | assumption) ?_
      simpa only [vX10_isHand_t, if_neg c1, if_neg c2] using kq
def fX10_tiedSo_t_1 (r498 : Nat → Int32) (w : Int32) (k1 : Nat) (a1 : Int32) : Int32 := (if (r498 (((8 : Int32) + (nI k1)) : Int32).toNatClampNeg) < w then (a1 ||| 0) else (a1 ||| (1 <<< ((nI k1) &&& 31))))
def vX10_tiedSo_t (r498 : Nat → Int32) (n : Nat) (w : Int32) : Int32 := (jj_fo (fX10_tiedSo_t_1 r498 w) n 0)
set_option maxHeartbeats 1000000 in
theorem sp_X10_tiedSo_t {d kc ks : Nat} {h : Nat → Nat → Int32} {g : Nat → Nat → Int64} {Q : jj_Rs → jj_St → Prop} {n : Nat} {w : Int32} (hT : h 53 0 = nI n) (hn : n ≤ 8) (kq : Q (.inl (some (.int (vX10_tiedSo_t (h 498) n w)))) (jj_S, 782, h, g)) : jj_R mX10_tiedSo (d + 0) kc ks (jj_S, 782, h, g) 0 [(0, .ref 49), (1, .ref 498), (2, .int w)] [] Q := by
  refine rr_iconst 0 rfl dX10_tiedSo_0 ?_
  refine rr_istore_n [(0, .ref 49), (1, .ref 498), (2, .int w), (3, .int 0)] dX10_tiedSo_1 rfl (by decide) rfl ?_
  refine rr_iconst 0 rfl dX10_tiedSo_2 ?_
  refine rr_istore [(0, .ref 49), (1, .ref 498), (2, .int w), (3, .int 0), (4, .int 0)] dX10_tiedSo_3 (by decide) rfl ?_
  refine jj_for (fun k1 (a1 : Int32) => jj_R _ _ kc ks (jj_S, 782, h, g) 5 [(0, .ref 49), (1, .ref 498), (2, .int w), (3, .int a1), (4, .int (nI k1))] [] Q) (fX10_tiedSo_t_1 (h 498) w) n 0 ?_ ?_
  · intro k1 hk1 ih1
    generalize jj_fo _ k1 _ = a1 at ih1 ⊢
    try dsimp only at ih1 ⊢
    refine rr_iload 4 rfl dX10_tiedSo_5 ?_
    refine rr_aload_n 0 rfl rfl dX10_tiedSo_7 ?_
    refine rr_getR dX10_tiedSo_8 fX10_23 lo_49 sh_49 rfl ?_
    refine rr_iconst 0 rfl dX10_tiedSo_11 ?_
    refine rr_iaload dX10_tiedSo_12 lo_53 sh_53 (jj_inL rfl) ?_
    rw [show (h 53) (0 : Int32).toNatClampNeg = (nI n) from hT]
    refine rr_icmp_ge dX10_tiedSo_13 (fun c => absurd c (nI_ge (a := k1) (b := n) (by omega) (by omega))) (fun _ => ?_)
    refine rr_iload_n 3 rfl rfl dX10_tiedSo_16 ?_
    refine rr_aload_n 1 rfl rfl dX10_tiedSo_17 ?_
    refine rr_bipush 8 rfl dX10_tiedSo_18 ?_
    refine rr_iload 4 rfl dX10_tiedSo_20 ?_
    refine rr_iadd dX10_tiedSo_22 ?_
    refine rr_iaload dX10_tiedSo_23 lo_498 sh_498 (jj_rowin (n := 8) (o := 8) (vp_in_nI (by omega) (by decide)) (by decide) (by decide)) ?_
    refine rr_iload_n 2 rfl rfl dX10_tiedSo_24 ?_
    refine rr_icmp_lt dX10_tiedSo_25 (fun c1 => ?_) (fun c1 => ?_)
    · skip
      refine rr_iconst 0 rfl dX10_tiedSo_35 ?_
      refine rr_ior dX10_tiedSo_36 ?_
      refine rr_istore_n [(0, .ref 49), (1, .ref 498), (2, .int w), (3, .int (a1 ||| 0)), (4, .int (nI k1))] dX10_tiedSo_37 rfl (by decide) rfl ?_
      refine rr_iinc 4 1 [(0, .ref 49), (1, .ref 498), (2, .int w), (3, .int (a1 ||| 0)), (4, .int ((nI k1) + 1))] dX10_tiedSo_38 rfl rfl (by decide) rfl ?_
      refine rr_goto dX10_tiedSo_41 ?_
      try simp only [(nI_clamp (show k1 < 2 ^ 31 by omega))] at c1
      simpa only [nI_1, (nI_clamp (show k1 < 2 ^ 31 by omega)), fX10_tiedSo_t_1, if_pos c1] using ih1
    · skip
      refine rr_iconst 1 rfl dX10_tiedSo_28 ?_
      refine rr_iload 4 rfl dX10_tiedSo_29 ?_
      refine rr_ishl dX10_tiedSo_31 ?_
      refine rr_goto dX10_tiedSo_32 ?_
      refine rr_ior dX10_tiedSo_36 ?_
      refine rr_istore_n [(0, .ref 49), (1, .ref 498), (2, .int w), (3, .int (a1 ||| (1 <<< ((nI k1) &&& 31)))), (4, .int (nI k1))] dX10_tiedSo_37 rfl (by decide) rfl ?_
      refine rr_iinc 4 1 [(0, .ref 49), (1, .ref 498), (2, .int w), (3, .int (a1 ||| (1 <<< ((nI k1) &&& 31)))), (4, .int ((nI k1) + 1))] dX10_tiedSo_38 rfl rfl (by decide) rfl ?_
      refine rr_goto dX10_tiedSo_41 ?_
      try simp only [(nI_clamp (show k1 < 2 ^ 31 by omega))] at c1
      simpa only [nI_1, (nI_clamp (show k1 < 2 ^ 31 by omega)), fX10_tiedSo_t_1, if_neg c1] using ih1
  · try dsimp only
    refine rr_iload 4 rfl dX10_tiedSo_5 ?_
    refine rr_aload_n 0 rfl rfl dX10_tiedSo_7 ?_
    refine rr_getR dX10_tiedSo_8 fX10_23 lo_49 sh_49 rfl ?_
    refine rr_iconst 0 rfl dX10_tiedSo_11 ?_
    refine rr_iaload dX10_tiedSo_12 lo_53 sh_53 (jj_inL rfl) ?_
    rw [show (h 53) (0 : Int32).toNatClampNeg = (nI n) from hT]
    refine rr_icmp_ge dX10_tiedSo_13 (fun _ => ?_) (fun c => absurd (jj_le_rf _) c)
    refine rr_iload_n 3 rfl rfl dX10_tiedSo_44 ?_
    refine rr_ireturn dX10_tiedSo_45 rfl ?_
    simpa only [vX10_tiedSo_t] using kq
def fX10_late_t_1 (r498 : Nat → Int32) (k1 : Nat) (a1 : Int32) : Int32 := (if (vX10_behind_t r498 (nI k1)) ≤ 0 then (a1 ||| 0) else (a1 ||| (1 <<< ((nI k1) &&& 31))))
def vX10_late_t (r498 : Nat → Int32) (n : Nat) : Int32 := (jj_fo (fX10_late_t_1 r498) n 0)
set_option maxHeartbeats 1000000 in
theorem sp_X10_late_t {d kc ks : Nat} {h : Nat → Nat → Int32} {g : Nat → Nat → Int64} {Q : jj_Rs → jj_St → Prop} {n : Nat} (hT : h 53 0 = nI n) (hn : n ≤ 8) (kq : Q (.inl (some (.int (vX10_late_t (h 498) n)))) (jj_S, 782, h, g)) : jj_R mX10_late (d + 1) kc ks (jj_S, 782, h, g) 0 [(0, .ref 49), (1, .ref 498)] [] Q := by
  refine rr_iconst 0 rfl dX10_late_0 ?_
  refine rr_istore_n [(0, .ref 49), (1, .ref 498), (2, .int 0)] dX10_late_1 rfl (by decide) rfl ?_
  refine rr_iconst 0 rfl dX10_late_2 ?_
  refine rr_istore_n [(0, .ref 49), (1, .ref 498), (2, .int 0), (3, .int 0)] dX10_late_3 rfl (by decide) rfl ?_
  refine jj_for (fun k1 (a1 : Int32) => jj_R _ _ kc ks (jj_S, 782, h, g) 4 [(0, .ref 49), (1, .ref 498), (2, .int a1), (3, .int (nI k1))] [] Q) (fX10_late_t_1 (h 498)) n 0 ?_ ?_
  · intro k1 hk1 ih1
    generalize jj_fo _ k1 _ = a1 at ih1 ⊢
    try dsimp only at ih1 ⊢
    refine rr_iload_n 3 rfl rfl dX10_late_4 ?_
    refine rr_aload_n 0 rfl rfl dX10_late_5 ?_
    refine rr_getR dX10_late_6 fX10_23 lo_49 sh_49 rfl ?_
    refine rr_iconst 0 rfl dX10_late_9 ?_
    refine rr_iaload dX10_late_10 lo_53 sh_53 (jj_inL rfl) ?_
    rw [show (h 53) (0 : Int32).toNatClampNeg = (nI n) from hT]
    refine rr_icmp_ge dX10_late_11 (fun c => absurd c (nI_ge (a := k1) (b := n) (by omega) (by omega))) (fun _ => ?_)
    refine rr_iload_n 2 rfl rfl dX10_late_14 ?_
    refine rr_aload_n 1 rfl rfl dX10_late_15 ?_
    refine rr_iload_n 3 rfl rfl dX10_late_16 ?_
    refine rr_callS (As := [.ref 498, .int (nI k1)]) (rest := [.int a1]) (kc2 := 0) (ks2 := 0) dX10_late_17 okX10_behind lX10_260 rfl (Nat.le_of_ble_eq_true rfl) (Nat.le_of_ble_eq_true rfl) rfl (by omega) (by simp [jj_rk]) (by simp [jj_rk]) ?_
    refine sp_X10_behind_t (vp_in_nI (by omega) (by decide)) ?_
    show jj_R _ _ kc ks (jj_S, 782, h, g) 20 [(0, .ref 49), (1, .ref 498), (2, .int a1), (3, .int (nI k1))] [.int (vX10_behind_t (h 498) (nI k1)), .int a1] Q
    refine rr_if_le dX10_late_20 (fun c1 => ?_) (fun c1 => ?_)
    · skip
      refine rr_iconst 0 rfl dX10_late_29 ?_
      refine rr_ior dX10_late_30 ?_
      refine rr_istore_n [(0, .ref 49), (1, .ref 498), (2, .int (a1 ||| 0)), (3, .int (nI k1))] dX10_late_31 rfl (by decide) rfl ?_
      refine rr_iinc 3 1 [(0, .ref 49), (1, .ref 498), (2, .int (a1 ||| 0)), (3, .int ((nI k1) + 1))] dX10_late_32 rfl rfl (by decide) rfl ?_
      refine rr_goto dX10_late_35 ?_
      try simp only [(nI_clamp (show k1 < 2 ^ 31 by omega))] at c1
      simpa only [nI_1, (nI_clamp (show k1 < 2 ^ 31 by omega)), fX10_late_t_1, if_pos c1] using ih1
    · skip
      refine rr_iconst 1 rfl dX10_late_23 ?_
      refine rr_iload_n 3 rfl rfl dX10_late_24 ?_
      refine rr_ishl dX10_late_25 ?_
      refine rr_goto dX10_late_26 ?_
      refine rr_ior dX10_late_30 ?_
      refine rr_istore_n [(0, .ref 49), (1, .ref 498), (2, .int (a1 ||| (1 <<< ((nI k1) &&& 31)))), (3, .int (nI k1))] dX10_late_31 rfl (by decide) rfl ?_
      refine rr_iinc 3 1 [(0, .ref 49), (1, .ref 498), (2, .int (a1 ||| (1 <<< ((nI k1) &&& 31)))), (3, .int ((nI k1) + 1))] dX10_late_32 rfl rfl (by decide) rfl ?_
      refine rr_goto dX10_late_35 ?_
      try simp only [(nI_clamp (show k1 < 2 ^ 31 by omega))] at c1
      simpa only [nI_1, (nI_clamp (show k1 < 2 ^ 31 by omega)), fX10_late_t_1, if_neg c1] using ih1
  · try dsimp only
    refine rr_iload_n 3 rfl rfl dX10_late_4 ?_
    refine rr_aload_n 0 rfl rfl dX10_late_5 ?_
    refine rr_getR dX10_late_6 fX10_23 lo_49 sh_49 rfl ?_
    refine rr_iconst 0 rfl dX10_late_9 ?_
    refine rr_iaload dX10_late_10 lo_53 sh_53 (jj_inL rfl) ?_
    rw [show (h 53) (0 : Int32).toNatClampNeg = (nI n) from hT]
    refine rr_icmp_ge dX10_late_11 (fun _ => ?_) (fun c => absurd (jj_le_rf _) c)
    refine rr_iload_n 2 rfl rfl dX10_late_38 ?_
    refine rr_ireturn dX10_late_39 rfl ?_
    simpa only [vX10_late_t] using kq
def fX10_lateness_t_1 (r498 : Nat → Int32) (k1 : Nat) (a1 : Int32) : Int32 := (a1 + (vX10_behind_t r498 (nI k1)))
def vX10_lateness_t (r498 : Nat → Int32) (n : Nat) : Int32 := (jj_fo (fX10_lateness_t_1 r498) n 0)
set_option maxHeartbeats 1000000 in
theorem sp_X10_lateness_t {d kc ks : Nat} {h : Nat → Nat → Int32} {g : Nat → Nat → Int64} {Q : jj_Rs → jj_St → Prop} {n : Nat} (hT : h 53 0 = nI n) (hn : n ≤ 8) (kq : Q (.inl (some (.int (vX10_lateness_t (h 498) n)))) (jj_S, 782, h, g)) : jj_R mX10_lateness (d + 1) kc ks (jj_S, 782, h, g) 0 [(0, .ref 49), (1, .ref 498)] [] Q := by
  refine rr_iconst 0 rfl dX10_lateness_0 ?_
  refine rr_istore_n [(0, .ref 49), (1, .ref 498), (2, .int 0)] dX10_lateness_1 rfl (by decide) rfl ?_
  refine rr_iconst 0 rfl dX10_lateness_2 ?_
  refine rr_istore_n [(0, .ref 49), (1, .ref 498), (2, .int 0), (3, .int 0)] dX10_lateness_3 rfl (by decide) rfl ?_
  refine jj_for (fun k1 (a1 : Int32) => jj_R _ _ kc ks (jj_S, 782, h, g) 4 [(0, .ref 49), (1, .ref 498), (2, .int a1), (3, .int (nI k1))] [] Q) (fX10_lateness_t_1 (h 498)) n 0 ?_ ?_
  · intro k1 hk1 ih1
    generalize jj_fo _ k1 _ = a1 at ih1 ⊢
    try dsimp only at ih1 ⊢
    refine rr_iload_n 3 rfl rfl dX10_lateness_4 ?_
    refine rr_aload_n 0 rfl rfl dX10_lateness_5 ?_
    refine rr_getR dX10_lateness_6 fX10_23 lo_49 sh_49 rfl ?_
    refine rr_iconst 0 rfl dX10_lateness_9 ?_
    refine rr_iaload dX10_lateness_10 lo_53 sh_53 (jj_inL rfl) ?_
    rw [show (h 53) (0 : Int32).toNatClampNeg = (nI n) from hT]
    refine rr_icmp_ge dX10_lateness_11 (fun c => absurd c (nI_ge (a := k1) (b := n) (by omega) (by omega))) (fun _ => ?_)
    refine rr_iload_n 2 rfl rfl dX10_lateness_14 ?_
    refine rr_aload_n 1 rfl rfl dX10_lateness_15 ?_
    refine rr_iload_n 3 rfl rfl dX10_lateness_16 ?_
    refine rr_callS (As := [.ref 498, .int (nI k1)]) (rest := [.int a1]) (kc2 := 0) (ks2 := 0) dX10_lateness_17 okX10_behind lX10_260 rfl (Nat.le_of_ble_eq_true rfl) (Nat.le_of_ble_eq_true rfl) rfl (by omega) (by simp [jj_rk]) (by simp [jj_rk]) ?_
    refine sp_X10_behind_t (vp_in_nI (by omega) (by decide)) ?_
    show jj_R _ _ kc ks (jj_S, 782, h, g) 20 [(0, .ref 49), (1, .ref 498), (2, .int a1), (3, .int (nI k1))] [.int (vX10_behind_t (h 498) (nI k1)), .int a1] Q
    refine rr_iadd dX10_lateness_20 ?_
    refine rr_istore_n [(0, .ref 49), (1, .ref 498), (2, .int (a1 + (vX10_behind_t (h 498) (nI k1)))), (3, .int (nI k1))] dX10_lateness_21 rfl (by decide) rfl ?_
    refine rr_iinc 3 1 [(0, .ref 49), (1, .ref 498), (2, .int (a1 + (vX10_behind_t (h 498) (nI k1)))), (3, .int ((nI k1) + 1))] dX10_lateness_22 rfl rfl (by decide) rfl ?_
    refine rr_goto dX10_lateness_25 ?_
    simpa only [nI_1, (nI_clamp (show k1 < 2 ^ 31 by omega)), fX10_lateness_t_1] using ih1
  · try dsimp only
    refine rr_iload_n 3 rfl rfl dX10_lateness_4 ?_
    refine rr_aload_n 0 rfl rfl dX10_lateness_5 ?_
    refine rr_getR dX10_lateness_6 fX10_23 lo_49 sh_49 rfl ?_
    refine rr_iconst 0 rfl dX10_lateness_9 ?_
    refine rr_iaload dX10_lateness_10 lo_53 sh_53 (jj_inL rfl) ?_
    rw [show (h 53) (0 : Int32).toNatClampNeg = (nI n) from hT]
    refine rr_icmp_ge dX10_lateness_11 (fun _ => ?_) (fun c => absurd (jj_le_rf _) c)
    refine rr_iload_n 2 rfl rfl dX10_lateness_28 ?_
    refine rr_ireturn dX10_lateness_29 rfl ?_
    simpa only [vX10_lateness_t] using kq
def fX10_slipsOf_t_1 (r498 : Nat → Int32) (k1 : Nat) (a1 : Int32) : Int32 := (a1 + (r498 (((16 : Int32) + (nI k1)) : Int32).toNatClampNeg))
def vX10_slipsOf_t (r498 : Nat → Int32) (n : Nat) : Int32 := (jj_fo (fX10_slipsOf_t_1 r498) n 0)
set_option maxHeartbeats 1000000 in
theorem sp_X10_slipsOf_t {d kc ks : Nat} {h : Nat → Nat → Int32} {g : Nat → Nat → Int64} {Q : jj_Rs → jj_St → Prop} {n : Nat} (hT : h 53 0 = nI n) (hn : n ≤ 8) (kq : Q (.inl (some (.int (vX10_slipsOf_t (h 498) n)))) (jj_S, 782, h, g)) : jj_R mX10_slipsOf (d + 0) kc ks (jj_S, 782, h, g) 0 [(0, .ref 49), (1, .ref 498)] [] Q := by
  refine rr_iconst 0 rfl dX10_slipsOf_0 ?_
  refine rr_istore_n [(0, .ref 49), (1, .ref 498), (2, .int 0)] dX10_slipsOf_1 rfl (by decide) rfl ?_
  refine rr_iconst 0 rfl dX10_slipsOf_2 ?_
  refine rr_istore_n [(0, .ref 49), (1, .ref 498), (2, .int 0), (3, .int 0)] dX10_slipsOf_3 rfl (by decide) rfl ?_
  refine jj_for (fun k1 (a1 : Int32) => jj_R _ _ kc ks (jj_S, 782, h, g) 4 [(0, .ref 49), (1, .ref 498), (2, .int a1), (3, .int (nI k1))] [] Q) (fX10_slipsOf_t_1 (h 498)) n 0 ?_ ?_
  · intro k1 hk1 ih1
    generalize jj_fo _ k1 _ = a1 at ih1 ⊢
    try dsimp only at ih1 ⊢
    refine rr_iload_n 3 rfl rfl dX10_slipsOf_4 ?_
    refine rr_aload_n 0 rfl rfl dX10_slipsOf_5 ?_
    refine rr_getR dX10_slipsOf_6 fX10_23 lo_49 sh_49 rfl ?_
    refine rr_iconst 0 rfl dX10_slipsOf_9 ?_
    refine rr_iaload dX10_slipsOf_10 lo_53 sh_53 (jj_inL rfl) ?_
    rw [show (h 53) (0 : Int32).toNatClampNeg = (nI n) from hT]
    refine rr_icmp_ge dX10_slipsOf_11 (fun c => absurd c (nI_ge (a := k1) (b := n) (by omega) (by omega))) (fun _ => ?_)
    refine rr_iload_n 2 rfl rfl dX10_slipsOf_14 ?_
    refine rr_aload_n 1 rfl rfl dX10_slipsOf_15 ?_
    refine rr_bipush 16 rfl dX10_slipsOf_16 ?_
    refine rr_iload_n 3 rfl rfl dX10_slipsOf_18 ?_
    refine rr_iadd dX10_slipsOf_19 ?_
    refine rr_iaload dX10_slipsOf_20 lo_498 sh_498 (jj_rowin (n := 8) (o := 16) (vp_in_nI (by omega) (by decide)) (by decide) (by decide)) ?_
    refine rr_iadd dX10_slipsOf_21 ?_
    refine rr_istore_n [(0, .ref 49), (1, .ref 498), (2, .int (a1 + ((h 498) (((16 : Int32) + (nI k1)) : Int32).toNatClampNeg))), (3, .int (nI k1))] dX10_slipsOf_22 rfl (by decide) rfl ?_
    refine rr_iinc 3 1 [(0, .ref 49), (1, .ref 498), (2, .int (a1 + ((h 498) (((16 : Int32) + (nI k1)) : Int32).toNatClampNeg))), (3, .int ((nI k1) + 1))] dX10_slipsOf_23 rfl rfl (by decide) rfl ?_
    refine rr_goto dX10_slipsOf_26 ?_
    simpa only [nI_1, (nI_clamp (show k1 < 2 ^ 31 by omega)), fX10_slipsOf_t_1] using ih1
  · try dsimp only
    refine rr_iload_n 3 rfl rfl dX10_slipsOf_4 ?_
    refine rr_aload_n 0 rfl rfl dX10_slipsOf_5 ?_
    refine rr_getR dX10_slipsOf_6 fX10_23 lo_49 sh_49 rfl ?_
    refine rr_iconst 0 rfl dX10_slipsOf_9 ?_
    refine rr_iaload dX10_slipsOf_10 lo_53 sh_53 (jj_inL rfl) ?_
    rw [show (h 53) (0 : Int32).toNatClampNeg = (nI n) from hT]
    refine rr_icmp_ge dX10_slipsOf_11 (fun _ => ?_) (fun c => absurd (jj_le_rf _) c)
    refine rr_iload_n 2 rfl rfl dX10_slipsOf_29 ?_
    refine rr_ireturn dX10_slipsOf_30 rfl ?_
    simpa only [vX10_slipsOf_t] using kq
def fX10_dayEnds_t_1  (k1 : Nat) (a1 : (Nat → Int32)) : (Nat → Int32) := (if (a1 (((8 : Int32) + (nI k1)) : Int32).toNatClampNeg) = 2 then (if ((upd a1 ((((0 : Int32) + (nI k1)) : Int32).toNatClampNeg) ((a1 (((0 : Int32) + (nI k1)) : Int32).toNatClampNeg) + 1)) (((8 : Int32) + (nI k1)) : Int32).toNatClampNeg) = 2 then (if (vX10_has ((upd (upd a1 ((((0 : Int32) + (nI k1)) : Int32).toNatClampNeg) ((a1 (((0 : Int32) + (nI k1)) : Int32).toNatClampNeg) + 1)) ((((8 : Int32) + (nI k1)) : Int32).toNatClampNeg) 2) 32) (nI k1)) = 0 then (upd (upd (upd a1 ((((0 : Int32) + (nI k1)) : Int32).toNatClampNeg) ((a1 (((0 : Int32) + (nI k1)) : Int32).toNatClampNeg) + 1)) ((((8 : Int32) + (nI k1)) : Int32).toNatClampNeg) 2) ((((0 : Int32) + (nI k1)) : Int32).toNatClampNeg) ((upd (upd a1 ((((0 : Int32) + (nI k1)) : Int32).toNatClampNeg) ((a1 (((0 : Int32) + (nI k1)) : Int32).toNatClampNeg) + 1)) ((((8 : Int32) + (nI k1)) : Int32).toNatClampNeg) 2) (((0 : Int32) + (nI k1)) : Int32).toNatClampNeg)) else (upd (upd (upd a1 ((((0 : Int32) + (nI k1)) : Int32).toNatClampNeg) ((a1 (((0 : Int32) + (nI k1)) : Int32).toNatClampNeg) + 1)) ((((8 : Int32) + (nI k1)) : Int32).toNatClampNeg) 2) ((((0 : Int32) + (nI k1)) : Int32).toNatClampNeg) ((upd (upd a1 ((((0 : Int32) + (nI k1)) : Int32).toNatClampNeg) ((a1 (((0 : Int32) + (nI k1)) : Int32).toNatClampNeg) + 1)) ((((8 : Int32) + (nI k1)) : Int32).toNatClampNeg) 2) 33))) else (if (vX10_has ((upd (upd a1 ((((0 : Int32) + (nI k1)) : Int32).toNatClampNeg) ((a1 (((0 : Int32) + (nI k1)) : Int32).toNatClampNeg) + 1)) ((((8 : Int32) + (nI k1)) : Int32).toNatClampNeg) 0) 32) (nI k1)) = 0 then (upd (upd (upd a1 ((((0 : Int32) + (nI k1)) : Int32).toNatClampNeg) ((a1 (((0 : Int32) + (nI k1)) : Int32).toNatClampNeg) + 1)) ((((8 : Int32) + (nI k1)) : Int32).toNatClampNeg) 0) ((((0 : Int32) + (nI k1)) : Int32).toNatClampNeg) ((upd (upd a1 ((((0 : Int32) + (nI k1)) : Int32).toNatClampNeg) ((a1 (((0 : Int32) + (nI k1)) : Int32).toNatClampNeg) + 1)) ((((8 : Int32) + (nI k1)) : Int32).toNatClampNeg) 0) (((0 : Int32) + (nI k1)) : Int32).toNatClampNeg)) else (upd (upd (upd a1 ((((0 : Int32) + (nI k1)) : Int32).toNatClampNeg) ((a1 (((0 : Int32) + (nI k1)) : Int32).toNatClampNeg) + 1)) ((((8 : Int32) + (nI k1)) : Int32).toNatClampNeg) 0) ((((0 : Int32) + (nI k1)) : Int32).toNatClampNeg) ((upd (upd a1 ((((0 : Int32) + (nI k1)) : Int32).toNatClampNeg) ((a1 (((0 : Int32) + (nI k1)) : Int32).toNatClampNeg) + 1)) ((((8 : Int32) + (nI k1)) : Int32).toNatClampNeg) 0) 33)))) else (if ((upd a1 ((((0 : Int32) + (nI k1)) : Int32).toNatClampNeg) ((a1 (((0 : Int32) + (nI k1)) : Int32).toNatClampNeg) + 0)) (((8 : Int32) + (nI k1)) : Int32).toNatClampNeg) = 2 then (if (vX10_has ((upd (upd a1 ((((0 : Int32) + (nI k1)) : Int32).toNatClampNeg) ((a1 (((0 : Int32) + (nI k1)) : Int32).toNatClampNeg) + 0)) ((((8 : Int32) + (nI k1)) : Int32).toNatClampNeg) 2) 32) (nI k1)) = 0 then (upd (upd (upd a1 ((((0 : Int32) + (nI k1)) : Int32).toNatClampNeg) ((a1 (((0 : Int32) + (nI k1)) : Int32).toNatClampNeg) + 0)) ((((8 : Int32) + (nI k1)) : Int32).toNatClampNeg) 2) ((((0 : Int32) + (nI k1)) : Int32).toNatClampNeg) ((upd (upd a1 ((((0 : Int32) + (nI k1)) : Int32).toNatClampNeg) ((a1 (((0 : Int32) + (nI k1)) : Int32).toNatClampNeg) + 0)) ((((8 : Int32) + (nI k1)) : Int32).toNatClampNeg) 2) (((0 : Int32) + (nI k1)) : Int32).toNatClampNeg)) else (upd (upd (upd a1 ((((0 : Int32) + (nI k1)) : Int32).toNatClampNeg) ((a1 (((0 : Int32) + (nI k1)) : Int32).toNatClampNeg) + 0)) ((((8 : Int32) + (nI k1)) : Int32).toNatClampNeg) 2) ((((0 : Int32) + (nI k1)) : Int32).toNatClampNeg) ((upd (upd a1 ((((0 : Int32) + (nI k1)) : Int32).toNatClampNeg) ((a1 (((0 : Int32) + (nI k1)) : Int32).toNatClampNeg) + 0)) ((((8 : Int32) + (nI k1)) : Int32).toNatClampNeg) 2) 33))) else (if (vX10_has ((upd (upd a1 ((((0 : Int32) + (nI k1)) : Int32).toNatClampNeg) ((a1 (((0 : Int32) + (nI k1)) : Int32).toNatClampNeg) + 0)) ((((8 : Int32) + (nI k1)) : Int32).toNatClampNeg) 0) 32) (nI k1)) = 0 then (upd (upd (upd a1 ((((0 : Int32) + (nI k1)) : Int32).toNatClampNeg) ((a1 (((0 : Int32) + (nI k1)) : Int32).toNatClampNeg) + 0)) ((((8 : Int32) + (nI k1)) : Int32).toNatClampNeg) 0) ((((0 : Int32) + (nI k1)) : Int32).toNatClampNeg) ((upd (upd a1 ((((0 : Int32) + (nI k1)) : Int32).toNatClampNeg) ((a1 (((0 : Int32) + (nI k1)) : Int32).toNatClampNeg) + 0)) ((((8 : Int32) + (nI k1)) : Int32).toNatClampNeg) 0) (((0 : Int32) + (nI k1)) : Int32).toNatClampNeg)) else (upd (upd (upd a1 ((((0 : Int32) + (nI k1)) : Int32).toNatClampNeg) ((a1 (((0 : Int32) + (nI k1)) : Int32).toNatClampNeg) + 0)) ((((8 : Int32) + (nI k1)) : Int32).toNatClampNeg) 0) ((((0 : Int32) + (nI k1)) : Int32).toNatClampNeg) ((upd (upd a1 ((((0 : Int32) + (nI k1)) : Int32).toNatClampNeg) ((a1 (((0 : Int32) + (nI k1)) : Int32).toNatClampNeg) + 0)) ((((8 : Int32) + (nI k1)) : Int32).toNatClampNeg) 0) 33)))))
def rX10_dayEnds_t_498 (r498 : Nat → Int32) (n : Nat) : Nat → Int32 := (jj_fo fX10_dayEnds_t_1 n (upd r498 (33) ((r498 33) + 1)))
set_option maxHeartbeats 1000000 in
theorem sp_X10_dayEnds_t {d kc ks : Nat} {h : Nat → Nat → Int32} {g : Nat → Nat → Int64} {Q : jj_Rs → jj_St → Prop} {n : Nat} (hT : h 53 0 = nI n) (hn : n ≤ 8) (kq : Q (.inl none) (jj_S, 782, (jj_rs h [(498, (rX10_dayEnds_t_498 (h 498) n))]), g)) : jj_R mX10_dayEnds (d + 1) kc ks (jj_S, 782, h, g) 0 [(0, .ref 49), (1, .ref 498)] [] Q := by
  refine rr_aload_n 1 rfl rfl dX10_dayEnds_0 ?_
  refine rr_bipush 33 rfl dX10_dayEnds_1 ?_
  refine rr_dup2 rfl rfl dX10_dayEnds_3 ?_
  refine rr_iaload dX10_dayEnds_4 lo_498 sh_498 (jj_inL rfl) ?_
  rw [show (h 498) (33 : Int32).toNatClampNeg = (h 498) 33 from rfl]
  refine rr_iconst 1 rfl dX10_dayEnds_5 ?_
  refine rr_iadd dX10_dayEnds_6 ?_
  refine rr_iastore dX10_dayEnds_7 lo_498 sh_498 (jj_inL rfl) ?_
  rw [show (33 : Int32).toNatClampNeg = 33 from rfl]
  rw [jj_rs_set0 (B := h) (o := 498) (r := (h 498)) rfl]
  refine rr_iconst 0 rfl dX10_dayEnds_8 ?_
  refine rr_istore_n [(0, .ref 49), (1, .ref 498), (2, .int 0)] dX10_dayEnds_9 rfl (by decide) rfl ?_
  refine jj_for (fun k1 (a1 : (Nat → Int32)) => jj_R _ _ kc ks (jj_S, 782, (jj_rs h [(498, a1)]), g) 10 [(0, .ref 49), (1, .ref 498), (2, .int (nI k1))] [] Q) fX10_dayEnds_t_1 n (upd (h 498) (33) (((h 498) 33) + 1)) ?_ ?_
  · intro k1 hk1 ih1
    generalize jj_fo _ k1 _ = a1 at ih1 ⊢
    try dsimp only at ih1 ⊢
    refine rr_iload_n 2 rfl rfl dX10_dayEnds_10 ?_
    refine rr_aload_n 0 rfl rfl dX10_dayEnds_11 ?_
    refine rr_getR dX10_dayEnds_12 fX10_23 lo_49 sh_49 rfl ?_
    refine rr_iconst 0 rfl dX10_dayEnds_15 ?_
    refine rr_iaload dX10_dayEnds_16 lo_53 sh_53 (jj_inL rfl) ?_
    rw [show (jj_rs h [(498, a1)]) 53 = h 53 from rfl]
    rw [show (h 53) (0 : Int32).toNatClampNeg = (nI n) from hT]
    refine rr_icmp_ge dX10_dayEnds_17 (fun c => absurd c (nI_ge (a := k1) (b := n) (by omega) (by omega))) (fun _ => ?_)
    refine rr_aload_n 1 rfl rfl dX10_dayEnds_20 ?_
    refine rr_iconst 0 rfl dX10_dayEnds_21 ?_
    refine rr_iload_n 2 rfl rfl dX10_dayEnds_22 ?_
    refine rr_iadd dX10_dayEnds_23 ?_
    refine rr_dup2 rfl rfl dX10_dayEnds_24 ?_
    refine rr_iaload dX10_dayEnds_25 lo_498 sh_498 (jj_rowin (n := 8) (o := 0) (vp_in_nI (by omega) (by decide)) (by decide) (by decide)) ?_
    rw [show (jj_rs h [(498, a1)]) 498 = a1 from rfl]
    refine rr_aload_n 1 rfl rfl dX10_dayEnds_26 ?_
    refine rr_bipush 8 rfl dX10_dayEnds_27 ?_
    refine rr_iload_n 2 rfl rfl dX10_dayEnds_29 ?_
    refine rr_iadd dX10_dayEnds_30 ?_
    refine rr_iaload dX10_dayEnds_31 lo_498 sh_498 (jj_rowin (n := 8) (o := 8) (vp_in_nI (by omega) (by decide)) (by decide) (by decide)) ?_
    rw [show (jj_rs h [(498, a1)]) 498 = a1 from rfl]
    refine rr_iconst 2 rfl dX10_dayEnds_32 ?_
    refine rr_icmp_ne dX10_dayEnds_33 (fun c1 => ?_) (fun c1 => ?_)
    · skip
      refine rr_iconst 0 rfl dX10_dayEnds_40 ?_
      refine rr_iadd dX10_dayEnds_41 ?_
      refine rr_iastore dX10_dayEnds_42 lo_498 sh_498 (jj_rowin (n := 8) (o := 0) (vp_in_nI (by omega) (by decide)) (by decide) (by decide)) ?_
      rw [jj_rs_set (B := h) (L := [(498, a1)]) (L2 := [(498, (upd a1 ((((0 : Int32) + (nI k1)) : Int32).toNatClampNeg) ((a1 (((0 : Int32) + (nI k1)) : Int32).toNatClampNeg) + 0)))]) (r := a1) rfl rfl]
      refine rr_aload_n 1 rfl rfl dX10_dayEnds_43 ?_
      refine rr_bipush 8 rfl dX10_dayEnds_44 ?_
      refine rr_iload_n 2 rfl rfl dX10_dayEnds_46 ?_
      refine rr_iadd dX10_dayEnds_47 ?_
      refine rr_aload_n 1 rfl rfl dX10_dayEnds_48 ?_
      refine rr_bipush 8 rfl dX10_dayEnds_49 ?_
      refine rr_iload_n 2 rfl rfl dX10_dayEnds_51 ?_
      refine rr_iadd dX10_dayEnds_52 ?_
      refine rr_iaload dX10_dayEnds_53 lo_498 sh_498 (jj_rowin (n := 8) (o := 8) (vp_in_nI (by omega) (by decide)) (by decide) (by decide)) ?_
      rw [show (jj_rs h [(498, (upd a1 ((((0 : Int32) + (nI k1)) : Int32).toNatClampNeg) ((a1 (((0 : Int32) + (nI k1)) : Int32).toNatClampNeg) + 0)))]) 498 = (upd a1 ((((0 : Int32) + (nI k1)) : Int32).toNatClampNeg) ((a1 (((0 : Int32) + (nI k1)) : Int32).toNatClampNeg) + 0)) from rfl]
      refine rr_iconst 2 rfl dX10_dayEnds_54 ?_
      refine rr_icmp_ne dX10_dayEnds_55 (fun c2 => ?_) (fun c2 => ?_)
      · skip
        refine rr_iconst 0 rfl dX10_dayEnds_62 ?_
        refine rr_iastore dX10_dayEnds_63 lo_498 sh_498 (jj_rowin (n := 8) (o := 8) (vp_in_nI (by omega) (by decide)) (by decide) (by decide)) ?_
        rw [jj_rs_set (B := h) (L := [(498, (upd a1 ((((0 : Int32) + (nI k1)) : Int32).toNatClampNeg) ((a1 (((0 : Int32) + (nI k1)) : Int32).toNatClampNeg) + 0)))]) (L2 := [(498, (upd (upd a1 ((((0 : Int32) + (nI k1)) : Int32).toNatClampNeg) ((a1 (((0 : Int32) + (nI k1)) : Int32).toNatClampNeg) + 0)) ((((8 : Int32) + (nI k1)) : Int32).toNatClampNeg) 0))]) (r := (upd a1 ((((0 : Int32) + (nI k1)) : Int32).toNatClampNeg) ((a1 (((0 : Int32) + (nI k1)) : Int32).toNatClampNeg) + 0))) rfl rfl]
        refine rr_aload_n 1 rfl rfl dX10_dayEnds_64 ?_
        refine rr_iconst 0 rfl dX10_dayEnds_65 ?_
        refine rr_iload_n 2 rfl rfl dX10_dayEnds_66 ?_
        refine rr_iadd dX10_dayEnds_67 ?_
        refine rr_aload_n 1 rfl rfl dX10_dayEnds_68 ?_
        refine rr_bipush 32 rfl dX10_dayEnds_69 ?_
        refine rr_iaload dX10_dayEnds_71 lo_498 sh_498 (jj_inL rfl) ?_
        rw [show (jj_rs h [(498, (upd (upd a1 ((((0 : Int32) + (nI k1)) : Int32).toNatClampNeg) ((a1 (((0 : Int32) + (nI k1)) : Int32).toNatClampNeg) + 0)) ((((8 : Int32) + (nI k1)) : Int32).toNatClampNeg) 0))]) 498 = (upd (upd a1 ((((0 : Int32) + (nI k1)) : Int32).toNatClampNeg) ((a1 (((0 : Int32) + (nI k1)) : Int32).toNatClampNeg) + 0)) ((((8 : Int32) + (nI k1)) : Int32).toNatClampNeg) 0) from rfl]
        rw [show (upd (upd a1 ((((0 : Int32) + (nI k1)) : Int32).toNatClampNeg) ((a1 (((0 : Int32) + (nI k1)) : Int32).toNatClampNeg) + 0)) ((((8 : Int32) + (nI k1)) : Int32).toNatClampNeg) 0) (32 : Int32).toNatClampNeg = (upd (upd a1 ((((0 : Int32) + (nI k1)) : Int32).toNatClampNeg) ((a1 (((0 : Int32) + (nI k1)) : Int32).toNatClampNeg) + 0)) ((((8 : Int32) + (nI k1)) : Int32).toNatClampNeg) 0) 32 from rfl]
        refine rr_iload_n 2 rfl rfl dX10_dayEnds_72 ?_
        refine rr_callS (As := [.int ((upd (upd a1 ((((0 : Int32) + (nI k1)) : Int32).toNatClampNeg) ((a1 (((0 : Int32) + (nI k1)) : Int32).toNatClampNeg) + 0)) ((((8 : Int32) + (nI k1)) : Int32).toNatClampNeg) 0) 32), .int (nI k1)]) (rest := [.int ((0 : Int32) + (nI k1)), .ref 498]) (kc2 := 0) (ks2 := 0) dX10_dayEnds_73 okX10_has lX10_254 rfl (Nat.le_of_ble_eq_true rfl) (Nat.le_of_ble_eq_true rfl) rfl (by omega) (by simp [jj_rk]) (by simp [jj_rk]) ?_
        refine sp_X10_has  ?_
        show jj_R _ _ kc ks (jj_S, 782, (jj_rs h [(498, (upd (upd a1 ((((0 : Int32) + (nI k1)) : Int32).toNatClampNeg) ((a1 (((0 : Int32) + (nI k1)) : Int32).toNatClampNeg) + 0)) ((((8 : Int32) + (nI k1)) : Int32).toNatClampNeg) 0))]), g) 76 [(0, .ref 49), (1, .ref 498), (2, .int (nI k1))] [.int (vX10_has ((upd (upd a1 ((((0 : Int32) + (nI k1)) : Int32).toNatClampNeg) ((a1 (((0 : Int32) + (nI k1)) : Int32).toNatClampNeg) + 0)) ((((8 : Int32) + (nI k1)) : Int32).toNatClampNeg) 0) 32) (nI k1)), .int ((0 : Int32) + (nI k1)), .ref 498] Q
        refine rr_if_eq dX10_dayEnds_76 (fun c3 => ?_) (fun c3 => ?_)
        · skip
          refine rr_aload_n 1 rfl rfl dX10_dayEnds_86 ?_
          refine rr_iconst 0 rfl dX10_dayEnds_87 ?_
          refine rr_iload_n 2 rfl rfl dX10_dayEnds_88 ?_
          refine rr_iadd dX10_dayEnds_89 ?_
          refine rr_iaload dX10_dayEnds_90 lo_498 sh_498 (jj_rowin (n := 8) (o := 0) (vp_in_nI (by omega) (by decide)) (by decide) (by decide)) ?_
          rw [show (jj_rs h [(498, (upd (upd a1 ((((0 : Int32) + (nI k1)) : Int32).toNatClampNeg) ((a1 (((0 : Int32) + (nI k1)) : Int32).toNatClampNeg) + 0)) ((((8 : Int32) + (nI k1)) : Int32).toNatClampNeg) 0))]) 498 = (upd (upd a1 ((((0 : Int32) + (nI k1)) : Int32).toNatClampNeg) ((a1 (((0 : Int32) + (nI k1)) : Int32).toNatClampNeg) + 0)) ((((8 : Int32) + (nI k1)) : Int32).toNatClampNeg) 0) from rfl]
          refine rr_iastore dX10_dayEnds_91 lo_498 sh_498 (jj_rowin (n := 8) (o := 0) (vp_in_nI (by omega) (by decide)) (by decide) (by decide)) ?_
          rw [jj_rs_set (B := h) (L := [(498, (upd (upd a1 ((((0 : Int32) + (nI k1)) : Int32).toNatClampNeg) ((a1 (((0 : Int32) + (nI k1)) : Int32).toNatClampNeg) + 0)) ((((8 : Int32) + (nI k1)) : Int32).toNatClampNeg) 0))]) (L2 := [(498, (upd (upd (upd a1 ((((0 : Int32) + (nI k1)) : Int32).toNatClampNeg) ((a1 (((0 : Int32) + (nI k1)) : Int32).toNatClampNeg) + 0)) ((((8 : Int32) + (nI k1)) : Int32).toNatClampNeg) 0) ((((0 : Int32) + (nI k1)) : Int32).toNatClampNeg) ((upd (upd a1 ((((0 : Int32) + (nI k1)) : Int32).toNatClampNeg) ((a1 (((0 : Int32) + (nI k1)) : Int32).toNatClampNeg) + 0)) ((((8 : Int32) + (nI k1)) : Int32).toNatClampNeg) 0) (((0 : Int32) + (nI k1)) : Int32).toNatClampNeg)))]) (r := (upd (upd a1 ((((0 : Int32) + (nI k1)) : Int32).toNatClampNeg) ((a1 (((0 : Int32) + (nI k1)) : Int32).toNatClampNeg) + 0)) ((((8 : Int32) + (nI k1)) : Int32).toNatClampNeg) 0)) rfl rfl]
          refine rr_iinc 2 1 [(0, .ref 49), (1, .ref 498), (2, .int ((nI k1) + 1))] dX10_dayEnds_92 rfl rfl (by decide) rfl ?_
          refine rr_goto dX10_dayEnds_95 ?_
          try simp only [(nI_clamp (show k1 < 2 ^ 31 by omega))] at c1
          try simp only [(nI_clamp (show k1 < 2 ^ 31 by omega))] at c2
          try simp only [(nI_clamp (show k1 < 2 ^ 31 by omega))] at c3
          simpa only [nI_1, (nI_clamp (show k1 < 2 ^ 31 by omega)), fX10_dayEnds_t_1, if_neg c1, if_neg c2, if_pos c3] using ih1
        · skip
          refine rr_aload_n 1 rfl rfl dX10_dayEnds_79 ?_
          refine rr_bipush 33 rfl dX10_dayEnds_80 ?_
          refine rr_iaload dX10_dayEnds_82 lo_498 sh_498 (jj_inL rfl) ?_
          rw [show (jj_rs h [(498, (upd (upd a1 ((((0 : Int32) + (nI k1)) : Int32).toNatClampNeg) ((a1 (((0 : Int32) + (nI k1)) : Int32).toNatClampNeg) + 0)) ((((8 : Int32) + (nI k1)) : Int32).toNatClampNeg) 0))]) 498 = (upd (upd a1 ((((0 : Int32) + (nI k1)) : Int32).toNatClampNeg) ((a1 (((0 : Int32) + (nI k1)) : Int32).toNatClampNeg) + 0)) ((((8 : Int32) + (nI k1)) : Int32).toNatClampNeg) 0) from rfl]
          rw [show (upd (upd a1 ((((0 : Int32) + (nI k1)) : Int32).toNatClampNeg) ((a1 (((0 : Int32) + (nI k1)) : Int32).toNatClampNeg) + 0)) ((((8 : Int32) + (nI k1)) : Int32).toNatClampNeg) 0) (33 : Int32).toNatClampNeg = (upd (upd a1 ((((0 : Int32) + (nI k1)) : Int32).toNatClampNeg) ((a1 (((0 : Int32) + (nI k1)) : Int32).toNatClampNeg) + 0)) ((((8 : Int32) + (nI k1)) : Int32).toNatClampNeg) 0) 33 from rfl]
          refine rr_goto dX10_dayEnds_83 ?_
          refine rr_iastore dX10_dayEnds_91 lo_498 sh_498 (jj_rowin (n := 8) (o := 0) (vp_in_nI (by omega) (by decide)) (by decide) (by decide)) ?_
          rw [jj_rs_set (B := h) (L := [(498, (upd (upd a1 ((((0 : Int32) + (nI k1)) : Int32).toNatClampNeg) ((a1 (((0 : Int32) + (nI k1)) : Int32).toNatClampNeg) + 0)) ((((8 : Int32) + (nI k1)) : Int32).toNatClampNeg) 0))]) (L2 := [(498, (upd (upd (upd a1 ((((0 : Int32) + (nI k1)) : Int32).toNatClampNeg) ((a1 (((0 : Int32) + (nI k1)) : Int32).toNatClampNeg) + 0)) ((((8 : Int32) + (nI k1)) : Int32).toNatClampNeg) 0) ((((0 : Int32) + (nI k1)) : Int32).toNatClampNeg) ((upd (upd a1 ((((0 : Int32) + (nI k1)) : Int32).toNatClampNeg) ((a1 (((0 : Int32) + (nI k1)) : Int32).toNatClampNeg) + 0)) ((((8 : Int32) + (nI k1)) : Int32).toNatClampNeg) 0) 33)))]) (r := (upd (upd a1 ((((0 : Int32) + (nI k1)) : Int32).toNatClampNeg) ((a1 (((0 : Int32) + (nI k1)) : Int32).toNatClampNeg) + 0)) ((((8 : Int32) + (nI k1)) : Int32).toNatClampNeg) 0)) rfl rfl]
          refine rr_iinc 2 1 [(0, .ref 49), (1, .ref 498), (2, .int ((nI k1) + 1))] dX10_dayEnds_92 rfl rfl (by decide) rfl ?_
          refine rr_goto dX10_dayEnds_95 ?_
          try simp only [(nI_clamp (show k1 < 2 ^ 31 by omega))] at c1
          try simp only [(nI_clamp (show k1 < 2 ^ 31 by omega))] at c2
          try simp only [(nI_clamp (show k1 < 2 ^ 31 by omega))] at c3
          simpa only [nI_1, (nI_clamp (show k1 < 2 ^ 31 by omega)), fX10_dayEnds_t_1, if_neg c1, if_neg c2, if_neg c3] using ih1
      · skip
        refine rr_iconst 2 rfl dX10_dayEnds_58 ?_
        refine rr_goto dX10_dayEnds_59 ?_
        refine rr_iastore dX10_dayEnds_63 lo_498 sh_498 (jj_rowin (n := 8) (o := 8) (vp_in_nI (by omega) (by decide)) (by decide) (by decide)) ?_
        rw [jj_rs_set (B := h) (L := [(498, (upd a1 ((((0 : Int32) + (nI k1)) : Int32).toNatClampNeg) ((a1 (((0 : Int32) + (nI k1)) : Int32).toNatClampNeg) + 0)))]) (L2 := [(498, (upd (upd a1 ((((0 : Int32) + (nI k1)) : Int32).toNatClampNeg) ((a1 (((0 : Int32) + (nI k1)) : Int32).toNatClampNeg) + 0)) ((((8 : Int32) + (nI k1)) : Int32).toNatClampNeg) 2))]) (r := (upd a1 ((((0 : Int32) + (nI k1)) : Int32).toNatClampNeg) ((a1 (((0 : Int32) + (nI k1)) : Int32).toNatClampNeg) + 0))) rfl rfl]
        refine rr_aload_n 1 rfl rfl dX10_dayEnds_64 ?_
        refine rr_iconst 0 rfl dX10_dayEnds_65 ?_
        refine rr_iload_n 2 rfl rfl dX10_dayEnds_66 ?_
        refine rr_iadd dX10_dayEnds_67 ?_
        refine rr_aload_n 1 rfl rfl dX10_dayEnds_68 ?_
        refine rr_bipush 32 rfl dX10_dayEnds_69 ?_
        refine rr_iaload dX10_dayEnds_71 lo_498 sh_498 (jj_inL rfl) ?_
        rw [show (jj_rs h [(498, (upd (upd a1 ((((0 : Int32) + (nI k1)) : Int32).toNatClampNeg) ((a1 (((0 : Int32) + (nI k1)) : Int32).toNatClampNeg) + 0)) ((((8 : Int32) + (nI k1)) : Int32).toNatClampNeg) 2))]) 498 = (upd (upd a1 ((((0 : Int32) + (nI k1)) : Int32).toNatClampNeg) ((a1 (((0 : Int32) + (nI k1)) : Int32).toNatClampNeg) + 0)) ((((8 : Int32) + (nI k1)) : Int32).toNatClampNeg) 2) from rfl]
        rw [show (upd (upd a1 ((((0 : Int32) + (nI k1)) : Int32).toNatClampNeg) ((a1 (((0 : Int32) + (nI k1)) : Int32).toNatClampNeg) + 0)) ((((8 : Int32) + (nI k1)) : Int32).toNatClampNeg) 2) (32 : Int32).toNatClampNeg = (upd (upd a1 ((((0 : Int32) + (nI k1)) : Int32).toNatClampNeg) ((a1 (((0 : Int32) + (nI k1)) : Int32).toNatClampNeg) + 0)) ((((8 : Int32) + (nI k1)) : Int32).toNatClampNeg) 2) 32 from rfl]
        refine rr_iload_n 2 rfl rfl dX10_dayEnds_72 ?_
        refine rr_callS (As := [.int ((upd (upd a1 ((((0 : Int32) + (nI k1)) : Int32).toNatClampNeg) ((a1 (((0 : Int32) + (nI k1)) : Int32).toNatClampNeg) + 0)) ((((8 : Int32) + (nI k1)) : Int32).toNatClampNeg) 2) 32), .int (nI k1)]) (rest := [.int ((0 : Int32) + (nI k1)), .ref 498]) (kc2 := 0) (ks2 := 0) dX10_dayEnds_73 okX10_has lX10_254 rfl (Nat.le_of_ble_eq_true rfl) (Nat.le_of_ble_eq_true rfl) rfl (by omega) (by simp [jj_rk]) (by simp [jj_rk]) ?_
        refine sp_X10_has  ?_
        show jj_R _ _ kc ks (jj_S, 782, (jj_rs h [(498, (upd (upd a1 ((((0 : Int32) + (nI k1)) : Int32).toNatClampNeg) ((a1 (((0 : Int32) + (nI k1)) : Int32).toNatClampNeg) + 0)) ((((8 : Int32) + (nI k1)) : Int32).toNatClampNeg) 2))]), g) 76 [(0, .ref 49), (1, .ref 498), (2, .int (nI k1))] [.int (vX10_has ((upd (upd a1 ((((0 : Int32) + (nI k1)) : Int32).toNatClampNeg) ((a1 (((0 : Int32) + (nI k1)) : Int32).toNatClampNeg) + 0)) ((((8 : Int32) + (nI k1)) : Int32).toNatClampNeg) 2) 32) (nI k1)), .int ((0 : Int32) + (nI k1)), .ref 498] Q
        refine rr_if_eq dX10_dayEnds_76 (fun c4 => ?_) (fun c4 => ?_)
        · skip
          refine rr_aload_n 1 rfl rfl dX10_dayEnds_86 ?_
          refine rr_iconst 0 rfl dX10_dayEnds_87 ?_
          refine rr_iload_n 2 rfl rfl dX10_dayEnds_88 ?_
          refine rr_iadd dX10_dayEnds_89 ?_
          refine rr_iaload dX10_dayEnds_90 lo_498 sh_498 (jj_rowin (n := 8) (o := 0) (vp_in_nI (by omega) (by decide)) (by decide) (by decide)) ?_
          rw [show (jj_rs h [(498, (upd (upd a1 ((((0 : Int32) + (nI k1)) : Int32).toNatClampNeg) ((a1 (((0 : Int32) + (nI k1)) : Int32).toNatClampNeg) + 0)) ((((8 : Int32) + (nI k1)) : Int32).toNatClampNeg) 2))]) 498 = (upd (upd a1 ((((0 : Int32) + (nI k1)) : Int32).toNatClampNeg) ((a1 (((0 : Int32) + (nI k1)) : Int32).toNatClampNeg) + 0)) ((((8 : Int32) + (nI k1)) : Int32).toNatClampNeg) 2) from rfl]
          refine rr_iastore dX10_dayEnds_91 lo_498 sh_498 (jj_rowin (n := 8) (o := 0) (vp_in_nI (by omega) (by decide)) (by decide) (by decide)) ?_
          rw [jj_rs_set (B := h) (L := [(498, (upd (upd a1 ((((0 : Int32) + (nI k1)) : Int32).toNatClampNeg) ((a1 (((0 : Int32) + (nI k1)) : Int32).toNatClampNeg) + 0)) ((((8 : Int32) + (nI k1)) : Int32).toNatClampNeg) 2))]) (L2 := [(498, (upd (upd (upd a1 ((((0 : Int32) + (nI k1)) : Int32).toNatClampNeg) ((a1 (((0 : Int32) + (nI k1)) : Int32).toNatClampNeg) + 0)) ((((8 : Int32) + (nI k1)) : Int32).toNatClampNeg) 2) ((((0 : Int32) + (nI k1)) : Int32).toNatClampNeg) ((upd (upd a1 ((((0 : Int32) + (nI k1)) : Int32).toNatClampNeg) ((a1 (((0 : Int32) + (nI k1)) : Int32).toNatClampNeg) + 0)) ((((8 : Int32) + (nI k1)) : Int32).toNatClampNeg) 2) (((0 : Int32) + (nI k1)) : Int32).toNatClampNeg)))]) (r := (upd (upd a1 ((((0 : Int32) + (nI k1)) : Int32).toNatClampNeg) ((a1 (((0 : Int32) + (nI k1)) : Int32).toNatClampNeg) + 0)) ((((8 : Int32) + (nI k1)) : Int32).toNatClampNeg) 2)) rfl rfl]
          refine rr_iinc 2 1 [(0, .ref 49), (1, .ref 498), (2, .int ((nI k1) + 1))] dX10_dayEnds_92 rfl rfl (by decide) rfl ?_
          refine rr_goto dX10_dayEnds_95 ?_
          try simp only [(nI_clamp (show k1 < 2 ^ 31 by omega))] at c1
          try simp only [(nI_clamp (show k1 < 2 ^ 31 by omega))] at c2
          try simp only [(nI_clamp (show k1 < 2 ^ 31 by omega))] at c4
          simpa only [nI_1, (nI_clamp (show k1 < 2 ^ 31 by omega)), fX10_dayEnds_t_1, if_neg c1, if_pos c2, if_pos c4] using ih1
        · skip
          refine rr_aload_n 1 rfl rfl dX10_dayEnds_79 ?_
          refine rr_bipush 33 rfl dX10_dayEnds_80 ?_
          refine rr_iaload dX10_dayEnds_82 lo_498 sh_498 (jj_inL rfl) ?_
          rw [show (jj_rs h [(498, (upd (upd a1 ((((0 : Int32) + (nI k1)) : Int32).toNatClampNeg) ((a1 (((0 : Int32) + (nI k1)) : Int32).toNatClampNeg) + 0)) ((((8 : Int32) + (nI k1)) : Int32).toNatClampNeg) 2))]) 498 = (upd (upd a1 ((((0 : Int32) + (nI k1)) : Int32).toNatClampNeg) ((a1 (((0 : Int32) + (nI k1)) : Int32).toNatClampNeg) + 0)) ((((8 : Int32) + (nI k1)) : Int32).toNatClampNeg) 2) from rfl]
          rw [show (upd (upd a1 ((((0 : Int32) + (nI k1)) : Int32).toNatClampNeg) ((a1 (((0 : Int32) + (nI k1)) : Int32).toNatClampNeg) + 0)) ((((8 : Int32) + (nI k1)) : Int32).toNatClampNeg) 2) (33 : Int32).toNatClampNeg = (upd (upd a1 ((((0 : Int32) + (nI k1)) : Int32).toNatClampNeg) ((a1 (((0 : Int32) + (nI k1)) : Int32).toNatClampNeg) + 0)) ((((8 : Int32) + (nI k1)) : Int32).toNatClampNeg) 2) 33 from rfl]
          refine rr_goto dX10_dayEnds_83 ?_
          refine rr_iastore dX10_dayEnds_91 lo_498 sh_498 (jj_rowin (n := 8) (o := 0) (vp_in_nI (by omega) (by decide)) (by decide) (by decide)) ?_
          rw [jj_rs_set (B := h) (L := [(498, (upd (upd a1 ((((0 : Int32) + (nI k1)) : Int32).toNatClampNeg) ((a1 (((0 : Int32) + (nI k1)) : Int32).toNatClampNeg) + 0)) ((((8 : Int32) + (nI k1)) : Int32).toNatClampNeg) 2))]) (L2 := [(498, (upd (upd (upd a1 ((((0 : Int32) + (nI k1)) : Int32).toNatClampNeg) ((a1 (((0 : Int32) + (nI k1)) : Int32).toNatClampNeg) + 0)) ((((8 : Int32) + (nI k1)) : Int32).toNatClampNeg) 2) ((((0 : Int32) + (nI k1)) : Int32).toNatClampNeg) ((upd (upd a1 ((((0 : Int32) + (nI k1)) : Int32).toNatClampNeg) ((a1 (((0 : Int32) + (nI k1)) : Int32).toNatClampNeg) + 0)) ((((8 : Int32) + (nI k1)) : Int32).toNatClampNeg) 2) 33)))]) (r := (upd (upd a1 ((((0 : Int32) + (nI k1)) : Int32).toNatClampNeg) ((a1 (((0 : Int32) + (nI k1)) : Int32).toNatClampNeg) + 0)) ((((8 : Int32) + (nI k1)) : Int32).toNatClampNeg) 2)) rfl rfl]
          refine rr_iinc 2 1 [(0, .ref 49), (1, .ref 498), (2, .int ((nI k1) + 1))] dX10_dayEnds_92 rfl rfl (by decide) rfl ?_
          refine rr_goto dX10_dayEnds_95 ?_
          try simp only [(nI_clamp (show k1 < 2 ^ 31 by omega))] at c1
          try simp only [(nI_clamp (show k1 < 2 ^ 31 by omega))] at c2
          try simp only [(nI_clamp (show k1 < 2 ^ 31 by omega))] at c4
          simpa only [nI_1, (nI_clamp (show k1 < 2 ^ 31 by omega)), fX10_dayEnds_t_1, if_neg c1, if_pos c2, if_neg c4] using ih1
    · skip
      refine rr_iconst 1 rfl dX10_dayEnds_36 ?_
      refine rr_goto dX10_dayEnds_37 ?_
      refine rr_iadd dX10_dayEnds_41 ?_
      refine rr_iastore dX10_dayEnds_42 lo_498 sh_498 (jj_rowin (n := 8) (o := 0) (vp_in_nI (by omega) (by decide)) (by decide) (by decide)) ?_
      rw [jj_rs_set (B := h) (L := [(498, a1)]) (L2 := [(498, (upd a1 ((((0 : Int32) + (nI k1)) : Int32).toNatClampNeg) ((a1 (((0 : Int32) + (nI k1)) : Int32).toNatClampNeg) + 1)))]) (r := a1) rfl rfl]
      refine rr_aload_n 1 rfl rfl dX10_dayEnds_43 ?_
      refine rr_bipush 8 rfl dX10_dayEnds_44 ?_
      refine rr_iload_n 2 rfl rfl dX10_dayEnds_46 ?_
      refine rr_iadd dX10_dayEnds_47 ?_
      refine rr_aload_n 1 rfl rfl dX10_dayEnds_48 ?_
      refine rr_bipush 8 rfl dX10_dayEnds_49 ?_
      refine rr_iload_n 2 rfl rfl dX10_dayEnds_51 ?_
      refine rr_iadd dX10_dayEnds_52 ?_
      refine rr_iaload dX10_dayEnds_53 lo_498 sh_498 (jj_rowin (n := 8) (o := 8) (vp_in_nI (by omega) (by decide)) (by decide) (by decide)) ?_
      rw [show (jj_rs h [(498, (upd a1 ((((0 : Int32) + (nI k1)) : Int32).toNatClampNeg) ((a1 (((0 : Int32) + (nI k1)) : Int32).toNatClampNeg) + 1)))]) 498 = (upd a1 ((((0 : Int32) + (nI k1)) : Int32).toNatClampNeg) ((a1 (((0 : Int32) + (nI k1)) : Int32).toNatClampNeg) + 1)) from rfl]
      refine rr_iconst 2 rfl dX10_dayEnds_54 ?_
      refine rr_icmp_ne dX10_dayEnds_55 (fun c5 => ?_) (fun c5 => ?_)
      · skip
        refine rr_iconst 0 rfl dX10_dayEnds_62 ?_
        refine rr_iastore dX10_dayEnds_63 lo_498 sh_498 (jj_rowin (n := 8) (o := 8) (vp_in_nI (by omega) (by decide)) (by decide) (by decide)) ?_
        rw [jj_rs_set (B := h) (L := [(498, (upd a1 ((((0 : Int32) + (nI k1)) : Int32).toNatClampNeg) ((a1 (((0 : Int32) + (nI k1)) : Int32).toNatClampNeg) + 1)))]) (L2 := [(498, (upd (upd a1 ((((0 : Int32) + (nI k1)) : Int32).toNatClampNeg) ((a1 (((0 : Int32) + (nI k1)) : Int32).toNatClampNeg) + 1)) ((((8 : Int32) + (nI k1)) : Int32).toNatClampNeg) 0))]) (r := (upd a1 ((((0 : Int32) + (nI k1)) : Int32).toNatClampNeg) ((a1 (((0 : Int32) + (nI k1)) : Int32).toNatClampNeg) + 1))) rfl rfl]
        refine rr_aload_n 1 rfl rfl dX10_dayEnds_64 ?_
        refine rr_iconst 0 rfl dX10_dayEnds_65 ?_
        refine rr_iload_n 2 rfl rfl dX10_dayEnds_66 ?_
        refine rr_iadd dX10_dayEnds_67 ?_
        refine rr_aload_n 1 rfl rfl dX10_dayEnds_68 ?_
        refine rr_bipush 32 rfl dX10_dayEnds_69 ?_
        refine rr_iaload dX10_dayEnds_71 lo_498 sh_498 (jj_inL rfl) ?_
        rw [show (jj_rs h [(498, (upd (upd a1 ((((0 : Int32) + (nI k1)) : Int32).toNatClampNeg) ((a1 (((0 : Int32) + (nI k1)) : Int32).toNatClampNeg) + 1)) ((((8 : Int32) + (nI k1)) : Int32).toNatClampNeg) 0))]) 498 = (upd (upd a1 ((((0 : Int32) + (nI k1)) : Int32).toNatClampNeg) ((a1 (((0 : Int32) + (nI k1)) : Int32).toNatClampNeg) + 1)) ((((8 : Int32) + (nI k1)) : Int32).toNatClampNeg) 0) from rfl]
        rw [show (upd (upd a1 ((((0 : Int32) + (nI k1)) : Int32).toNatClampNeg) ((a1 (((0 : Int32) + (nI k1)) : Int32).toNatClampNeg) + 1)) ((((8 : Int32) + (nI k1)) : Int32).toNatClampNeg) 0) (32 : Int32).toNatClampNeg = (upd (upd a1 ((((0 : Int32) + (nI k1)) : Int32).toNatClampNeg) ((a1 (((0 : Int32) + (nI k1)) : Int32).toNatClampNeg) + 1)) ((((8 : Int32) + (nI k1)) : Int32).toNatClampNeg) 0) 32 from rfl]
        refine rr_iload_n 2 rfl rfl dX10_dayEnds_72 ?_
        refine rr_callS (As := [.int ((upd (upd a1 ((((0 : Int32) + (nI k1)) : Int32).toNatClampNeg) ((a1 (((0 : Int32) + (nI k1)) : Int32).toNatClampNeg) + 1)) ((((8 : Int32) + (nI k1)) : Int32).toNatClampNeg) 0) 32), .int (nI k1)]) (rest := [.int ((0 : Int32) + (nI k1)), .ref 498]) (kc2 := 0) (ks2 := 0) dX10_dayEnds_73 okX10_has lX10_254 rfl (Nat.le_of_ble_eq_true rfl) (Nat.le_of_ble_eq_true rfl) rfl (by omega) (by simp [jj_rk]) (by simp [jj_rk]) ?_
        refine sp_X10_has  ?_
        show jj_R _ _ kc ks (jj_S, 782, (jj_rs h [(498, (upd (upd a1 ((((0 : Int32) + (nI k1)) : Int32).toNatClampNeg) ((a1 (((0 : Int32) + (nI k1)) : Int32).toNatClampNeg) + 1)) ((((8 : Int32) + (nI k1)) : Int32).toNatClampNeg) 0))]), g) 76 [(0, .ref 49), (1, .ref 498), (2, .int (nI k1))] [.int (vX10_has ((upd (upd a1 ((((0 : Int32) + (nI k1)) : Int32).toNatClampNeg) ((a1 (((0 : Int32) + (nI k1)) : Int32).toNatClampNeg) + 1)) ((((8 : Int32) + (nI k1)) : Int32).toNatClampNeg) 0) 32) (nI k1)), .int ((0 : Int32) + (nI k1)), .ref 498] Q
        refine rr_if_eq dX10_dayEnds_76 (fun c6 => ?_) (fun c6 => ?_)
        · skip
          refine rr_aload_n 1 rfl rfl dX10_dayEnds_86 ?_
          refine rr_iconst 0 rfl dX10_dayEnds_87 ?_
          refine rr_iload_n 2 rfl rfl dX10_dayEnds_88 ?_
          refine rr_iadd dX10_dayEnds_89 ?_
          refine rr_iaload dX10_dayEnds_90 lo_498 sh_498 (jj_rowin (n := 8) (o := 0) (vp_in_nI (by omega) (by decide)) (by decide) (by decide)) ?_
          rw [show (jj_rs h [(498, (upd (upd a1 ((((0 : Int32) + (nI k1)) : Int32).toNatClampNeg) ((a1 (((0 : Int32) + (nI k1)) : Int32).toNatClampNeg) + 1)) ((((8 : Int32) + (nI k1)) : Int32).toNatClampNeg) 0))]) 498 = (upd (upd a1 ((((0 : Int32) + (nI k1)) : Int32).toNatClampNeg) ((a1 (((0 : Int32) + (nI k1)) : Int32).toNatClampNeg) + 1)) ((((8 : Int32) + (nI k1)) : Int32).toNatClampNeg) 0) from rfl]
          refine rr_iastore dX10_dayEnds_91 lo_498 sh_498 (jj_rowin (n := 8) (o := 0) (vp_in_nI (by omega) (by decide)) (by decide) (by decide)) ?_
          rw [jj_rs_set (B := h) (L := [(498, (upd (upd a1 ((((0 : Int32) + (nI k1)) : Int32).toNatClampNeg) ((a1 (((0 : Int32) + (nI k1)) : Int32).toNatClampNeg) + 1)) ((((8 : Int32) + (nI k1)) : Int32).toNatClampNeg) 0))]) (L2 := [(498, (upd (upd (upd a1 ((((0 : Int32) + (nI k1)) : Int32).toNatClampNeg) ((a1 (((0 : Int32) + (nI k1)) : Int32).toNatClampNeg) + 1)) ((((8 : Int32) + (nI k1)) : Int32).toNatClampNeg) 0) ((((0 : Int32) + (nI k1)) : Int32).toNatClampNeg) ((upd (upd a1 ((((0 : Int32) + (nI k1)) : Int32).toNatClampNeg) ((a1 (((0 : Int32) + (nI k1)) : Int32).toNatClampNeg) + 1)) ((((8 : Int32) + (nI k1)) : Int32).toNatClampNeg) 0) (((0 : Int32) + (nI k1)) : Int32).toNatClampNeg)))]) (r := (upd (upd a1 ((((0 : Int32) + (nI k1)) : Int32).toNatClampNeg) ((a1 (((0 : Int32) + (nI k1)) : Int32).toNatClampNeg) + 1)) ((((8 : Int32) + (nI k1)) : Int32).toNatClampNeg) 0)) rfl rfl]
          refine rr_iinc 2 1 [(0, .ref 49), (1, .ref 498), (2, .int ((nI k1) + 1))] dX10_dayEnds_92 rfl rfl (by decide) rfl ?_
          refine rr_goto dX10_dayEnds_95 ?_
          try simp only [(nI_clamp (show k1 < 2 ^ 31 by omega))] at c1
          try simp only [(nI_clamp (show k1 < 2 ^ 31 by omega))] at c5
          try simp only [(nI_clamp (show k1 < 2 ^ 31 by omega))] at c6
          simpa only [nI_1, (nI_clamp (show k1 < 2 ^ 31 by omega)), fX10_dayEnds_t_1, if_pos c1, if_neg c5, if_pos c6] using ih1
        · skip
          refine rr_aload_n 1 rfl rfl dX10_dayEnds_79 ?_
          refine rr_bipush 33 rfl dX10_dayEnds_80 ?_
          refine rr_iaload dX10_dayEnds_82 lo_498 sh_498 (jj_inL rfl) ?_
          rw [show (jj_rs h [(498, (upd (upd a1 ((((0 : Int32) + (nI k1)) : Int32).toNatClampNeg) ((a1 (((0 : Int32) + (nI k1)) : Int32).toNatClampNeg) + 1)) ((((8 : Int32) + (nI k1)) : Int32).toNatClampNeg) 0))]) 498 = (upd (upd a1 ((((0 : Int32) + (nI k1)) : Int32).toNatClampNeg) ((a1 (((0 : Int32) + (nI k1)) : Int32).toNatClampNeg) + 1)) ((((8 : Int32) + (nI k1)) : Int32).toNatClampNeg) 0) from rfl]
          rw [show (upd (upd a1 ((((0 : Int32) + (nI k1)) : Int32).toNatClampNeg) ((a1 (((0 : Int32) + (nI k1)) : Int32).toNatClampNeg) + 1)) ((((8 : Int32) + (nI k1)) : Int32).toNatClampNeg) 0) (33 : Int32).toNatClampNeg = (upd (upd a1 ((((0 : Int32) + (nI k1)) : Int32).toNatClampNeg) ((a1 (((0 : Int32) + (nI k1)) : Int32).toNatClampNeg) + 1)) ((((8 : Int32) + (nI k1)) : Int32).toNatClampNeg) 0) 33 from rfl]
          refine rr_goto dX10_dayEnds_83 ?_
          refine rr_iastore dX10_dayEnds_91 lo_498 sh_498 (jj_rowin (n := 8) (o := 0) (vp_in_nI (by omega) (by decide)) (by decide) (by decide)) ?_
          rw [jj_rs_set (B := h) (L := [(498, (upd (upd a1 ((((0 : Int32) + (nI k1)) : Int32).toNatClampNeg) ((a1 (((0 : Int32) + (nI k1)) : Int32).toNatClampNeg) + 1)) ((((8 : Int32) + (nI k1)) : Int32).toNatClampNeg) 0))]) (L2 := [(498, (upd (upd (upd a1 ((((0 : Int32) + (nI k1)) : Int32).toNatClampNeg) ((a1 (((0 : Int32) + (nI k1)) : Int32).toNatClampNeg) + 1)) ((((8 : Int32) + (nI k1)) : Int32).toNatClampNeg) 0) ((((0 : Int32) + (nI k1)) : Int32).toNatClampNeg) ((upd (upd a1 ((((0 : Int32) + (nI k1)) : Int32).toNatClampNeg) ((a1 (((0 : Int32) + (nI k1)) : Int32).toNatClampNeg) + 1)) ((((8 : Int32) + (nI k1)) : Int32).toNatClampNeg) 0) 33)))]) (r := (upd (upd a1 ((((0 : Int32) + (nI k1)) : Int32).toNatClampNeg) ((a1 (((0 : Int32) + (nI k1)) : Int32).toNatClampNeg) + 1)) ((((8 : Int32) + (nI k1)) : Int32).toNatClampNeg) 0)) rfl rfl]
          refine rr_iinc 2 1 [(0, .ref 49), (1, .ref 498), (2, .int ((nI k1) + 1))] dX10_dayEnds_92 rfl rfl (by decide) rfl ?_
          refine rr_goto dX10_dayEnds_95 ?_
          try simp only [(nI_clamp (show k1 < 2 ^ 31 by omega))] at c1
          try simp only [(nI_clamp (show k1 < 2 ^ 31 by omega))] at c5
          try simp only [(nI_clamp (show k1 < 2 ^ 31 by omega))] at c6
          simpa only [nI_1, (nI_clamp (show k1 < 2 ^ 31 by omega)), fX10_dayEnds_t_1, if_pos c1, if_neg c5, if_neg c6] using ih1
      · skip
        refine rr_iconst 2 rfl dX10_dayEnds_58 ?_
        refine rr_goto dX10_dayEnds_59 ?_
        refine rr_iastore dX10_dayEnds_63 lo_498 sh_498 (jj_rowin (n := 8) (o := 8) (vp_in_nI (by omega) (by decide)) (by decide) (by decide)) ?_
        rw [jj_rs_set (B := h) (L := [(498, (upd a1 ((((0 : Int32) + (nI k1)) : Int32).toNatClampNeg) ((a1 (((0 : Int32) + (nI k1)) : Int32).toNatClampNeg) + 1)))]) (L2 := [(498, (upd (upd a1 ((((0 : Int32) + (nI k1)) : Int32).toNatClampNeg) ((a1 (((0 : Int32) + (nI k1)) : Int32).toNatClampNeg) + 1)) ((((8 : Int32) + (nI k1)) : Int32).toNatClampNeg) 2))]) (r := (upd a1 ((((0 : Int32) + (nI k1)) : Int32).toNatClampNeg) ((a1 (((0 : Int32) + (nI k1)) : Int32).toNatClampNeg) + 1))) rfl rfl]
        refine rr_aload_n 1 rfl rfl dX10_dayEnds_64 ?_
        refine rr_iconst 0 rfl dX10_dayEnds_65 ?_
        refine rr_iload_n 2 rfl rfl dX10_dayEnds_66 ?_
        refine rr_iadd dX10_dayEnds_67 ?_
        refine rr_aload_n 1 rfl rfl dX10_dayEnds_68 ?_
        refine rr_bipush 32 rfl dX10_dayEnds_69 ?_
        refine rr_iaload dX10_dayEnds_71 lo_498 sh_498 (jj_inL rfl) ?_
        rw [show (jj_rs h [(498, (upd (upd a1 ((((0 : Int32) + (nI k1)) : Int32).toNatClampNeg) ((a1 (((0 : Int32) + (nI k1)) : Int32).toNatClampNeg) + 1)) ((((8 : Int32) + (nI k1)) : Int32).toNatClampNeg) 2))]) 498 = (upd (upd a1 ((((0 : Int32) + (nI k1)) : Int32).toNatClampNeg) ((a1 (((0 : Int32) + (nI k1)) : Int32).toNatClampNeg) + 1)) ((((8 : Int32) + (nI k1)) : Int32).toNatClampNeg) 2) from rfl]
        rw [show (upd (upd a1 ((((0 : Int32) + (nI k1)) : Int32).toNatClampNeg) ((a1 (((0 : Int32) + (nI k1)) : Int32).toNatClampNeg) + 1)) ((((8 : Int32) + (nI k1)) : Int32).toNatClampNeg) 2) (32 : Int32).toNatClampNeg = (upd (upd a1 ((((0 : Int32) + (nI k1)) : Int32).toNatClampNeg) ((a1 (((0 : Int32) + (nI k1)) : Int32).toNatClampNeg) + 1)) ((((8 : Int32) + (nI k1)) : Int32).toNatClampNeg) 2) 32 from rfl]
        refine rr_iload_n 2 rfl rfl dX10_dayEnds_72 ?_
        refine rr_callS (As := [.int ((upd (upd a1 ((((0 : Int32) + (nI k1)) : Int32).toNatClampNeg) ((a1 (((0 : Int32) + (nI k1)) : Int32).toNatClampNeg) + 1)) ((((8 : Int32) + (nI k1)) : Int32).toNatClampNeg) 2) 32), .int (nI k1)]) (rest := [.int ((0 : Int32) + (nI k1)), .ref 498]) (kc2 := 0) (ks2 := 0) dX10_dayEnds_73 okX10_has lX10_254 rfl (Nat.le_of_ble_eq_true rfl) (Nat.le_of_ble_eq_true rfl) rfl (by omega) (by simp [jj_rk]) (by simp [jj_rk]) ?_
        refine sp_X10_has  ?_
        show jj_R _ _ kc ks (jj_S, 782, (jj_rs h [(498, (upd (upd a1 ((((0 : Int32) + (nI k1)) : Int32).toNatClampNeg) ((a1 (((0 : Int32) + (nI k1)) : Int32).toNatClampNeg) + 1)) ((((8 : Int32) + (nI k1)) : Int32).toNatClampNeg) 2))]), g) 76 [(0, .ref 49), (1, .ref 498), (2, .int (nI k1))] [.int (vX10_has ((upd (upd a1 ((((0 : Int32) + (nI k1)) : Int32).toNatClampNeg) ((a1 (((0 : Int32) + (nI k1)) : Int32).toNatClampNeg) + 1)) ((((8 : Int32) + (nI k1)) : Int32).toNatClampNeg) 2) 32) (nI k1)), .int ((0 : Int32) + (nI k1)), .ref 498] Q
        refine rr_if_eq dX10_dayEnds_76 (fun c7 => ?_) (fun c7 => ?_)
        · skip
          refine rr_aload_n 1 rfl rfl dX10_dayEnds_86 ?_
          refine rr_iconst 0 rfl dX10_dayEnds_87 ?_
          refine rr_iload_n 2 rfl rfl dX10_dayEnds_88 ?_
          refine rr_iadd dX10_dayEnds_89 ?_
          refine rr_iaload dX10_dayEnds_90 lo_498 sh_498 (jj_rowin (n := 8) (o := 0) (vp_in_nI (by omega) (by decide)) (by decide) (by decide)) ?_
          rw [show (jj_rs h [(498, (upd (upd a1 ((((0 : Int32) + (nI k1)) : Int32).toNatClampNeg) ((a1 (((0 : Int32) + (nI k1)) : Int32).toNatClampNeg) + 1)) ((((8 : Int32) + (nI k1)) : Int32).toNatClampNeg) 2))]) 498 = (upd (upd a1 ((((0 : Int32) + (nI k1)) : Int32).toNatClampNeg) ((a1 (((0 : Int32) + (nI k1)) : Int32).toNatClampNeg) + 1)) ((((8 : Int32) + (nI k1)) : Int32).toNatClampNeg) 2) from rfl]
          refine rr_iastore dX10_dayEnds_91 lo_498 sh_498 (jj_rowin (n := 8) (o := 0) (vp_in_nI (by omega) (by decide)) (by decide) (by decide)) ?_
          rw [jj_rs_set (B := h) (L := [(498, (upd (upd a1 ((((0 : Int32) + (nI k1)) : Int32).toNatClampNeg) ((a1 (((0 : Int32) + (nI k1)) : Int32).toNatClampNeg) + 1)) ((((8 : Int32) + (nI k1)) : Int32).toNatClampNeg) 2))]) (L2 := [(498, (upd (upd (upd a1 ((((0 : Int32) + (nI k1)) : Int32).toNatClampNeg) ((a1 (((0 : Int32) + (nI k1)) : Int32).toNatClampNeg) + 1)) ((((8 : Int32) + (nI k1)) : Int32).toNatClampNeg) 2) ((((0 : Int32) + (nI k1)) : Int32).toNatClampNeg) ((upd (upd a1 ((((0 : Int32) + (nI k1)) : Int32).toNatClampNeg) ((a1 (((0 : Int32) + (nI k1)) : Int32).toNatClampNeg) + 1)) ((((8 : Int32) + (nI k1)) : Int32).toNatClampNeg) 2) (((0 : Int32) + (nI k1)) : Int32).toNatClampNeg)))]) (r := (upd (upd a1 ((((0 : Int32) + (nI k1)) : Int32).toNatClampNeg) ((a1 (((0 : Int32) + (nI k1)) : Int32).toNatClampNeg) + 1)) ((((8 : Int32) + (nI k1)) : Int32).toNatClampNeg) 2)) rfl rfl]
          refine rr_iinc 2 1 [(0, .ref 49), (1, .ref 498), (2, .int ((nI k1) + 1))] dX10_dayEnds_92 rfl rfl (by decide) rfl ?_
          refine rr_goto dX10_dayEnds_95 ?_
          try simp only [(nI_clamp (show k1 < 2 ^ 31 by omega))] at c1
          try simp only [(nI_clamp (show k1 < 2 ^ 31 by omega))] at c5
          try simp only [(nI_clamp (show k1 < 2 ^ 31 by omega))] at c7
          simpa only [nI_1, (nI_clamp (show k1 < 2 ^ 31 by omega)), fX10_dayEnds_t_1, if_pos c1, if_pos c5, if_pos c7] using ih1
        · skip
          refine rr_aload_n 1 rfl rfl dX10_dayEnds_79 ?_
          refine rr_bipush 33 rfl dX10_dayEnds_80 ?_
          refine rr_iaload dX10_dayEnds_82 lo_498 sh_498 (jj_inL rfl) ?_
          rw [show (jj_rs h [(498, (upd (upd a1 ((((0 : Int32) + (nI k1)) : Int32).toNatClampNeg) ((a1 (((0 : Int32) + (nI k1)) : Int32).toNatClampNeg) + 1)) ((((8 : Int32) + (nI k1)) : Int32).toNatClampNeg) 2))]) 498 = (upd (upd a1 ((((0 : Int32) + (nI k1)) : Int32).toNatClampNeg) ((a1 (((0 : Int32) + (nI k1)) : Int32).toNatClampNeg) + 1)) ((((8 : Int32) + (nI k1)) : Int32).toNatClampNeg) 2) from rfl]
          rw [show (upd (upd a1 ((((0 : Int32) + (nI k1)) : Int32).toNatClampNeg) ((a1 (((0 : Int32) + (nI k1)) : Int32).toNatClampNeg) + 1)) ((((8 : Int32) + (nI k1)) : Int32).toNatClampNeg) 2) (33 : Int32).toNatClampNeg = (upd (upd a1 ((((0 : Int32) + (nI k1)) : Int32).toNatClampNeg) ((a1 (((0 : Int32) + (nI k1)) : Int32).toNatClampNeg) + 1)) ((((8 : Int32) + (nI k1)) : Int32).toNatClampNeg) 2) 33 from rfl]
          refine rr_goto dX10_dayEnds_83 ?_
          refine rr_iastore dX10_dayEnds_91 lo_498 sh_498 (jj_rowin (n := 8) (o := 0) (vp_in_nI (by omega) (by decide)) (by decide) (by decide)) ?_
          rw [jj_rs_set (B := h) (L := [(498, (upd (upd a1 ((((0 : Int32) + (nI k1)) : Int32).toNatClampNeg) ((a1 (((0 : Int32) + (nI k1)) : Int32).toNatClampNeg) + 1)) ((((8 : Int32) + (nI k1)) : Int32).toNatClampNeg) 2))]) (L2 := [(498, (upd (upd (upd a1 ((((0 : Int32) + (nI k1)) : Int32).toNatClampNeg) ((a1 (((0 : Int32) + (nI k1)) : Int32).toNatClampNeg) + 1)) ((((8 : Int32) + (nI k1)) : Int32).toNatClampNeg) 2) ((((0 : Int32) + (nI k1)) : Int32).toNatClampNeg) ((upd (upd a1 ((((0 : Int32) + (nI k1)) : Int32).toNatClampNeg) ((a1 (((0 : Int32) + (nI k1)) : Int32).toNatClampNeg) + 1)) ((((8 : Int32) + (nI k1)) : Int32).toNatClampNeg) 2) 33)))]) (r := (upd (upd a1 ((((0 : Int32) + (nI k1)) : Int32).toNatClampNeg) ((a1 (((0 : Int32) + (nI k1)) : Int32).toNatClampNeg) + 1)) ((((8 : Int32) + (nI k1)) : Int32).toNatClampNeg) 2)) rfl rfl]
          refine rr_iinc 2 1 [(0, .ref 49), (1, .ref 498), (2, .int ((nI k1) + 1))] dX10_dayEnds_92 rfl rfl (by decide) rfl ?_
          refine rr_goto dX10_dayEnds_95 ?_
          try simp only [(nI_clamp (show k1 < 2 ^ 31 by omega))] at c1
          try simp only [(nI_clamp (show k1 < 2 ^ 31 by omega))] at c5
          try simp only [(nI_clamp (show k1 < 2 ^ 31 by omega))] at c7
          simpa only [nI_1, (nI_clamp (show k1 < 2 ^ 31 by omega)), fX10_dayEnds_t_1, if_pos c1, if_pos c5, if_neg c7] using ih1
  · try dsimp only
    refine rr_iload_n 2 rfl rfl dX10_dayEnds_10 ?_
    refine rr_aload_n 0 rfl rfl dX10_dayEnds_11 ?_
    refine rr_getR dX10_dayEnds_12 fX10_23 lo_49 sh_49 rfl ?_
    refine rr_iconst 0 rfl dX10_dayEnds_15 ?_
    refine rr_iaload dX10_dayEnds_16 lo_53 sh_53 (jj_inL rfl) ?_
    rw [show (jj_rs h [(498, (jj_fo fX10_dayEnds_t_1 n (upd (h 498) (33) (((h 498) 33) + 1))))]) 53 = h 53 from rfl]
    rw [show (h 53) (0 : Int32).toNatClampNeg = (nI n) from hT]
    refine rr_icmp_ge dX10_dayEnds_17 (fun _ => ?_) (fun c => absurd (jj_le_rf _) c)
    refine rr_return dX10_dayEnds_98 rfl ?_
    simpa only [rX10_dayEnds_t_498] using kq
def fX10_copies_nt_1 (r497 : Nat → Int32) (k1 : Nat) (a1 : (Nat → Int32)) : (Nat → Int32) := (upd a1 (k1) (r497 k1))
def rX10_copies_nt_498 (r497 : Nat → Int32) (r498 : Nat → Int32) : Nat → Int32 := (jj_fo (fX10_copies_nt_1 r497) 35 r498)
set_option maxHeartbeats 1000000 in
theorem sp_X10_copies_nt {d kc ks : Nat} {h : Nat → Nat → Int32} {g : Nat → Nat → Int64} {Q : jj_Rs → jj_St → Prop}  (kq : Q (.inl none) (jj_S, 782, (jj_rs h [(498, (rX10_copies_nt_498 (h 497) (h 498)))]), g)) : jj_R mX10_copies (d + 0) kc ks (jj_S, 782, h, g) 0 [(0, .ref 497), (1, .ref 498)] [] Q := by
  refine rr_iconst 0 rfl dX10_copies_0 ?_
  refine rr_istore_n [(0, .ref 497), (1, .ref 498), (2, .int 0)] dX10_copies_1 rfl (by decide) rfl ?_
  refine jj_Rh (jj_addr (B := h) (o := 498) (r := (h 498)) rfl) ?_
  refine jj_for (fun k1 (a1 : (Nat → Int32)) => jj_R _ _ kc ks (jj_S, 782, (jj_rs h [(498, a1)]), g) 2 [(0, .ref 497), (1, .ref 498), (2, .int (nI k1))] [] Q) (fX10_copies_nt_1 (h 497)) 35 (h 498) ?_ ?_
  · intro k1 hk1 ih1
    generalize jj_fo _ k1 _ = a1 at ih1 ⊢
    try dsimp only at ih1 ⊢
    refine rr_iload_n 2 rfl rfl dX10_copies_2 ?_
    refine rr_bipush 35 rfl dX10_copies_3 ?_
    refine rr_icmp_ge dX10_copies_5 (fun c => absurd c (nI_ge (a := k1) (b := 35) (by omega) (by omega))) (fun _ => ?_)
    refine rr_aload_n 1 rfl rfl dX10_copies_8 ?_
    refine rr_iload_n 2 rfl rfl dX10_copies_9 ?_
    refine rr_aload_n 0 rfl rfl dX10_copies_10 ?_
    refine rr_iload_n 2 rfl rfl dX10_copies_11 ?_
    refine rr_iaload dX10_copies_12 lo_497 sh_497 (vp_in_nI (by omega) (by decide)) ?_
    rw [show (jj_rs h [(498, a1)]) 497 = h 497 from rfl]
    refine rr_iastore dX10_copies_13 lo_498 sh_498 (vp_in_nI (by omega) (by decide)) ?_
    rw [jj_rs_set (B := h) (L := [(498, a1)]) (L2 := [(498, (upd a1 (((nI k1) : Int32).toNatClampNeg) ((h 497) ((nI k1) : Int32).toNatClampNeg)))]) (r := a1) rfl rfl]
    refine rr_iinc 2 1 [(0, .ref 497), (1, .ref 498), (2, .int ((nI k1) + 1))] dX10_copies_14 rfl rfl (by decide) rfl ?_
    refine rr_goto dX10_copies_17 ?_
    simpa only [nI_1, (nI_clamp (show k1 < 2 ^ 31 by omega)), fX10_copies_nt_1] using ih1
  · try dsimp only
    refine rr_iload_n 2 rfl rfl dX10_copies_2 ?_
    refine rr_bipush 35 rfl dX10_copies_3 ?_
    refine rr_icmp_ge dX10_copies_5 (fun _ => ?_) (fun c => absurd (jj_le_rf _) c)
    refine rr_return dX10_copies_20 rfl ?_
    simpa only [rX10_copies_nt_498] using kq
def vX10_way (g64 : Nat → Nat → Int32) (a : Int32) (b : Int32) : Int32 := ((vX10_off (g64 (a : Int32).toNatClampNeg 2) (g64 (b : Int32).toNatClampNeg 2)) + (vX10_off (g64 (a : Int32).toNatClampNeg 3) (g64 (b : Int32).toNatClampNeg 3)))
set_option maxHeartbeats 1000000 in
theorem sp_X10_way {d kc ks : Nat} {h : Nat → Nat → Int32} {g : Nat → Nat → Int64} {Q : jj_Rs → jj_St → Prop} {a : Int32} {b : Int32} (ha : vp_in a 8) (hb : vp_in b 8) (kq : Q (.inl (some (.int (vX10_way (jj_gd h 64 8) a b)))) (jj_S, 782, h, g)) : jj_R mX10_way (d + 1) kc ks (jj_S, 782, h, g) 0 [(0, .ref 49), (1, .int a), (2, .int b)] [] Q := by
  refine rr_aload_n 0 rfl rfl dX10_way_0 ?_
  refine rr_getR dX10_way_1 fX10_31 lo_49 sh_49 rfl ?_
  refine rr_iload_n 1 rfl rfl dX10_way_4 ?_
  refine rr_aaload dX10_way_5 lo_63 sh_63 (by first | assumption | exact jj_pM hn (by assumption) | exact jj_pM hn (jj_two (by assumption)).1 | exact jj_pM hn (jj_two (by assumption)).2 | decide | omega) ?_
  refine rr_iconst 2 rfl dX10_way_6 ?_
  refine rr_iaload dX10_way_7 (lr_63 (jj_ink (i := a) (by first | assumption | exact jj_pM hn (by assumption) | exact jj_pM hn (jj_two (by assumption)).1 | exact jj_pM hn (jj_two (by assumption)).2 | decide | omega))) (sr_63 (jj_ink (i := a) (by first | assumption | exact jj_pM hn (by assumption) | exact jj_pM hn (jj_two (by assumption)).1 | exact jj_pM hn (jj_two (by assumption)).2 | decide | omega))) (jj_inL rfl) ?_
  rw [show h (64 + (a : Int32).toNatClampNeg) = jj_gd h 64 8 (a : Int32).toNatClampNeg from (jj_gd_at (jj_ink (i := a) (by first | assumption | exact jj_pM hn (by assumption) | exact jj_pM hn (jj_two (by assumption)).1 | exact jj_pM hn (jj_two (by assumption)).2 | decide | omega)))]
  rw [show jj_gd h 64 8 (a : Int32).toNatClampNeg (2 : Int32).toNatClampNeg = jj_gd h 64 8 (a : Int32).toNatClampNeg 2 from rfl]
  refine rr_aload_n 0 rfl rfl dX10_way_8 ?_
  refine rr_getR dX10_way_9 fX10_31 lo_49 sh_49 rfl ?_
  refine rr_iload_n 2 rfl rfl dX10_way_12 ?_
  refine rr_aaload dX10_way_13 lo_63 sh_63 (by first | assumption | exact jj_pM hn (by assumption) | exact jj_pM hn (jj_two (by assumption)).1 | exact jj_pM hn (jj_two (by assumption)).2 | decide | omega) ?_
  refine rr_iconst 2 rfl dX10_way_14 ?_
  refine rr_iaload dX10_way_15 (lr_63 (jj_ink (i := b) (by first | assumption | exact jj_pM hn (by assumption) | exact jj_pM hn (jj_two (by assumption)).1 | exact jj_pM hn (jj_two (by assumption)).2 | decide | omega))) (sr_63 (jj_ink (i := b) (by first | assumption | exact jj_pM hn (by assumption) | exact jj_pM hn (jj_two (by assumption)).1 | exact jj_pM hn (jj_two (by assumption)).2 | decide | omega))) (jj_inL rfl) ?_
  rw [show h (64 + (b : Int32).toNatClampNeg) = jj_gd h 64 8 (b : Int32).toNatClampNeg from (jj_gd_at (jj_ink (i := b) (by first | assumption | exact jj_pM hn (by assumption) | exact jj_pM hn (jj_two (by assumption)).1 | exact jj_pM hn (jj_two (by assumption)).2 | decide | omega)))]
  rw [show jj_gd h 64 8 (b : Int32).toNatClampNeg (2 : Int32).toNatClampNeg = jj_gd h 64 8 (b : Int32).toNatClampNeg 2 from rfl]
  refine rr_callS (As := [.int ((jj_gd h 64 8) (a : Int32).toNatClampNeg 2), .int ((jj_gd h 64 8) (b : Int32).toNatClampNeg 2)]) (rest := []) (kc2 := 0) (ks2 := 0) dX10_way_16 okX10_off lX10_327 rfl (Nat.le_of_ble_eq_true rfl) (Nat.le_of_ble_eq_true rfl) rfl (by omega) (by simp [jj_rk]) (by simp [jj_rk]) ?_
  refine sp_X10_off  ?_
  show jj_R _ _ kc ks (jj_S, 782, h, g) 19 [(0, .ref 49), (1, .int a), (2, .int b)] [.int (vX10_off ((jj_gd h 64 8) (a : Int32).toNatClampNeg 2) ((jj_gd h 64 8) (b : Int32).toNatClampNeg 2))] Q
  refine rr_aload_n 0 rfl rfl dX10_way_19 ?_
  refine rr_getR dX10_way_20 fX10_31 lo_49 sh_49 rfl ?_
  refine rr_iload_n 1 rfl rfl dX10_way_23 ?_
  refine rr_aaload dX10_way_24 lo_63 sh_63 (by first | assumption | exact jj_pM hn (by assumption) | exact jj_pM hn (jj_two (by assumption)).1 | exact jj_pM hn (jj_two (by assumption)).2 | decide | omega) ?_
  refine rr_iconst 3 rfl dX10_way_25 ?_
  refine rr_iaload dX10_way_26 (lr_63 (jj_ink (i := a) (by first | assumption | exact jj_pM hn (by assumption) | exact jj_pM hn (jj_two (by assumption)).1 | exact jj_pM hn (jj_two (by assumption)).2 | decide | omega))) (sr_63 (jj_ink (i := a) (by first | assumption | exact jj_pM hn (by assumption) | exact jj_pM hn (jj_two (by assumption)).1 | exact jj_pM hn (jj_two (by assumption)).2 | decide | omega))) (jj_inL rfl) ?_
  rw [show h (64 + (a : Int32).toNatClampNeg) = jj_gd h 64 8 (a : Int32).toNatClampNeg from (jj_gd_at (jj_ink (i := a) (by first | assumption | exact jj_pM hn (by assumption) | exact jj_pM hn (jj_two (by assumption)).1 | exact jj_pM hn (jj_two (by assumption)).2 | decide | omega)))]
  rw [show jj_gd h 64 8 (a : Int32).toNatClampNeg (3 : Int32).toNatClampNeg = jj_gd h 64 8 (a : Int32).toNatClampNeg 3 from rfl]
  refine rr_aload_n 0 rfl rfl dX10_way_27 ?_
  refine rr_getR dX10_way_28 fX10_31 lo_49 sh_49 rfl ?_
  refine rr_iload_n 2 rfl rfl dX10_way_31 ?_
  refine rr_aaload dX10_way_32 lo_63 sh_63 (by first | assumption | exact jj_pM hn (by assumption) | exact jj_pM hn (jj_two (by assumption)).1 | exact jj_pM hn (jj_two (by assumption)).2 | decide | omega) ?_
  refine rr_iconst 3 rfl dX10_way_33 ?_
  refine rr_iaload dX10_way_34 (lr_63 (jj_ink (i := b) (by first | assumption | exact jj_pM hn (by assumption) | exact jj_pM hn (jj_two (by assumption)).1 | exact jj_pM hn (jj_two (by assumption)).2 | decide | omega))) (sr_63 (jj_ink (i := b) (by first | assumption | exact jj_pM hn (by assumption) | exact jj_pM hn (jj_two (by assumption)).1 | exact jj_pM hn (jj_two (by assumption)).2 | decide | omega))) (jj_inL rfl) ?_
  rw [show h (64 + (b : Int32).toNatClampNeg) = jj_gd h 64 8 (b : Int32).toNatClampNeg from (jj_gd_at (jj_ink (i := b) (by first | assumption | exact jj_pM hn (by assumption) | exact jj_pM hn (jj_two (by assumption)).1 | exact jj_pM hn (jj_two (by assumption)).2 | decide | omega)))]
  rw [show jj_gd h 64 8 (b : Int32).toNatClampNeg (3 : Int32).toNatClampNeg = jj_gd h 64 8 (b : Int32).toNatClampNeg 3 from rfl]
  refine rr_callS (As := [.int ((jj_gd h 64 8) (a : Int32).toNatClampNeg 3), .int ((jj_gd h 64 8) (b : Int32).toNatClampNeg 3)]) (rest := [.int (vX10_off ((jj_gd h 64 8) (a : Int32).toNatClampNeg 2) ((jj_gd h 64 8) (b : Int32).toNatClampNeg 2))]) (kc2 := 0) (ks2 := 0) dX10_way_35 okX10_off lX10_327 rfl (Nat.le_of_ble_eq_true rfl) (Nat.le_of_ble_eq_true rfl) rfl (by omega) (by simp [jj_rk]) (by simp [jj_rk]) ?_
  refine sp_X10_off  ?_
  show jj_R _ _ kc ks (jj_S, 782, h, g) 38 [(0, .ref 49), (1, .int a), (2, .int b)] [.int (vX10_off ((jj_gd h 64 8) (a : Int32).toNatClampNeg 3) ((jj_gd h 64 8) (b : Int32).toNatClampNeg 3)), .int (vX10_off ((jj_gd h 64 8) (a : Int32).toNatClampNeg 2) ((jj_gd h 64 8) (b : Int32).toNatClampNeg 2))] Q
  refine rr_iadd dX10_way_38 ?_
  refine rr_ireturn dX10_way_39 rfl ?_
  simpa only [vX10_way] using kq
def fX10_inDay_1 (r497 : Nat → Int32) (w : Int32) (k1 : Nat) (a1 : Int32) : Int32 := (if (r497 (((0 : Int32) + (nI k1)) : Int32).toNatClampNeg) = w then (a1 ||| (1 <<< ((nI k1) &&& 31))) else (a1 ||| 0))
def vX10_inDay (r497 : Nat → Int32) (n : Nat) (w : Int32) : Int32 := (jj_fo (fX10_inDay_1 r497 w) n 0)
set_option maxHeartbeats 1000000 in
theorem sp_X10_inDay {d kc ks : Nat} {h : Nat → Nat → Int32} {g : Nat → Nat → Int64} {Q : jj_Rs → jj_St → Prop} {n : Nat} {w : Int32} (hT : h 53 0 = nI n) (hn : n ≤ 8) (kq : Q (.inl (some (.int (vX10_inDay (h 497) n w)))) (jj_S, 782, h, g)) : jj_R mX10_inDay (d + 0) kc ks (jj_S, 782, h, g) 0 [(0, .ref 49), (1, .int w)] [] Q := by
  refine rr_iconst 0 rfl dX10_inDay_0 ?_
  refine rr_istore_n [(0, .ref 49), (1, .int w), (2, .int 0)] dX10_inDay_1 rfl (by decide) rfl ?_
  refine rr_iconst 0 rfl dX10_inDay_2 ?_
  refine rr_istore_n [(0, .ref 49), (1, .int w), (2, .int 0), (3, .int 0)] dX10_inDay_3 rfl (by decide) rfl ?_
  refine jj_for (fun k1 (a1 : Int32) => jj_R _ _ kc ks (jj_S, 782, h, g) 4 [(0, .ref 49), (1, .int w), (2, .int a1), (3, .int (nI k1))] [] Q) (fX10_inDay_1 (h 497) w) n 0 ?_ ?_
  · intro k1 hk1 ih1
    generalize jj_fo _ k1 _ = a1 at ih1 ⊢
    try dsimp only at ih1 ⊢
    refine rr_iload_n 3 rfl rfl dX10_inDay_4 ?_
    refine rr_aload_n 0 rfl rfl dX10_inDay_5 ?_
    refine rr_getR dX10_inDay_6 fX10_23 lo_49 sh_49 rfl ?_
    refine rr_iconst 0 rfl dX10_inDay_9 ?_
    refine rr_iaload dX10_inDay_10 lo_53 sh_53 (jj_inL rfl) ?_
    rw [show (h 53) (0 : Int32).toNatClampNeg = (nI n) from hT]
    refine rr_icmp_ge dX10_inDay_11 (fun c => absurd c (nI_ge (a := k1) (b := n) (by omega) (by omega))) (fun _ => ?_)
    refine rr_iload_n 2 rfl rfl dX10_inDay_14 ?_
    refine rr_aload_n 0 rfl rfl dX10_inDay_15 ?_
    refine rr_getR dX10_inDay_16 fX10_61 lo_49 sh_49 rfl ?_
    refine rr_iconst 0 rfl dX10_inDay_19 ?_
    refine rr_iload_n 3 rfl rfl dX10_inDay_20 ?_
    refine rr_iadd dX10_inDay_21 ?_
    refine rr_iaload dX10_inDay_22 lo_497 sh_497 (jj_rowin (n := 8) (o := 0) (vp_in_nI (by omega) (by decide)) (by decide) (by decide)) ?_
    refine rr_iload_n 1 rfl rfl dX10_inDay_23 ?_
    refine rr_icmp_ne dX10_inDay_24 (fun c1 => ?_) (fun c1 => ?_)
    · skip
      refine rr_iconst 0 rfl dX10_inDay_33 ?_
      refine rr_ior dX10_inDay_34 ?_
      refine rr_istore_n [(0, .ref 49), (1, .int w), (2, .int (a1 ||| 0)), (3, .int (nI k1))] dX10_inDay_35 rfl (by decide) rfl ?_
      refine rr_iinc 3 1 [(0, .ref 49), (1, .int w), (2, .int (a1 ||| 0)), (3, .int ((nI k1) + 1))] dX10_inDay_36 rfl rfl (by decide) rfl ?_
      refine rr_goto dX10_inDay_39 ?_
      try simp only [(nI_clamp (show k1 < 2 ^ 31 by omega))] at c1
      simpa only [nI_1, (nI_clamp (show k1 < 2 ^ 31 by omega)), fX10_inDay_1, if_neg c1] using ih1
    · skip
      refine rr_iconst 1 rfl dX10_inDay_27 ?_
      refine rr_iload_n 3 rfl rfl dX10_inDay_28 ?_
      refine rr_ishl dX10_inDay_29 ?_
      refine rr_goto dX10_inDay_30 ?_
      refine rr_ior dX10_inDay_34 ?_
      refine rr_istore_n [(0, .ref 49), (1, .int w), (2, .int (a1 ||| (1 <<< ((nI k1) &&& 31)))), (3, .int (nI k1))] dX10_inDay_35 rfl (by decide) rfl ?_
      refine rr_iinc 3 1 [(0, .ref 49), (1, .int w), (2, .int (a1 ||| (1 <<< ((nI k1) &&& 31)))), (3, .int ((nI k1) + 1))] dX10_inDay_36 rfl rfl (by decide) rfl ?_
      refine rr_goto dX10_inDay_39 ?_
      try simp only [(nI_clamp (show k1 < 2 ^ 31 by omega))] at c1
      simpa only [nI_1, (nI_clamp (show k1 < 2 ^ 31 by omega)), fX10_inDay_1, if_pos c1] using ih1
  · try dsimp only
    refine rr_iload_n 3 rfl rfl dX10_inDay_4 ?_
    refine rr_aload_n 0 rfl rfl dX10_inDay_5 ?_
    refine rr_getR dX10_inDay_6 fX10_23 lo_49 sh_49 rfl ?_
    refine rr_iconst 0 rfl dX10_inDay_9 ?_
    refine rr_iaload dX10_inDay_10 lo_53 sh_53 (jj_inL rfl) ?_
    rw [show (h 53) (0 : Int32).toNatClampNeg = (nI n) from hT]
    refine rr_icmp_ge dX10_inDay_11 (fun _ => ?_) (fun c => absurd (jj_le_rf _) c)
    refine rr_iload_n 2 rfl rfl dX10_inDay_42 ?_
    refine rr_ireturn dX10_inDay_43 rfl ?_
    simpa only [vX10_inDay] using kq
def fX10_givenBy_1 (r497 : Nat → Int32) (v : Int32) (b : Int32) (k1 : Nat) (a1 : Int32) : Int32 := (if (vX10_has v (nI k1)) = 0 then (a1 + 0) else (a1 + (vX10_less b (vX10_behind_n r497 (nI k1)))))
def vX10_givenBy (r497 : Nat → Int32) (n : Nat) (v : Int32) (b : Int32) : Int32 := (jj_fo (fX10_givenBy_1 r497 v b) n 0)
set_option maxHeartbeats 1000000 in
theorem sp_X10_givenBy {d kc ks : Nat} {h : Nat → Nat → Int32} {g : Nat → Nat → Int64} {Q : jj_Rs → jj_St → Prop} {n : Nat} {v : Int32} {b : Int32} (hT : h 53 0 = nI n) (hn : n ≤ 8) (kq : Q (.inl (some (.int (vX10_givenBy (h 497) n v b)))) (jj_S, 782, h, g)) : jj_R mX10_givenBy (d + 1) kc ks (jj_S, 782, h, g) 0 [(0, .ref 49), (1, .int v), (2, .int b)] [] Q := by
  refine rr_iconst 0 rfl dX10_givenBy_0 ?_
  refine rr_istore_n [(0, .ref 49), (1, .int v), (2, .int b), (3, .int 0)] dX10_givenBy_1 rfl (by decide) rfl ?_
  refine rr_iconst 0 rfl dX10_givenBy_2 ?_
  refine rr_istore [(0, .ref 49), (1, .int v), (2, .int b), (3, .int 0), (4, .int 0)] dX10_givenBy_3 (by decide) rfl ?_
  refine jj_for (fun k1 (a1 : Int32) => jj_R _ _ kc ks (jj_S, 782, h, g) 5 [(0, .ref 49), (1, .int v), (2, .int b), (3, .int a1), (4, .int (nI k1))] [] Q) (fX10_givenBy_1 (h 497) v b) n 0 ?_ ?_
  · intro k1 hk1 ih1
    generalize jj_fo _ k1 _ = a1 at ih1 ⊢
    try dsimp only at ih1 ⊢
    refine rr_iload 4 rfl dX10_givenBy_5 ?_
    refine rr_aload_n 0 rfl rfl dX10_givenBy_7 ?_
    refine rr_getR dX10_givenBy_8 fX10_23 lo_49 sh_49 rfl ?_
    refine rr_iconst 0 rfl dX10_givenBy_11 ?_
    refine rr_iaload dX10_givenBy_12 lo_53 sh_53 (jj_inL rfl) ?_
    rw [show (h 53) (0 : Int32).toNatClampNeg = (nI n) from hT]
    refine rr_icmp_ge dX10_givenBy_13 (fun c => absurd c (nI_ge (a := k1) (b := n) (by omega) (by omega))) (fun _ => ?_)
    refine rr_iload_n 3 rfl rfl dX10_givenBy_16 ?_
    refine rr_iload_n 1 rfl rfl dX10_givenBy_17 ?_
    refine rr_iload 4 rfl dX10_givenBy_18 ?_
    refine rr_callS (As := [.int v, .int (nI k1)]) (rest := [.int a1]) (kc2 := 0) (ks2 := 0) dX10_givenBy_20 okX10_has lX10_254 rfl (Nat.le_of_ble_eq_true rfl) (Nat.le_of_ble_eq_true rfl) rfl (by omega) (by simp [jj_rk]) (by simp [jj_rk]) ?_
    refine sp_X10_has  ?_
    show jj_R _ _ kc ks (jj_S, 782, h, g) 23 [(0, .ref 49), (1, .int v), (2, .int b), (3, .int a1), (4, .int (nI k1))] [.int (vX10_has v (nI k1)), .int a1] Q
    refine rr_if_eq dX10_givenBy_23 (fun c1 => ?_) (fun c1 => ?_)
    · skip
      refine rr_iconst 0 rfl dX10_givenBy_42 ?_
      refine rr_iadd dX10_givenBy_43 ?_
      refine rr_istore_n [(0, .ref 49), (1, .int v), (2, .int b), (3, .int (a1 + 0)), (4, .int (nI k1))] dX10_givenBy_44 rfl (by decide) rfl ?_
      refine rr_iinc 4 1 [(0, .ref 49), (1, .int v), (2, .int b), (3, .int (a1 + 0)), (4, .int ((nI k1) + 1))] dX10_givenBy_45 rfl rfl (by decide) rfl ?_
      refine rr_goto dX10_givenBy_48 ?_
      try simp only [(nI_clamp (show k1 < 2 ^ 31 by omega))] at c1
      simpa only [nI_1, (nI_clamp (show k1 < 2 ^ 31 by omega)), fX10_givenBy_1, if_pos c1] using ih1
    · skip
      refine rr_iload_n 2 rfl rfl dX10_givenBy_26 ?_
      refine rr_aload_n 0 rfl rfl dX10_givenBy_27 ?_
      refine rr_getR dX10_givenBy_28 fX10_61 lo_49 sh_49 rfl ?_
      refine rr_iload 4 rfl dX10_givenBy_31 ?_
      refine rr_callS (As := [.ref 497, .int (nI k1)]) (rest := [.int b, .int a1]) (kc2 := 0) (ks2 := 0) dX10_givenBy_33 okX10_behind lX10_260 rfl (Nat.le_of_ble_eq_true rfl) (Nat.le_of_ble_eq_true rfl) rfl (by omega) (by simp [jj_rk]) (by simp [jj_rk]) ?_
      refine sp_X10_behind_n (vp_in_nI (by omega) (by decide)) ?_
      show jj_R _ _ kc ks (jj_S, 782, h, g) 36 [(0, .ref 49), (1, .int v), (2, .int b), (3, .int a1), (4, .int (nI k1))] [.int (vX10_behind_n (h 497) (nI k1)), .int b, .int a1] Q
      refine rr_callS (As := [.int b, .int (vX10_behind_n (h 497) (nI k1))]) (rest := [.int a1]) (kc2 := 0) (ks2 := 0) dX10_givenBy_36 okX10_less lX10_235 rfl (Nat.le_of_ble_eq_true rfl) (Nat.le_of_ble_eq_true rfl) rfl (by omega) (by simp [jj_rk]) (by simp [jj_rk]) ?_
      refine sp_X10_less  ?_
      show jj_R _ _ kc ks (jj_S, 782, h, g) 39 [(0, .ref 49), (1, .int v), (2, .int b), (3, .int a1), (4, .int (nI k1))] [.int (vX10_less b (vX10_behind_n (h 497) (nI k1))), .int a1] Q
      refine rr_goto dX10_givenBy_39 ?_
      refine rr_iadd dX10_givenBy_43 ?_
      refine rr_istore_n [(0, .ref 49), (1, .int v), (2, .int b), (3, .int (a1 + (vX10_less b (vX10_behind_n (h 497) (nI k1))))), (4, .int (nI k1))] dX10_givenBy_44 rfl (by decide) rfl ?_
      refine rr_iinc 4 1 [(0, .ref 49), (1, .int v), (2, .int b), (3, .int (a1 + (vX10_less b (vX10_behind_n (h 497) (nI k1))))), (4, .int ((nI k1) + 1))] dX10_givenBy_45 rfl rfl (by decide) rfl ?_
      refine rr_goto dX10_givenBy_48 ?_
      try simp only [(nI_clamp (show k1 < 2 ^ 31 by omega))] at c1
      simpa only [nI_1, (nI_clamp (show k1 < 2 ^ 31 by omega)), fX10_givenBy_1, if_neg c1] using ih1
  · try dsimp only
    refine rr_iload 4 rfl dX10_givenBy_5 ?_
    refine rr_aload_n 0 rfl rfl dX10_givenBy_7 ?_
    refine rr_getR dX10_givenBy_8 fX10_23 lo_49 sh_49 rfl ?_
    refine rr_iconst 0 rfl dX10_givenBy_11 ?_
    refine rr_iaload dX10_givenBy_12 lo_53 sh_53 (jj_inL rfl) ?_
    rw [show (h 53) (0 : Int32).toNatClampNeg = (nI n) from hT]
    refine rr_icmp_ge dX10_givenBy_13 (fun _ => ?_) (fun c => absurd (jj_le_rf _) c)
    refine rr_iload_n 3 rfl rfl dX10_givenBy_51 ?_
    refine rr_ireturn dX10_givenBy_52 rfl ?_
    simpa only [vX10_givenBy] using kq
def vX10_draw (r49 : Nat → Int32) (q : Nat) : Int32 := ((((((r49 45) * 1103515245) + 12345) >>> ((16 : Int32) &&& 31)) &&& 32767) - (((((r49 45) * 1103515245) + 12345) >>> ((16 : Int32) &&& 31)) &&& 32767) / (nI q) * (nI q))
def rX10_draw_49 (r49 : Nat → Int32) (q : Nat) : Nat → Int32 := (upd r49 (45) (((r49 45) * 1103515245) + 12345))
set_option maxHeartbeats 1000000 in
theorem sp_X10_draw {d kc ks : Nat} {h : Nat → Nat → Int32} {g : Nat → Nat → Int64} {Q : jj_Rs → jj_St → Prop} {q : Nat} {q_ : Int32} (hq_ : q_ = nI q) (h0 : 0 < q) (hn : q ≤ 16) (kq : Q (.inl (some (.int (vX10_draw (h 49) q)))) (jj_S, 782, (jj_rs h [(49, (rX10_draw_49 (h 49) q))]), g)) : jj_R mX10_draw (d + 0) kc ks (jj_S, 782, h, g) 0 [(0, .ref 49), (1, .int q_)] [] Q := by
  subst hq_
  refine rr_aload_n 0 rfl rfl dX10_draw_0 ?_
  refine rr_aload_n 0 rfl rfl dX10_draw_1 ?_
  refine rr_getI dX10_draw_2 fX10_372 lo_49 sh_49 rfl ?_
  refine rr_ldc_w kX10_375 dX10_draw_5 ?_
  refine rr_imul dX10_draw_8 ?_
  refine rr_sipush 12345 rfl dX10_draw_9 ?_
  refine rr_iadd dX10_draw_12 ?_
  refine rr_putI dX10_draw_13 fX10_372 ni10_45 lo_49 sh_49 rfl ?_
  rw [jj_rs_set0 (B := h) (o := 49) (r := (h 49)) rfl]
  refine rr_aload_n 0 rfl rfl dX10_draw_16 ?_
  refine rr_getI dX10_draw_17 fX10_372 lo_49 sh_49 rfl ?_
  rw [show (jj_rs h [(49, (upd (h 49) (45) ((((h 49) 45) * 1103515245) + 12345)))]) 49 = (upd (h 49) (45) ((((h 49) 45) * 1103515245) + 12345)) from rfl]
  rw [show (upd (h 49) (45) ((((h 49) 45) * 1103515245) + 12345)) 45 = ((((h 49) 45) * 1103515245) + 12345) from rfl]
  refine rr_bipush 16 rfl dX10_draw_20 ?_
  refine rr_ishr dX10_draw_22 ?_
  refine rr_sipush 32767 rfl dX10_draw_23 ?_
  refine rr_iand dX10_draw_26 ?_
  refine rr_iload_n 1 rfl rfl dX10_draw_27 ?_
  refine rr_irem (by first | assumption | exact jj_pM hn (by assumption) | exact jj_pM hn (jj_two (by assumption)).1 | exact jj_pM hn (jj_two (by assumption)).2 | exact nI_ne0 (by omega) (by omega) | decide | omega) dX10_draw_28 ?_
  refine rr_ireturn dX10_draw_29 rfl ?_
  simpa only [vX10_draw, rX10_draw_49] using kq
