/-! ===== the reference's dry ===== -/
def exN (q : Nat) : Nat → Nat → Nat
  | 0, i => if i = 0 then 1 else 0
  | e + 1, i => exN q e i * q + (if i = 0 then 0 else exN q e (i - 1) * (16 - q))
def exS (q N : Nat) : Nat → Nat → Nat
  | 0, _ => 0
  | f + 1, i => exN q N i + exS q N f (i + 1)
theorem m1_ (x : Int32) : x + (-1) = x - 1 := (Int32.sub_eq_add_neg x 1).symm
theorem pr_cl {j : Nat} (h : 0 < j) (hj : j < 14) : (nI j - 1).toNatClampNeg = j - 1 := by
  obtain ⟨k, rfl⟩ : ∃ k, j = k + 1 := ⟨j - 1, by omega⟩
  rw [nI_pred, nI_clamp (by omega)]; rfl
theorem pr_in {j : Nat} (h : ¬ nI j ≤ 0) (hj : j < 14) : vp_in (nI j - 1) 14 := by
  have h0 : 0 < j := jj_np (by omega) h
  obtain ⟨k, rfl⟩ : ∃ k, j = k + 1 := ⟨j - 1, by omega⟩
  rw [nI_pred]
  exact vp_in_nI (by omega) (by decide)
theorem sh16 : ∀ N, N ≤ 12 → ((1 : Int64) <<< ((((4 : Int32) * nI N) : Int32).toInt64 &&& 63)) = lN (16 ^ N) := by decide +kernel
theorem exN_le {q : Nat} (hq : q ≤ 16) : ∀ e i, exN q e i ≤ 16 ^ e
  | 0, i => by
    show (if i = 0 then 1 else 0) ≤ 1
    split <;> omega
  | e + 1, i => by
    show exN q e i * q + (if i = 0 then 0 else exN q e (i - 1) * (16 - q)) ≤ 16 ^ e * 16
    have h1 : exN q e i * q ≤ 16 ^ e * q := Nat.mul_le_mul_right q (exN_le hq e i)
    have h2 : exN q e (i - 1) * (16 - q) ≤ 16 ^ e * (16 - q) := Nat.mul_le_mul_right _ (exN_le hq e (i - 1))
    have h3 : 16 ^ e * 16 = 16 ^ e * q + 16 ^ e * (16 - q) := by rw [← Nat.mul_add]; congr 1; omega
    split <;> omega
theorem exS_le {q N : Nat} (hq : q ≤ 16) : ∀ f i, exS q N f i ≤ f * 16 ^ N
  | 0, _ => Nat.zero_le _
  | f + 1, i => by
    show exN q N i + exS q N f (i + 1) ≤ _
    have := exN_le hq N i
    have := exS_le (N := N) hq f (i + 1)
    rw [Nat.add_mul, Nat.one_mul]; omega
theorem u3_at {g : Nat → Nat → Int64} {o k j : Nat} {v : Int64} : jj_u3 g o k v o j = if j = k then v else g o j := by
  unfold jj_u3
  by_cases e : j = k
  · rw [if_pos ⟨rfl, e⟩, if_pos e]
  · rw [if_neg (fun z => e z.2), if_neg e]
theorem u3_ne {g : Nat → Nat → Int64} {o k a : Nat} {v : Int64} (h : ¬ a = o) : jj_u3 g o k v a = g a := by
  funext j
  exact if_neg (fun z => h z.1)
set_option maxHeartbeats 2000000 in
theorem dr_1 {N K q : Nat} {w : Int32} {D kc ks : Nat} {GG : Nat → Int64} {h : hp_} {Q : jj_Rs → jj_St → Prop} (f : Nat) : ∀ (i : Nat) (g : Nat → Nat → Int64), i + f = 14 → g 781 = GG → (∀ j, j < i → g 780 j = lN (exN q 0 j)) → (∀ g2, g2 781 = GG → (∀ j, j < 14 → g2 780 j = lN (exN q 0 j)) → jj_R mX10_dry D kc ks (jj_S, 782, h, g2) 94 [(0, .ref 49), (1, .int (nI N)), (2, .int (nI K)), (3, .int (nI q)), (4, .int w)] [] Q) → jj_R mX10_dry D kc ks (jj_S, 782, h, g) 64 [(0, .ref 49), (1, .int (nI N)), (2, .int (nI K)), (3, .int (nI q)), (4, .int w), (5, .int (nI i))] [] Q := by
  induction f with
  | zero =>
    intro i g hi hG hg k1
    refine rr_iload 5 rfl dX10_dry_64 ?_
    refine rr_bipush 14 rfl dX10_dry_66 ?_
    refine rr_icmp_ge dX10_dry_68 (fun _ => ?_) (fun c => absurd (nI_le (a := 14) (by omega) (by omega)) c)
    refine rr_drop (ls := [(0, .ref 49), (1, .int (nI N)), (2, .int (nI K)), (3, .int (nI q)), (4, .int w)]) [0, 1, 2, 3, 4] rfl ?_
    exact k1 g hG (fun j hj => hg j (by omega))
  | succ f ih =>
    intro i g hi hG hg k1
    refine rr_iload 5 rfl dX10_dry_64 ?_
    refine rr_bipush 14 rfl dX10_dry_66 ?_
    refine rr_icmp_ge dX10_dry_68 (fun c => absurd c (nI_ge (b := 14) (by omega) (by decide))) (fun _ => ?_)
    refine rr_aload_n 0 rfl rfl dX10_dry_71 ?_
    refine rr_getR dX10_dry_72 fX10_85 lo_49 sh_49 rfl ?_
    refine rr_iload 5 rfl dX10_dry_75 ?_
    refine rr_iload 5 rfl dX10_dry_77 ?_
    refine rr_if_ne dX10_dry_79 (fun c1 => ?_) (fun c1 => ?_)
    · skip
      refine rr_lconst 0 rfl dX10_dry_86 ?_
      refine rr_lastore dX10_dry_87 lo_780 sh_780 (vp_in_nI (by omega) (by decide)) ?_
      refine rr_iinc 5 1 [(0, .ref 49), (1, .int (nI N)), (2, .int (nI K)), (3, .int (nI q)), (4, .int w), (5, .int ((nI i) + 1))] dX10_dry_88 rfl rfl (by decide) rfl ?_
      refine rr_goto dX10_dry_91 ?_
      rw [nI_1, nI_clamp (show i < 2 ^ 31 by omega)]
      refine ih (i + 1) _ (by omega) ((u3_ne (by decide)).trans hG) (fun j hj => ?_) k1
      rw [u3_at]
      by_cases e : j = i
      · rw [if_pos e, e]
        show _ = lN (if i = 0 then 1 else 0)
        by_cases i0 : i = 0
        · rw [if_pos i0]; first | rfl | (exfalso; exact c1 (by rw [i0]; rfl))
        · rw [if_neg i0]; first | rfl | (exfalso; exact nI_ne0 (by omega) (by omega) c1)
      · rw [if_neg e]; exact hg j (by omega)
    · skip
      refine rr_lconst 1 rfl dX10_dry_82 ?_
      refine rr_goto dX10_dry_83 ?_
      refine rr_lastore dX10_dry_87 lo_780 sh_780 (vp_in_nI (by omega) (by decide)) ?_
      refine rr_iinc 5 1 [(0, .ref 49), (1, .int (nI N)), (2, .int (nI K)), (3, .int (nI q)), (4, .int w), (5, .int ((nI i) + 1))] dX10_dry_88 rfl rfl (by decide) rfl ?_
      refine rr_goto dX10_dry_91 ?_
      rw [nI_1, nI_clamp (show i < 2 ^ 31 by omega)]
      refine ih (i + 1) _ (by omega) ((u3_ne (by decide)).trans hG) (fun j hj => ?_) k1
      rw [u3_at]
      by_cases e : j = i
      · rw [if_pos e, e]
        show _ = lN (if i = 0 then 1 else 0)
        by_cases i0 : i = 0
        · rw [if_pos i0]; first | rfl | (exfalso; exact c1 (by rw [i0]; rfl))
        · rw [if_neg i0]; first | rfl | (exfalso; exact nI_ne0 (by omega) (by omega) c1)
      · rw [if_neg e]; exact hg j (by omega)
set_option maxHeartbeats 2000000 in
theorem dr_2 {N K q : Nat} {w : Int32} {D kc ks : Nat} {GG : Nat → Int64} {h : hp_} {Q : jj_Rs → jj_St → Prop} {e : Nat} (hq : q ≤ 16) : ∀ (i : Nat) (g : Nat → Nat → Int64), i ≤ 14 → g 781 = GG → (∀ j, i ≤ j → j < 14 → g 780 j = lN (exN q (e + 1) j)) → (∀ j, j < i → g 780 j = lN (exN q e j)) → (∀ g2, g2 781 = GG → (∀ j, j < 14 → g2 780 j = lN (exN q (e + 1) j)) → jj_R mX10_dry D kc ks (jj_S, 782, h, g2) 160 [(0, .ref 49), (1, .int (nI N)), (2, .int (nI K)), (3, .int (nI q)), (4, .int w), (5, .int (nI e))] [] Q) → jj_R mX10_dry D kc ks (jj_S, 782, h, g) 107 [(0, .ref 49), (1, .int (nI N)), (2, .int (nI K)), (3, .int (nI q)), (4, .int w), (5, .int (nI e)), (6, .int (nI i - 1))] [] Q := by
  intro i
  induction i with
  | zero =>
    intro g hi hG h2 h3 k1
    refine rr_iload 6 rfl dX10_dry_107 ?_
    refine rr_if_lt dX10_dry_109 (fun _ => ?_) (fun c => absurd (by decide) c)
    refine rr_drop (ls := [(0, .ref 49), (1, .int (nI N)), (2, .int (nI K)), (3, .int (nI q)), (4, .int w), (5, .int (nI e))]) [0, 1, 2, 3, 4, 5] rfl ?_
    exact k1 g hG (fun j hj => h2 j (by omega) hj)
  | succ i ih =>
    intro g hi hG h2 h3 k1
    rw [nI_pred]
    refine rr_iload 6 rfl dX10_dry_107 ?_
    refine rr_if_lt dX10_dry_109 (fun c => absurd c (nI_pos (by omega))) (fun _ => ?_)
    refine rr_aload_n 0 rfl rfl dX10_dry_112 ?_
    refine rr_getR dX10_dry_113 fX10_85 lo_49 sh_49 rfl ?_
    refine rr_iload 6 rfl dX10_dry_116 ?_
    refine rr_aload_n 0 rfl rfl dX10_dry_118 ?_
    refine rr_getR dX10_dry_119 fX10_85 lo_49 sh_49 rfl ?_
    refine rr_iload 6 rfl dX10_dry_122 ?_
    refine rr_laload dX10_dry_124 lo_780 sh_780 (vp_in_nI (by omega) (by decide)) ?_
    refine rr_iload_n 3 rfl rfl dX10_dry_125 ?_
    refine rr_i2l dX10_dry_126 ?_
    refine rr_lmul dX10_dry_127 ?_
    refine rr_iload 6 rfl dX10_dry_128 ?_
    refine rr_if_le dX10_dry_130 (fun c1 => ?_) (fun c1 => ?_)
    · skip
      refine rr_lconst 0 rfl dX10_dry_151 ?_
      refine rr_ladd dX10_dry_152 ?_
      refine rr_lastore dX10_dry_153 lo_780 sh_780 (vp_in_nI (by omega) (by decide)) ?_
      refine rr_iinc 6 (-1) [(0, .ref 49), (1, .int (nI N)), (2, .int (nI K)), (3, .int (nI q)), (4, .int w), (5, .int (nI e)), (6, .int ((nI i) + (-1)))] dX10_dry_154 rfl rfl (by decide) rfl ?_
      refine rr_goto dX10_dry_157 ?_
      rw [m1_]
      refine ih _ (by omega) ((u3_ne (by decide)).trans hG) (fun j hj h14 => ?_) (fun j hj => ?_) k1
      · rw [u3_at, nI_clamp (show i < 2 ^ 31 by omega)]
        by_cases ej : j = i
        · rw [if_pos ej, ej, h3 i (by omega)]
          have lq : (nI q).toInt64 = lN q := nI_l (by omega)
          rw [lq, lN_mul]
          show _ = lN (exN q e i * q + (if i = 0 then 0 else exN q e (i - 1) * (16 - q)))
          have i0 : i = 0 := by
            rcases Nat.eq_zero_or_pos i with y | y
            · exact y
            · exact absurd c1 (nI_nle y (by omega))
          rw [if_pos i0, Nat.add_zero]
          exact Int64.add_zero _
        · rw [if_neg ej]; exact h2 j (by omega) h14
      · rw [u3_at, nI_clamp (show i < 2 ^ 31 by omega), if_neg (by omega)]; exact h3 j (by omega)
    · skip
      refine rr_aload_n 0 rfl rfl dX10_dry_133 ?_
      refine rr_getR dX10_dry_134 fX10_85 lo_49 sh_49 rfl ?_
      refine rr_iload 6 rfl dX10_dry_137 ?_
      refine rr_iconst 1 rfl dX10_dry_139 ?_
      refine rr_isub dX10_dry_140 ?_
      refine rr_laload dX10_dry_141 lo_780 sh_780 (pr_in (by assumption) (by omega)) ?_
      refine rr_bipush 16 rfl dX10_dry_142 ?_
      refine rr_iload_n 3 rfl rfl dX10_dry_144 ?_
      refine rr_isub dX10_dry_145 ?_
      refine rr_i2l dX10_dry_146 ?_
      refine rr_lmul dX10_dry_147 ?_
      refine rr_goto dX10_dry_148 ?_
      refine rr_ladd dX10_dry_152 ?_
      refine rr_lastore dX10_dry_153 lo_780 sh_780 (vp_in_nI (by omega) (by decide)) ?_
      refine rr_iinc 6 (-1) [(0, .ref 49), (1, .int (nI N)), (2, .int (nI K)), (3, .int (nI q)), (4, .int w), (5, .int (nI e)), (6, .int ((nI i) + (-1)))] dX10_dry_154 rfl rfl (by decide) rfl ?_
      refine rr_goto dX10_dry_157 ?_
      rw [m1_]
      refine ih _ (by omega) ((u3_ne (by decide)).trans hG) (fun j hj h14 => ?_) (fun j hj => ?_) k1
      · rw [u3_at, nI_clamp (show i < 2 ^ 31 by omega)]
        by_cases ej : j = i
        · rw [if_pos ej, ej, h3 i (by omega)]
          have lq : (nI q).toInt64 = lN q := nI_l (by omega)
          rw [lq, lN_mul]
          show _ = lN (exN q e i * q + (if i = 0 then 0 else exN q e (i - 1) * (16 - q)))
          have i0 : 0 < i := jj_np (by omega) c1
          rw [if_neg (by omega), pr_cl i0 (by omega), h3 (i - 1) (by omega), show ((16 : Int32) - nI q) = nI (16 - q) from pk_sub (a := 16) hq, nI_l (by omega), lN_mul, lN_add]
        · rw [if_neg ej]; exact h2 j (by omega) h14
      · rw [u3_at, nI_clamp (show i < 2 ^ 31 by omega), if_neg (by omega)]; exact h3 j (by omega)
set_option maxHeartbeats 2000000 in
theorem dr_3 {N K q : Nat} {w : Int32} {D kc ks : Nat} {GG : Nat → Int64} {h : hp_} {Q : jj_Rs → jj_St → Prop} (hN : N ≤ 12) (hq : q ≤ 16) (f : Nat) : ∀ (e : Nat) (g : Nat → Nat → Int64), e + f = N → g 781 = GG → (∀ j, j < 14 → g 780 j = lN (exN q e j)) → (∀ g2, g2 781 = GG → (∀ j, j < 14 → g2 780 j = lN (exN q N j)) → jj_R mX10_dry D kc ks (jj_S, 782, h, g2) 166 [(0, .ref 49), (1, .int (nI N)), (2, .int (nI K)), (3, .int (nI q)), (4, .int w)] [] Q) → jj_R mX10_dry D kc ks (jj_S, 782, h, g) 97 [(0, .ref 49), (1, .int (nI N)), (2, .int (nI K)), (3, .int (nI q)), (4, .int w), (5, .int (nI e))] [] Q := by
  induction f with
  | zero =>
    intro e g hi hG hg k1
    refine rr_iload 5 rfl dX10_dry_97 ?_
    refine rr_iload_n 1 rfl rfl dX10_dry_99 ?_
    refine rr_icmp_ge dX10_dry_100 (fun _ => ?_) (fun c => absurd (nI_le (by omega) (by omega)) c)
    refine rr_drop (ls := [(0, .ref 49), (1, .int (nI N)), (2, .int (nI K)), (3, .int (nI q)), (4, .int w)]) [0, 1, 2, 3, 4] rfl ?_
    have eN : e = N := by omega
    subst eN
    exact k1 g hG hg
  | succ f ih =>
    intro e g hi hG hg k1
    refine rr_iload 5 rfl dX10_dry_97 ?_
    refine rr_iload_n 1 rfl rfl dX10_dry_99 ?_
    refine rr_icmp_ge dX10_dry_100 (fun c => absurd c (nI_ge (by omega) (by omega))) (fun _ => ?_)
    refine rr_bipush 13 rfl dX10_dry_103 ?_
    refine rr_istore [(0, .ref 49), (1, .int (nI N)), (2, .int (nI K)), (3, .int (nI q)), (4, .int w), (5, .int (nI e)), (6, .int 13)] dX10_dry_105 (by decide) rfl ?_
    refine dr_2 (i := 14) hq _ (Nat.le_refl _) hG (fun j a b => absurd b (by omega)) hg (fun g2 hG2 hg2 => ?_)
    refine rr_iinc 5 1 [(0, .ref 49), (1, .int (nI N)), (2, .int (nI K)), (3, .int (nI q)), (4, .int w), (5, .int ((nI e) + 1))] dX10_dry_160 rfl rfl (by decide) rfl ?_
    refine rr_goto dX10_dry_163 ?_
    rw [nI_1]
    exact ih (e + 1) g2 (by omega) hG2 hg2 k1
set_option maxHeartbeats 2000000 in
theorem dr_4 {N K q : Nat} {w : Int32} {D kc ks : Nat} {h : hp_} {Q : jj_Rs → jj_St → Prop} {g : Nat → Nat → Int64} {y : Int64} (hg : ∀ j, j < 14 → g 780 j = lN (exN q N j)) (f : Nat) : ∀ (i s : Nat), i + f = 14 → (∀ s2, s2 = s + exS q N f i → jj_R mX10_dry D kc ks (jj_S, 782, h, g) 204 [(0, .ref 49), (1, .int (nI N)), (2, .int (nI K)), (3, .int (nI q)), (4, .int w), (5, .long (lN s2)), (7, .long y)] [] Q) → jj_R mX10_dry D kc ks (jj_S, 782, h, g) 179 [(0, .ref 49), (1, .int (nI N)), (2, .int (nI K)), (3, .int (nI q)), (4, .int w), (5, .long (lN s)), (7, .long y), (9, .int (nI i))] [] Q := by
  induction f with
  | zero =>
    intro i s hi k1
    refine rr_iload 7 rfl dX10_dry_179 ?_
    refine rr_bipush 14 rfl dX10_dry_181 ?_
    refine rr_icmp_ge dX10_dry_183 (fun _ => ?_) (fun c => absurd (nI_le (a := 14) (by omega) (by omega)) c)
    refine rr_drop (ls := [(0, .ref 49), (1, .int (nI N)), (2, .int (nI K)), (3, .int (nI q)), (4, .int w), (5, .long (lN s)), (7, .long y)]) [0, 1, 2, 3, 4, 5, 7] rfl ?_
    exact k1 s (by simp [exS])
  | succ f ih =>
    intro i s hi k1
    refine rr_iload 7 rfl dX10_dry_179 ?_
    refine rr_bipush 14 rfl dX10_dry_181 ?_
    refine rr_icmp_ge dX10_dry_183 (fun c => absurd c (nI_ge (b := 14) (by omega) (by decide))) (fun _ => ?_)
    refine rr_lload 5 rfl dX10_dry_186 ?_
    refine rr_aload_n 0 rfl rfl dX10_dry_188 ?_
    refine rr_getR dX10_dry_189 fX10_85 lo_49 sh_49 rfl ?_
    refine rr_iload 7 rfl dX10_dry_192 ?_
    refine rr_laload dX10_dry_194 lo_780 sh_780 (vp_in_nI (by omega) (by decide)) ?_
    refine rr_ladd dX10_dry_195 ?_
    refine rr_lstore [(0, .ref 49), (1, .int (nI N)), (2, .int (nI K)), (3, .int (nI q)), (4, .int w), (5, .long ((lN s) + (g 780 ((nI i) : Int32).toNatClampNeg))), (7, .long y), (9, .int (nI i))] dX10_dry_196 (by decide) rfl ?_
    refine rr_iinc 7 1 [(0, .ref 49), (1, .int (nI N)), (2, .int (nI K)), (3, .int (nI q)), (4, .int w), (5, .long ((lN s) + (g 780 ((nI i) : Int32).toNatClampNeg))), (7, .long y), (9, .int ((nI i) + 1))] dX10_dry_198 rfl rfl (by decide) rfl ?_
    refine rr_goto dX10_dry_201 ?_
    rw [nI_1, nI_clamp (show i < 2 ^ 31 by omega), hg i (by omega), lN_add]
    refine ih (i + 1) _ (by omega) (fun s2 es => k1 s2 ?_)
    rw [es]
    show s + exN q N i + exS q N f (i + 1) = s + (exN q N i + exS q N f (i + 1))
    omega
set_option maxHeartbeats 2000000 in
theorem dr_5 {N K q : Nat} {w : Int32} {D kc ks : Nat} {h : hp_} {Q : jj_Rs → jj_St → Prop} {g : Nat → Nat → Int64} {x y : Int64} (f : Nat) : ∀ {A B : Nat}, A < 2 ^ 62 → B < 2 ^ 62 → B ≤ f → (∀ G, G = Nat.gcd A B → jj_R mX10_dry D kc ks (jj_S, 782, h, g) 237 [(0, .ref 49), (1, .int (nI N)), (2, .int (nI K)), (3, .int (nI q)), (4, .int w), (5, .long x), (7, .long y), (9, .long (lN G))] [] Q) → jj_R mX10_dry D kc ks (jj_S, 782, h, g) 212 [(0, .ref 49), (1, .int (nI N)), (2, .int (nI K)), (3, .int (nI q)), (4, .int w), (5, .long x), (7, .long y), (9, .long (lN A)), (11, .long (lN B))] [] Q := by
  induction f with
  | zero =>
    intro A B hA hB hf k1
    refine rr_lload 8 rfl dX10_dry_212 ?_
    refine rr_lconst 0 rfl dX10_dry_214 ?_
    refine rr_lcmp dX10_dry_215 ?_
    refine rr_if_eq dX10_dry_216 (fun c1 => ?_) (fun c1 => ?_)
    · skip
      refine rr_drop (ls := [(0, .ref 49), (1, .int (nI N)), (2, .int (nI K)), (3, .int (nI q)), (4, .int w), (5, .long x), (7, .long y), (9, .long (lN A))]) [0, 1, 2, 3, 4, 5, 7, 9] rfl ?_
      have b0 : B = 0 := by
        have z := (lg_cmp_eq _ _).mp c1
        exact (pk_lEQ (a := B) (b := 0) (by omega) (by decide)).mp z
      exact k1 A (by rw [b0, Nat.gcd_zero_right])
    · skip
      have b0 : ¬ B = 0 := fun z => c1 ((lg_cmp_eq _ _).mpr (by rw [z]; rfl))
      exact absurd hf (by omega)
  | succ f ih =>
    intro A B hA hB hf k1
    refine rr_lload 8 rfl dX10_dry_212 ?_
    refine rr_lconst 0 rfl dX10_dry_214 ?_
    refine rr_lcmp dX10_dry_215 ?_
    refine rr_if_eq dX10_dry_216 (fun c1 => ?_) (fun c1 => ?_)
    · skip
      refine rr_drop (ls := [(0, .ref 49), (1, .int (nI N)), (2, .int (nI K)), (3, .int (nI q)), (4, .int w), (5, .long x), (7, .long y), (9, .long (lN A))]) [0, 1, 2, 3, 4, 5, 7, 9] rfl ?_
      have b0 : B = 0 := by
        have z := (lg_cmp_eq _ _).mp c1
        exact (pk_lEQ (a := B) (b := 0) (by omega) (by decide)).mp z
      exact k1 A (by rw [b0, Nat.gcd_zero_right])
    · skip
      have b0 : ¬ B = 0 := fun z => c1 ((lg_cmp_eq _ _).mpr (by rw [z]; rfl))
      refine rr_lload 7 rfl dX10_dry_219 ?_
      refine rr_lload 8 rfl dX10_dry_221 ?_
      refine rr_lrem (fun z => b0 ((pk_lEQ (a := B) (b := 0) (by omega) (by decide)).mp z)) dX10_dry_223 ?_
      refine rr_lstore [(0, .ref 49), (1, .int (nI N)), (2, .int (nI K)), (3, .int (nI q)), (4, .int w), (5, .long x), (7, .long y), (9, .long (lN A)), (11, .long (lN B)), (13, .long ((lN A) - (lN A) / (lN B) * (lN B)))] dX10_dry_224 (by decide) rfl ?_
      refine rr_lload 8 rfl dX10_dry_226 ?_
      refine rr_lstore [(0, .ref 49), (1, .int (nI N)), (2, .int (nI K)), (3, .int (nI q)), (4, .int w), (5, .long x), (7, .long y), (9, .long (lN B)), (11, .long (lN B)), (13, .long ((lN A) - (lN A) / (lN B) * (lN B)))] dX10_dry_228 (by decide) rfl ?_
      refine rr_lload 9 rfl dX10_dry_230 ?_
      refine rr_lstore [(0, .ref 49), (1, .int (nI N)), (2, .int (nI K)), (3, .int (nI q)), (4, .int w), (5, .long x), (7, .long y), (9, .long (lN B)), (11, .long ((lN A) - (lN A) / (lN B) * (lN B))), (13, .long ((lN A) - (lN A) / (lN B) * (lN B)))] dX10_dry_232 (by decide) rfl ?_
      refine rr_goto dX10_dry_234 ?_
      rw [pk_lRem (by omega) (by omega) (by omega)]
      refine rr_drop (ls := [(0, .ref 49), (1, .int (nI N)), (2, .int (nI K)), (3, .int (nI q)), (4, .int w), (5, .long x), (7, .long y), (9, .long (lN B)), (11, .long (lN (A % B)))]) [0, 1, 2, 3, 4, 5, 7, 9, 11] rfl ?_
      have ml := Nat.mod_lt A (show 0 < B by omega)
      exact ih (by omega) (by omega) (by omega) (fun G eG => k1 G (by rw [eG, Nat.gcd_comm A B, Nat.gcd_rec B A, Nat.gcd_comm]))
set_option maxHeartbeats 4000000 in
theorem dr_0 {N K q : Nat} {w : Int32} {D kc ks : Nat} {h : hp_} {g : Nat → Nat → Int64} {Q : jj_Rs → jj_St → Prop} (hD : 2 ≤ D) (hN : N ≤ 12) (hK : K ≤ 13) (hq : q ≤ 16) (hw : ¬ vX10_in w 0 1 = 0) (ht : h 49 0 = 0) (k1 : ∀ g2, g2 781 = g 781 → Q (.inl (some (.long (lN (if w = 0 then exS q N (14 - K) K / Nat.gcd (16 ^ N) (exS q N (14 - K) K) else 16 ^ N / Nat.gcd (16 ^ N) (exS q N (14 - K) K)))))) (jj_S, 782, h, g2)) : jj_R mX10_dry D kc ks (jj_S, 782, h, g) 5 [(0, .ref 49), (1, .int (nI N)), (2, .int (nI K)), (3, .int (nI q)), (4, .int w)] [] Q := by
  obtain ⟨D, rfl⟩ : ∃ d, D = d + 2 := ⟨D - 2, by omega⟩
  refine rr_aload_n 0 rfl rfl dX10_dry_5 ?_
  refine rr_iload_n 1 rfl rfl dX10_dry_6 ?_
  refine rr_iconst 0 rfl dX10_dry_7 ?_
  refine rr_bipush 12 rfl dX10_dry_8 ?_
  refine rr_callS (As := [.int (nI N), .int 0, .int 12]) (rest := [.ref 49]) (kc2 := 0) (ks2 := 0) dX10_dry_10 okX10_in lX10_129 rfl (Nat.le_of_ble_eq_true rfl) (Nat.le_of_ble_eq_true rfl) rfl (by omega) (by simp [jj_rk]) (by simp [jj_rk]) ?_
  refine sp_X10_in  ?_
  show jj_R _ _ kc ks (jj_S, 782, h, g) 13 [(0, .ref 49), (1, .int (nI N)), (2, .int (nI K)), (3, .int (nI q)), (4, .int w)] [.int (vX10_in (nI N) 0 12), .ref 49] Q
  refine rr_if_eq dX10_dry_13 (fun c => absurd c (show ¬ vX10_in (nI N) 0 12 = 0 by rw [show vX10_in (nI N) 0 12 = 1 from in_T (T := 12) (by omega) (by decide)]; decide)) (fun _ => ?_)
  refine rr_iload_n 2 rfl rfl dX10_dry_16 ?_
  refine rr_iconst 0 rfl dX10_dry_17 ?_
  refine rr_bipush 13 rfl dX10_dry_18 ?_
  refine rr_callS (As := [.int (nI K), .int 0, .int 13]) (rest := [.ref 49]) (kc2 := 0) (ks2 := 0) dX10_dry_20 okX10_in lX10_129 rfl (Nat.le_of_ble_eq_true rfl) (Nat.le_of_ble_eq_true rfl) rfl (by omega) (by simp [jj_rk]) (by simp [jj_rk]) ?_
  refine sp_X10_in  ?_
  show jj_R _ _ kc ks (jj_S, 782, h, g) 23 [(0, .ref 49), (1, .int (nI N)), (2, .int (nI K)), (3, .int (nI q)), (4, .int w)] [.int (vX10_in (nI K) 0 13), .ref 49] Q
  refine rr_if_eq dX10_dry_23 (fun c => absurd c (show ¬ vX10_in (nI K) 0 13 = 0 by rw [show vX10_in (nI K) 0 13 = 1 from in_T (T := 13) (by omega) (by decide)]; decide)) (fun _ => ?_)
  refine rr_iload_n 3 rfl rfl dX10_dry_26 ?_
  refine rr_iconst 0 rfl dX10_dry_27 ?_
  refine rr_bipush 16 rfl dX10_dry_28 ?_
  refine rr_callS (As := [.int (nI q), .int 0, .int 16]) (rest := [.ref 49]) (kc2 := 0) (ks2 := 0) dX10_dry_30 okX10_in lX10_129 rfl (Nat.le_of_ble_eq_true rfl) (Nat.le_of_ble_eq_true rfl) rfl (by omega) (by simp [jj_rk]) (by simp [jj_rk]) ?_
  refine sp_X10_in  ?_
  show jj_R _ _ kc ks (jj_S, 782, h, g) 33 [(0, .ref 49), (1, .int (nI N)), (2, .int (nI K)), (3, .int (nI q)), (4, .int w)] [.int (vX10_in (nI q) 0 16), .ref 49] Q
  refine rr_if_eq dX10_dry_33 (fun c => absurd c (show ¬ vX10_in (nI q) 0 16 = 0 by rw [show vX10_in (nI q) 0 16 = 1 from in_T (T := 16) (by omega) (by decide)]; decide)) (fun _ => ?_)
  refine rr_iload 4 rfl dX10_dry_36 ?_
  refine rr_iconst 0 rfl dX10_dry_38 ?_
  refine rr_iconst 1 rfl dX10_dry_39 ?_
  refine rr_callS (As := [.int w, .int 0, .int 1]) (rest := [.ref 49]) (kc2 := 0) (ks2 := 0) dX10_dry_40 okX10_in lX10_129 rfl (Nat.le_of_ble_eq_true rfl) (Nat.le_of_ble_eq_true rfl) rfl (by omega) (by simp [jj_rk]) (by simp [jj_rk]) ?_
  refine sp_X10_in  ?_
  show jj_R _ _ kc ks (jj_S, 782, h, g) 43 [(0, .ref 49), (1, .int (nI N)), (2, .int (nI K)), (3, .int (nI q)), (4, .int w)] [.int (vX10_in w 0 1), .ref 49] Q
  refine rr_if_ne dX10_dry_43 (fun _ => ?_) (fun c => absurd c hw)
  refine rr_iconst 0 rfl dX10_dry_50 ?_
  refine rr_iconst 1 rfl dX10_dry_51 ?_
  refine rr_iconst 1 rfl dX10_dry_52 ?_
  refine rr_callV (As := [.int 0, .int 1, .int 1]) (rest := []) (kc2 := 0) (ks2 := 0) dX10_dry_53 okX10_bad lX10_171 lo_49 sh_49 rfl rfl (Nat.le_of_ble_eq_true rfl) (Nat.le_of_ble_eq_true rfl) rfl (by omega) (by simp [jj_rk]) (by simp [jj_rk]) ?_
  refine sp_X10_bad0_11 ht ?_
  show jj_R _ _ kc ks (jj_S, 782, h, g) 56 [(0, .ref 49), (1, .int (nI N)), (2, .int (nI K)), (3, .int (nI q)), (4, .int w)] [.int 0] Q
  refine rr_if_eq dX10_dry_56 (fun _ => ?_) (fun c => absurd (by decide) c)
  refine rr_iconst 0 rfl dX10_dry_61 ?_
  refine rr_istore [(0, .ref 49), (1, .int (nI N)), (2, .int (nI K)), (3, .int (nI q)), (4, .int w), (5, .int 0)] dX10_dry_62 (by decide) rfl ?_
  refine dr_1 (q := q) (GG := g 781) 14 0 g (by omega) rfl (fun j z => absurd z (Nat.not_lt_zero j)) (fun g2 hG hg => ?_)
  refine rr_iconst 0 rfl dX10_dry_94 ?_
  refine rr_istore [(0, .ref 49), (1, .int (nI N)), (2, .int (nI K)), (3, .int (nI q)), (4, .int w), (5, .int 0)] dX10_dry_95 (by decide) rfl ?_
  refine dr_3 hN hq N 0 g2 (by omega) hG hg (fun g3 hG3 hg => ?_)
  refine rr_lconst 0 rfl dX10_dry_166 ?_
  refine rr_lstore [(0, .ref 49), (1, .int (nI N)), (2, .int (nI K)), (3, .int (nI q)), (4, .int w), (5, .long 0)] dX10_dry_167 (by decide) rfl ?_
  refine rr_lconst 1 rfl dX10_dry_169 ?_
  refine rr_iconst 4 rfl dX10_dry_170 ?_
  refine rr_iload_n 1 rfl rfl dX10_dry_171 ?_
  refine rr_imul dX10_dry_172 ?_
  refine rr_lshl dX10_dry_173 ?_
  refine rr_lstore [(0, .ref 49), (1, .int (nI N)), (2, .int (nI K)), (3, .int (nI q)), (4, .int w), (5, .long 0), (7, .long (1 <<< ((((4 : Int32) * (nI N)) : Int32).toInt64 &&& 63)))] dX10_dry_174 (by decide) rfl ?_
  refine rr_iload_n 2 rfl rfl dX10_dry_176 ?_
  refine rr_istore [(0, .ref 49), (1, .int (nI N)), (2, .int (nI K)), (3, .int (nI q)), (4, .int w), (5, .long 0), (7, .long (1 <<< ((((4 : Int32) * (nI N)) : Int32).toInt64 &&& 63))), (9, .int (nI K))] dX10_dry_177 (by decide) rfl ?_
  rw [sh16 N hN]
  refine dr_4 (y := lN (16 ^ N)) hg (14 - K) K 0 (by omega) (fun s es => ?_)
  rw [Nat.zero_add] at es
  refine rr_lload 6 rfl dX10_dry_204 ?_
  refine rr_lstore [(0, .ref 49), (1, .int (nI N)), (2, .int (nI K)), (3, .int (nI q)), (4, .int w), (5, .long (lN s)), (7, .long (lN (16 ^ N))), (9, .long (lN (16 ^ N)))] dX10_dry_206 (by decide) rfl ?_
  refine rr_lload 5 rfl dX10_dry_208 ?_
  refine rr_lstore [(0, .ref 49), (1, .int (nI N)), (2, .int (nI K)), (3, .int (nI q)), (4, .int w), (5, .long (lN s)), (7, .long (lN (16 ^ N))), (9, .long (lN (16 ^ N))), (11, .long (lN s))] dX10_dry_210 (by decide) rfl ?_
  have p16 : 16 ^ N ≤ 16 ^ 12 := Nat.pow_le_pow_right (by decide) hN
  have p0 : 0 < 16 ^ N := Nat.pow_pos (by decide)
  have ls : s ≤ 14 * 16 ^ 12 := by
    rw [es]
    exact Nat.le_trans (exS_le hq _ _) (Nat.mul_le_mul (by omega) p16)
  have p12 : (14 : Nat) * 16 ^ 12 < 2 ^ 62 := by decide
  refine dr_5 (A := 16 ^ N) (B := s) s (by omega) (by omega) (Nat.le_refl _) (fun G eG => ?_)
  have G0 : 0 < G := by rw [eG]; exact Nat.gcd_pos_of_pos_left _ p0
  have Gl : G ≤ 16 ^ N := by rw [eG]; exact Nat.gcd_le_left _ p0
  refine rr_iload 4 rfl dX10_dry_237 ?_
  refine rr_if_ne dX10_dry_239 (fun c1 => ?_) (fun c1 => ?_)
  · skip
    refine rr_lload 6 rfl dX10_dry_250 ?_
    refine rr_lload 7 rfl dX10_dry_252 ?_
    refine rr_ldiv (fun z => absurd ((pk_lEQ (a := G) (b := 0) (by omega) (by decide)).mp z) (by omega)) dX10_dry_254 ?_
    refine rr_lreturn dX10_dry_255 rfl ?_
    rw [pk_lDiv (by omega) G0 (by omega)]
    have e9 : 16 ^ N / G = if w = 0 then exS q N (14 - K) K / Nat.gcd (16 ^ N) (exS q N (14 - K) K) else 16 ^ N / Nat.gcd (16 ^ N) (exS q N (14 - K) K) := by rw [if_neg c1, eG, es]
    rw [e9]
    exact k1 g3 hG3
  · skip
    refine rr_lload 5 rfl dX10_dry_242 ?_
    refine rr_lload 7 rfl dX10_dry_244 ?_
    refine rr_ldiv (fun z => absurd ((pk_lEQ (a := G) (b := 0) (by omega) (by decide)).mp z) (by omega)) dX10_dry_246 ?_
    refine rr_goto dX10_dry_247 ?_
    refine rr_lreturn dX10_dry_255 rfl ?_
    rw [pk_lDiv (by omega) G0 (by omega)]
    have e9 : s / G = if w = 0 then exS q N (14 - K) K / Nat.gcd (16 ^ N) (exS q N (14 - K) K) else 16 ^ N / Nat.gcd (16 ^ N) (exS q N (14 - K) K) := by rw [if_pos c1, eG, es]
    rw [e9]
    exact k1 g3 hG3
