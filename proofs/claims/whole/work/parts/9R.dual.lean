/-! ===== dry of both, paired ===== -/
def dualL (MC MR : jj_Mt) (A : List (Nat × Value)) (e : Int32) (h : hp_) : Prop := ∃ (r : jj_Rs) (v : Int64) (th : Int32) (mid : hp_ → Prop), (∀ d kc ks (g : Nat → Nat → Int64) (Q : jj_Rs → jj_St → Prop), (∀ h1, mid h1 → Q r (jj_S, 782, h1, g)) → jj_R MC (d + 40) (kc + 4) (ks + 24) (jj_S, 782, h, g) 0 ((0, .ref 0) :: A) [] Q) ∧ (∀ d kc ks (h1 : hp_) (g : Nat → Nat → Int64) (Q : jj_Rs → jj_St → Prop), mid h1 → (∀ h2 g2, IVx h2 → h2 49 0 = th → g2 781 = g 781 → Q (.inl (some (.long v))) (jj_S, 782, h2, g2)) → jj_R MR (d + 64) kc ks (jj_S, 782, h1, g) 0 ((0, .ref 49) :: A) [] Q) ∧ ((r = .inl (some (.long v)) ∧ th = 0) ∨ (r = .inr "java/lang/IllegalArgumentException" ∧ th = e))
theorem du_dry {c : Nat → Nat} {T n m u t : Nat} {L : bL_} {h : hp_} (I : IV c T n m u t L h) (y k v w : Int32) : dualL mX9_dry mX10_dry [(1, .int y), (2, .int k), (3, .int v), (4, .int w)] 1 h := by
  have qq := q_dry (h 0) (h 49) (h 51) y k v w
  have f49 : ∀ i, kpF i = true → md49 (h 49) y k v w i = h 49 i := fun i hi => by
    have i0 := kpF_0 hi
    unfold md49
    split
    · rw [jj_une i0, jj_une i0]
    · rw [jj_une i0]
  have f51 : md51 (h 51) y k v w 0 = h 51 0 := by
    unfold md51
    split <;> rfl
  refine ⟨vX9_dry (h 0) y k v w, mdV y k v w, md49 (h 49) y k v w 0, fun h1 => h1 0 = rX9_dry_0 (h 0) y k v w ∧ kp h h1 ∧ ∀ x, 49 ≤ x → h1 x = h x, ?_, ?_, ?_⟩
  · intro d kc ks g Q kk
    exact sp_X9_dry (kk _ ⟨rfl, kp_0 (res_12 qq) rfl, fun x hx => rs_hi rfl hx⟩)
  · intro d kc ks h1 g Q hm kk
    obtain ⟨m0, mk, mx⟩ := hm
    have e49 : h1 49 = h 49 := mx 49 (by omega)
    have e51 : h1 51 = h 51 := mx 51 (by omega)
    refine sp_X10_dry (by omega) (fun g2 hg2 => ?_)
    rw [e49, e51]
    refine kk _ g2 ⟨c, T, n, m, u, t, L, IV_kp I (kp_tr mk ?_) ?_⟩ rfl hg2
    · exact kp_49 (fun i hi => by rw [mx 49 (by omega)]; exact f49 i hi) rfl
    · have yy := res_c qq I.2.1.2.2.1 I.2.1.2.2.2
      rw [← m0] at yy
      exact yy
  · rcases qq with ⟨q1, _, q3, _⟩ | ⟨q1, _, q3, q4⟩ | ⟨q1, _, q3, q4⟩
    · exact Or.inl ⟨q1, q3⟩
    · exact (x1_ne f51 (congrFun q4 0)).elim
    · exact Or.inr ⟨q1, q3⟩
