/-! ===== the start: another shape of the same cells; the first invariant ===== -/
theorem jj_resh {M : jj_Mt} {d kc ks pc : Nat} {τ τ2 : jj_St} {ls : List (Nat × Value)} {st : List Value} {Q : jj_Rs → jj_St → Prop} (hn : τ.2.1 = τ2.2.1) (hW : ∀ cs ad, jj_W cs ad τ = jj_W cs ad τ2) (k : jj_R M d kc ks τ2 pc ls st Q) : jj_R M d kc ks τ pc ls st Q := by
  intro p l e R s m args below meth c H locs cells slots D cs A ad n0 ad0 L q
  refine k p l e R s m args below meth c H locs cells slots D cs A ad n0 ad0 L ⟨q.1, q.2.1, ?_, q.2.2.2.1, by rw [← hn]; exact q.2.2.2.2.1, q.2.2.2.2.2⟩
  have := q.2.2.1
  unfold jj_wo at this ⊢
  rw [← hW]
  exact this
theorem hrw_0 {f x : Nat → Int32} (hf : ∀ i, i < 35 → f i = 0) (hx : ∀ i, i < 35 → x i = 0) : hrw f x := by
  refine ⟨⟨⟨by rw [hx 33 (by omega), hf 0 (by omega)], by rw [hx 34 (by omega), hf 1 (by omega)], by rw [hx 32 (by omega), hf 2 (by omega)]⟩, fun p hp => ⟨(hx p (by omega)).trans (hf (3 + 4 * p) (by omega)).symm, (hx _ (by omega)).trans (hf (4 + 4 * p) (by omega)).symm, (hx _ (by omega)).trans (hf (5 + 4 * p) (by omega)).symm, (hx _ (by omega)).trans (hf (6 + 4 * p) (by omega)).symm⟩⟩, ⟨0, hf 0 (by omega), by omega, fun p hp => ⟨0, hf _ (by omega), by omega⟩⟩, fun p hp => ⟨Or.inl (hf _ (by omega)), Or.inr ?_⟩⟩
  show vp_in (f (6 + 4 * p)) 8
  rw [hf _ (by omega)]
  exact vp_in_nI (show 0 < 8 by decide) (by decide)
/-- a heap as the constructors leave it -/
theorem iv_0 {h : hp_} (h14 : ∀ k, k < 600 → h 14 k = 0) (h50 : ∀ k, k < 600 → h 50 k = 0) (h13 : h 13 1 = 0) (h491 : h 49 1 = 0) (h3 : h 49 3 = h 13 8) (h33 : h 49 33 = h 0 12) (c3 : h 51 0 = h 0 13) (c4 : h 51 1 = h 0 14) (s1 : h 1 0 = 0) (s2 : h 53 0 = 0) (s3 : h 53 1 = h 1 1) (s4 : ∀ p, p < 8 → h 73 p = 0) (l1 : h 7 1 = 0) (l2 : h 49 17 = 0) (n1 : nn (h 38) (h 39) (h 40) (h 41) (h 42) (h 497)) (b1 : h 25 2 = 0) (b2 : h 49 31 = 0) (u1 : h 34 0 = 0) (u2 : h 49 32 = 0) (t1 : h 34 1 = 0) (t2 : h 49 34 = 0) (r1 : ∀ i, i < 560 → h 35 i = 0) (r2 : ∀ w, w < 16 → ∀ i, i < 35 → h (500 + w) i = 0) : IVx h := by
  refine ⟨fun _ => 0, 0, 0, 0, 0, 0, [], ⟨fun k hk => ⟨h14 k hk, show 0 < 256 by decide⟩, fun k hk => ⟨h50 k hk, show 0 < 256 by decide⟩, h13, h491, by omega⟩, ⟨h3, h33, c3, c4⟩, ⟨s1, s2, by omega, s3, fun p hp => absurd hp (by omega), fun p hp => ?_, fun p hp => absurd hp (by omega)⟩, ⟨l1, l2, by omega, fun j hj => absurd hj (by omega)⟩, n1, ⟨b1, b2, bok_nil, fun q => absurd q (by decide), fun i z q => by cases q⟩, ⟨⟨u1, u2, by omega⟩, ⟨t1, t2, by omega⟩, fun w hw => hrw_0 (fun i hi => r1 _ (by omega)) (r2 w hw), fun i hi => absurd hi (by omega)⟩⟩
  rw [s4 p hp]
  decide
