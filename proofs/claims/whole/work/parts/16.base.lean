/-! ===== loops that count ===== -/
def jj_fo {α : Type} (f : Nat → α → α) : Nat → α → α
  | 0, a => a
  | n + 1, a => f n (jj_fo f n a)
theorem jj_for {α : Type} (P : Nat → α → Prop) (f : Nat → α → α) (n : Nat) (a : α) (body : ∀ k, k < n → P (k + 1) (f k (jj_fo f k a)) → P k (jj_fo f k a)) (fin : P n (jj_fo f n a)) : P 0 a := by
  have key : ∀ j, j ≤ n → P j (jj_fo f j a) → P 0 a := by
    intro j
    induction j with
    | zero => exact fun _ h => h
    | succ j ih => exact fun hj h => ih (by omega) (body j (by omega) h)
  exact key n (Nat.le_refl _) fin
theorem jj_fo_congr {α : Type} {f g : Nat → α → α} {n : Nat} {a : α} (h : ∀ k, k < n → ∀ x, f k x = g k x) : jj_fo f n a = jj_fo g n a := by
  induction n with
  | zero => rfl
  | succ n ih => rw [jj_fo, jj_fo, ih (fun k hk => h k (by omega)), h n (by omega)]
theorem jj_le_rf (x : Int32) : x ≤ x := Int32.le_refl x
theorem jj_in8 {k n : Nat} (hk : k < n) (hn : n ≤ 8) : vp_in (nI k) 8 := vp_in_nI (by omega) (by decide)
theorem jj_cl8 {k n : Nat} (hk : k < n) (hn : n ≤ 8) : (nI k).toNatClampNeg = k := nI_clamp (by omega)
theorem jj_inL {i : Int32} {n : Nat} (h : decide (0 ≤ i.toInt ∧ i.toInt < n) = true) : vp_in i n := vp_in_iff.mpr (of_decide_eq_true h)
/-! cells whose contents don't matter -/
def jj_eq (X : List Nat) (h h2 : Nat → Nat → Int32) : Prop := ∀ o, o ∉ X → h2 o = h o
theorem jj_eq.rf {X : List Nat} {h : Nat → Nat → Int32} : jj_eq X h h := fun _ _ => rfl
theorem jj_eq.tr {X Y Z : List Nat} {a b c : Nat → Nat → Int32} (h1 : jj_eq X a b) (h2 : jj_eq Y b c) (hX : ∀ o, o ∈ X → o ∈ Z) (hY : ∀ o, o ∈ Y → o ∈ Z) : jj_eq Z a c := fun o ho => (h2 o (fun q => ho (hY o q))).trans (h1 o (fun q => ho (hX o q)))
theorem jj_eq.u2 {X : List Nat} {a b : Nat → Nat → Int32} (h : jj_eq X a b) (o k : Nat) (v : Int32) : jj_eq X (jj_u2 a o k v) (jj_u2 b o k v) := fun x hx => by
  funext j
  simp only [jj_u2, h x hx]
theorem jj_eq.sw {X : List Nat} {a b : Nat → Nat → Int32} (h : jj_eq X a b) (o k : Nat) (v : Int32) (ho : o ∈ X) : jj_eq X a (jj_u2 b o k v) := fun x hx => by
  have hne : x ≠ o := fun q => hx (q ▸ ho)
  rw [jj_u2_ne hne, h x hx]
theorem jj_eq.cp {X : List Nat} {a b : Nat → Nat → Int32} (h : jj_eq X a b) (s d sp dp k : Nat) (hs : s ∉ X) (hd : d ∉ X) : jj_eq X (jj_cp a s d sp dp k) (jj_cp b s d sp dp k) := fun x hx => by
  unfold jj_cp
  by_cases e : x = d
  · subst e
    rw [if_pos rfl, if_pos rfl, h s hs, h x hx]
  · rw [if_neg e, if_neg e, h x hx]
theorem jj_eq.scp {X : List Nat} {a b : Nat → Nat → Int32} (h : jj_eq X a b) (s d sp dp k : Nat) (hd : d ∈ X) : jj_eq X a (jj_cp b s d sp dp k) := fun x hx => by
  have hne : x ≠ d := fun q => hx (q ▸ hd)
  unfold jj_cp
  rw [if_neg hne, h x hx]
theorem jj_lit (n : Nat) : (OfNat.ofNat n : Int32) = nI n := rfl
section RW
variable {M : jj_Mt} {d kc ks : Nat} {τ : jj_St} {pc : Nat} {ls : List (Nat × Value)} {st : List Value} {Q : jj_Rs → jj_St → Prop}
theorem rr_tcase {x v : Int32} (hx : x = v) {dflt lo hi : Int} {offs : Array Int} {len tgt : Nat} (off : Int) (hd : decode M.2.1 pc = .ok (.tableswitch dflt lo hi offs, len)) (h1 : ¬ v.toInt < lo) (h2 : ¬ hi < v.toInt) (ho : offs[(v.toInt - lo).toNat]? = some off) (ht : (pc : Int) + off = (tgt : Int)) (k : jj_R M d kc ks τ tgt ls st Q) : jj_R M d kc ks τ pc ls (.int x :: st) Q := by
  subst hx
  exact rr_tableIn off hd h1 h2 ho ht k
theorem rr_lcase {x v : Int32} (hx : x = v) {dflt off : Int} {ps : Array (Int × Int)} {len tgt : Nat} (hd : decode M.2.1 pc = .ok (.lookupswitch dflt ps, len)) (hp : (ps.toList.zip (ps.toList.drop 1)).all (fun (a, next) => a.1 < next.1) = true) (ho : Op.lookupswitch.offset ps.toList dflt v.toInt = off) (ht : (pc : Int) + off = (tgt : Int)) (k : jj_R M d kc ks τ tgt ls st Q) : jj_R M d kc ks τ pc ls (.int x :: st) Q := by
  subst hx
  exact rr_lookup hd hp ho ht k
end RW
theorem jj_forI {α : Type} (P : Nat → α → Prop) (I : α → Prop) (f : Nat → α → α) (n : Nat) (a : α) (h0 : I a) (hs : ∀ k x, k < n → I x → I (f k x)) (body : ∀ k, k < n → I (jj_fo f k a) → P (k + 1) (f k (jj_fo f k a)) → P k (jj_fo f k a)) (fin : I (jj_fo f n a) → P n (jj_fo f n a)) : P 0 a := by
  have hI : ∀ j, j ≤ n → I (jj_fo f j a) := by
    intro j
    induction j with
    | zero => exact fun _ => h0
    | succ j ih => exact fun hj => hs j _ (by omega) (ih (by omega))
  exact jj_for P f n a (fun k hk h => body k hk (hI k (by omega)) h) (fin (hI n (Nat.le_refl _)))
theorem jj_fo_I {α : Type} {I : α → Prop} {f : Nat → α → α} {n : Nat} {a : α} (h0 : I a) (hs : ∀ k x, k < n → I x → I (f k x)) : I (jj_fo f n a) := by
  have hI : ∀ j, j ≤ n → I (jj_fo f j a) := by
    intro j
    induction j with
    | zero => exact fun _ => h0
    | succ j ih => exact fun hj => hs j _ (by omega) (ih (by omega))
  exact hI n (Nat.le_refl _)
theorem jj_eq.mono {X Y : List Nat} {a b : Nat → Nat → Int32} (h : jj_eq X a b) (hs : ∀ o, o ∈ X → o ∈ Y) : jj_eq Y a b := fun o ho => h o (fun q => ho (hs o q))
theorem jj_u2_same (h : Nat → Nat → Int32) (o k : Nat) (v : Int32) : jj_u2 h o k v o k = v := by simp [jj_u2]
theorem jj_u2_nk (h : Nat → Nat → Int32) (o k : Nat) (v : Int32) {j : Nat} (e : j ≠ k) : jj_u2 h o k v o j = h o j := by simp [jj_u2, e]
theorem jj_fo_rel {X : List Nat} {f g : Nat → (Nat → Nat → Int32) → (Nat → Nat → Int32)} {n : Nat} {a b : Nat → Nat → Int32} (h0 : jj_eq X a b) (hs : ∀ k x y, k < n → jj_eq X x y → jj_eq X (f k x) (g k y)) : jj_eq X (jj_fo f n a) (jj_fo g n b) := by
  have hI : ∀ j, j ≤ n → jj_eq X (jj_fo f j a) (jj_fo g j b) := by
    intro j
    induction j with
    | zero => exact fun _ => h0
    | succ j ih => exact fun hj => hs j _ _ (by omega) (ih (by omega))
  exact hI n (Nat.le_refl _)
