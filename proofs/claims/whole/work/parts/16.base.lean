/-! ===== loops that count ===== -/
def jj_fo {α : Type} (f : Nat → α → α) : Nat → α → α
  | 0, a => a
  | n + 1, a => f n (jj_fo f n a)
theorem jj_for {α : Type} (P : Nat → α → Prop) (f : Nat → α → α) (n : Nat) (a : α) (body : ∀ k, k < n → P (k + 1) (f k (jj_fo f k a)) → P k (jj_fo f k a)) (fin : P n (jj_fo f n a)) : P 0 a := by
  have key : ∀ j, j ≤ n → P j (jj_fo f j a) → P 0 a := by
    intro j
    induction j with
    | zero => exact fun _ h => h
    | succ j ih => exact fun hj h => ih (by omega) (body j (by omega) h)
  exact key n (Nat.le_refl _) fin
theorem jj_fo_congr {α : Type} {f g : Nat → α → α} {n : Nat} {a : α} (h : ∀ k, k < n → ∀ x, f k x = g k x) : jj_fo f n a = jj_fo g n a := by
  induction n with
  | zero => rfl
  | succ n ih => rw [jj_fo, jj_fo, ih (fun k hk => h k (by omega)), h n (by omega)]
theorem jj_le_rf (x : Int32) : x ≤ x := Int32.le_refl x
theorem jj_in8 {k n : Nat} (hk : k < n) (hn : n ≤ 8) : vp_in (nI k) 8 := vp_in_nI (by omega) (by decide)
theorem jj_cl8 {k n : Nat} (hk : k < n) (hn : n ≤ 8) : (nI k).toNatClampNeg = k := nI_clamp (by omega)
theorem jj_inL {i : Int32} {n : Nat} (h : decide (0 ≤ i.toInt ∧ i.toInt < n) = true) : vp_in i n := vp_in_iff.mpr (of_decide_eq_true h)
/-! cells whose contents don't matter -/
def jj_eq (X : List Nat) (h h2 : Nat → Nat → Int32) : Prop := ∀ o, o ∉ X → h2 o = h o
theorem jj_eq.rf {X : List Nat} {h : Nat → Nat → Int32} : jj_eq X h h := fun _ _ => rfl
theorem jj_eq.tr {X Y Z : List Nat} {a b c : Nat → Nat → Int32} (h1 : jj_eq X a b) (h2 : jj_eq Y b c) (hX : ∀ o, o ∈ X → o ∈ Z) (hY : ∀ o, o ∈ Y → o ∈ Z) : jj_eq Z a c := fun o ho => (h2 o (fun q => ho (hY o q))).trans (h1 o (fun q => ho (hX o q)))
theorem jj_eq.u2 {X : List Nat} {a b : Nat → Nat → Int32} (h : jj_eq X a b) (o k : Nat) (v : Int32) : jj_eq X (jj_u2 a o k v) (jj_u2 b o k v) := fun x hx => by
  funext j
  simp only [jj_u2, h x hx]
theorem jj_eq.sw {X : List Nat} {a b : Nat → Nat → Int32} (h : jj_eq X a b) (o k : Nat) (v : Int32) (ho : o ∈ X) : jj_eq X a (jj_u2 b o k v) := fun x hx => by
  have hne : x ≠ o := fun q => hx (q ▸ ho)
  rw [jj_u2_ne hne, h x hx]
theorem jj_eq.cp {X : List Nat} {a b : Nat → Nat → Int32} (h : jj_eq X a b) (s d sp dp k : Nat) (hs : s ∉ X) (hd : d ∉ X) : jj_eq X (jj_cp a s d sp dp k) (jj_cp b s d sp dp k) := fun x hx => by
  unfold jj_cp
  by_cases e : x = d
  · subst e
    rw [if_pos rfl, if_pos rfl, h s hs, h x hx]
  · rw [if_neg e, if_neg e, h x hx]
theorem jj_eq.scp {X : List Nat} {a b : Nat → Nat → Int32} (h : jj_eq X a b) (s d sp dp k : Nat) (hd : d ∈ X) : jj_eq X a (jj_cp b s d sp dp k) := fun x hx => by
  have hne : x ≠ d := fun q => hx (q ▸ hd)
  unfold jj_cp
  rw [if_neg hne, h x hx]
theorem jj_lit (n : Nat) : (OfNat.ofNat n : Int32) = nI n := rfl
section RW
variable {M : jj_Mt} {d kc ks : Nat} {τ : jj_St} {pc : Nat} {ls : List (Nat × Value)} {st : List Value} {Q : jj_Rs → jj_St → Prop}
theorem rr_tcase {x v : Int32} (hx : x = v) {dflt lo hi : Int} {offs : Array Int} {len tgt : Nat} (off : Int) (hd : decode M.2.1 pc = .ok (.tableswitch dflt lo hi offs, len)) (h1 : ¬ v.toInt < lo) (h2 : ¬ hi < v.toInt) (ho : offs[(v.toInt - lo).toNat]? = some off) (ht : (pc : Int) + off = (tgt : Int)) (k : jj_R M d kc ks τ tgt ls st Q) : jj_R M d kc ks τ pc ls (.int x :: st) Q := by
  subst hx
  exact rr_tableIn off hd h1 h2 ho ht k
theorem rr_lcase {x v : Int32} (hx : x = v) {dflt off : Int} {ps : Array (Int × Int)} {len tgt : Nat} (hd : decode M.2.1 pc = .ok (.lookupswitch dflt ps, len)) (hp : (ps.toList.zip (ps.toList.drop 1)).all (fun (a, next) => a.1 < next.1) = true) (ho : Op.lookupswitch.offset ps.toList dflt v.toInt = off) (ht : (pc : Int) + off = (tgt : Int)) (k : jj_R M d kc ks τ tgt ls st Q) : jj_R M d kc ks τ pc ls (.int x :: st) Q := by
  subst hx
  exact rr_lookup hd hp ho ht k
end RW
/-! heaps by their rows -/
def jj_rs (B : Nat → Nat → Int32) (L : List (Nat × (Nat → Int32))) : Nat → Nat → Int32 := fun o => match L.lookup o with
  | some f => f
  | none => B o
def jj_ins (o : Nat) (f : Nat → Int32) : List (Nat × (Nat → Int32)) → List (Nat × (Nat → Int32))
  | [] => [(o, f)]
  | q :: r => if o < q.1 then (o, f) :: q :: r else if o = q.1 then (o, f) :: r else q :: jj_ins o f r
theorem jj_ins_lk {o : Nat} {f : Nat → Int32} {a : Nat} : ∀ L : List (Nat × (Nat → Int32)), (jj_ins o f L).lookup a = if a = o then some f else L.lookup a
  | [] => by
    unfold jj_ins
    by_cases e : a = o
    · subst e; simp [List.lookup]
    · have : (a == o) = false := by simp [e]
      simp [List.lookup, this, e]
  | q :: r => by
    unfold jj_ins
    have ih := jj_ins_lk (o := o) (f := f) (a := a) r
    by_cases h1 : o < q.1
    · rw [if_pos h1]
      by_cases e : a = o
      · subst e; simp [List.lookup]
      · have : (a == o) = false := by simp [e]
        simp only [List.lookup, this, if_neg e]
    · rw [if_neg h1]
      by_cases h2 : o = q.1
      · rw [if_pos h2]
        by_cases e : a = o
        · subst e; simp [List.lookup]
        · have h3 : (a == o) = false := by simp [e]
          have h4 : (a == q.1) = false := by rw [← h2]; exact h3
          simp only [List.lookup, h3, h4, if_neg e]
      · rw [if_neg h2]
        by_cases e : a = q.1
        · have h3 : a ≠ o := fun z => h2 (z ▸ e)
          have h4 : (a == q.1) = true := by simp [e]
          simp only [List.lookup, h4, if_neg h3]
        · have h4 : (a == q.1) = false := by simp [e]
          simp only [List.lookup, h4, ih]
theorem jj_rs_nil {B : Nat → Nat → Int32} : jj_rs B [] = B := rfl
theorem jj_rs_at {B : Nat → Nat → Int32} {L : List (Nat × (Nat → Int32))} {o : Nat} {f : Nat → Int32} (a : Nat) : jj_rs B (jj_ins o f L) a = if a = o then f else jj_rs B L a := by
  unfold jj_rs
  rw [jj_ins_lk]
  by_cases e : a = o <;> simp [e]
theorem jj_rs_set {B : Nat → Nat → Int32} {L L2 : List (Nat × (Nat → Int32))} {o k : Nat} {v : Int32} {r : Nat → Int32} (hr : jj_rs B L o = r) (hL : jj_ins o (upd r k v) L = L2) : jj_u2 (jj_rs B L) o k v = jj_rs B L2 := by
  subst hL
  funext a
  rw [jj_rs_at]
  by_cases e : a = o
  · subst e
    rw [if_pos rfl, jj_u2_row, hr]
  · rw [if_neg e, jj_u2_ne e]
theorem jj_rs_set0 {B : Nat → Nat → Int32} {o k : Nat} {v : Int32} {r : Nat → Int32} (hr : B o = r) : jj_u2 B o k v = jj_rs B [(o, upd r k v)] := jj_rs_set (L := []) (B := B) hr rfl
theorem jj_rs_add {B : Nat → Nat → Int32} {L L2 : List (Nat × (Nat → Int32))} {o : Nat} {r : Nat → Int32} (hr : jj_rs B L o = r) (hL : jj_ins o r L = L2) : jj_rs B L = jj_rs B L2 := by
  subst hL
  funext a
  rw [jj_rs_at]
  by_cases e : a = o
  · subst e
    rw [if_pos rfl, hr]
  · rw [if_neg e]
theorem jj_rs_cp {B : Nat → Nat → Int32} {L L2 : List (Nat × (Nat → Int32))} {s o sp dp k : Nat} {f r : Nat → Int32} (hs : jj_rs B L s = f) (hr : jj_rs B L o = r) (hL : jj_ins o (va_cpy f r sp dp k) L = L2) : jj_cp (jj_rs B L) s o sp dp k = jj_rs B L2 := by
  subst hL
  funext a
  rw [jj_rs_at]
  unfold jj_cp
  by_cases e : a = o
  · rw [if_pos e, if_pos e, hs, hr]
  · rw [if_neg e, if_neg e]
theorem jj_rs_sw {B : Nat → Nat → Int32} {L : List (Nat × (Nat → Int32))} {o k : Nat} {v : Int32} (h : L.lookup o = none) : jj_u2 (jj_rs B L) o k v = jj_rs (jj_u2 B o k v) L := by
  funext a
  by_cases e : a = o
  · subst e
    rw [jj_u2_row]
    unfold jj_rs
    rw [h]
    exact jj_u2_row.symm
  · rw [jj_u2_ne e]
    unfold jj_rs
    cases L.lookup a with
    | none => exact (jj_u2_ne e).symm
    | some f => rfl
def jj_mrg (M L : List (Nat × (Nat → Int32))) : List (Nat × (Nat → Int32)) := M.foldr (fun q l => jj_ins q.1 q.2 l) L
theorem jj_rs_rs {B : Nat → Nat → Int32} {L L2 : List (Nat × (Nat → Int32))} : ∀ {M : List (Nat × (Nat → Int32))}, jj_mrg M L = L2 → jj_rs (jj_rs B L) M = jj_rs B L2
  | [], h => by rw [← h]; rfl
  | q :: M, h => by
    have ih := jj_rs_rs (B := B) (L := L) (M := M) rfl
    rw [← h]
    funext a
    show jj_rs (jj_rs B L) (q :: M) a = jj_rs B (jj_ins q.1 q.2 (jj_mrg M L)) a
    rw [jj_rs_at, ← ih]
    unfold jj_rs
    by_cases e : a = q.1
    · have : (a == q.1) = true := by simp [e]
      simp only [List.lookup, this, if_pos e]
    · have : (a == q.1) = false := by simp [e]
      simp only [List.lookup, this, if_neg e]
/-- a callee that leaves some cells anyhow, over rows -/
theorem jj_lo {X Y : List Nat} {h B h9 : Nat → Nat → Int32} {L : List (Nat × (Nat → Int32))} (eB : jj_eq X h B) (e9 : jj_eq Y (jj_rs B L) h9) (hY : ∀ o, o ∈ Y → o ∈ X) (hL : ∀ o, o ∈ Y → L.lookup o = none) : ∃ B2, jj_eq X h B2 ∧ h9 = jj_rs B2 L := by
  refine ⟨fun o => if o ∈ Y then h9 o else B o, fun o ho => ?_, ?_⟩
  · show (if o ∈ Y then h9 o else B o) = h o
    rw [if_neg (fun q => ho (hY o q))]
    exact eB o ho
  · funext o
    by_cases q : o ∈ Y
    · unfold jj_rs
      rw [hL o q]
      show h9 o = if o ∈ Y then h9 o else B o
      rw [if_pos q]
    · rw [e9 o q]
      unfold jj_rs
      cases L.lookup o with
      | none =>
        show B o = if o ∈ Y then h9 o else B o
        rw [if_neg q]
      | some f => rfl
theorem jj_lo0 {X Y : List Nat} {h B h9 : Nat → Nat → Int32} (eB : jj_eq X h B) (e9 : jj_eq Y B h9) (hY : ∀ o, o ∈ Y → o ∈ X) : jj_eq X h h9 := fun o ho => (e9 o (fun q => ho (hY o q))).trans (eB o ho)
theorem jj_addr {B : Nat → Nat → Int32} {o : Nat} {r : Nat → Int32} (hr : B o = r) : B = jj_rs B [(o, r)] := jj_rs_add (L := []) hr rfl
