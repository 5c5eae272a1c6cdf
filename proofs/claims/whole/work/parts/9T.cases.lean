/-! ===== the calls without a wrapper ===== -/
theorem du_fault {c : Nat → Nat} {T n m u t : Nat} {L : bL_} {h : hp_} (I : IV c T n m u t L h) : dual mX9_fault mX10_fault [] false false 0 h := by
  have qq := q_fault I 
  have f49 : ∀ i, kpF i = true → (rX10_fault_49 (h 49)) i = h 49 i := fun i hi => by
    have i0 := kpF_0 hi
    unfold rX10_fault_49
    repeat' split
    all_goals first | rw [jj_une i0, jj_une i0] | rw [jj_une i0]
  have f0 : (rX10_fault_49 (h 49)) 0 = 0 := by
    unfold rX10_fault_49
    repeat' split
    all_goals rfl
  refine ⟨.inl (some (.int (vX9_fault (h 13)))), (vX10_fault (h 49)), (rX10_fault_49 (h 49)) 0, fun h1 => kp h h1 ∧ ∀ x, x = 0 ∨ 49 ≤ x → h1 x = h x, ?_, ?_, Or.inl ⟨by rw [qq], f0⟩⟩
  · intro d kc ks g Q k
    exact sp_X9_fault (d := _)  (k _ ⟨kp_rf, fun _ _ => rfl⟩)
  · intro d kc ks h1 g Q hm k
    obtain ⟨mk, mx0⟩ := hm
    have mx : ∀ x, 49 ≤ x → h1 x = h x := fun x hx => mx0 x (Or.inr hx)
    have e49 : h1 49 = h 49 := mx 49 (by omega)
    refine sp_X10_fault (d := _)  ?_
    rw [e49]
    refine k _ ⟨c, T, n, m, u, t, L, IV_kp I (kp_tr mk ?_) ?_⟩ rfl
    · exact kp_49 (L := []) (fun i hi => by rw [mx 49 (by omega)]; exact f49 i hi) rfl
    · have x0 : h1 0 = h 0 := mx0 0 (Or.inl rfl)
      have x51 : h1 51 = h 51 := mx 51 (by omega)
      show h1 51 0 = h1 0 13 ∧ h1 51 1 = h1 0 14
      rw [x0, x51]; exact ⟨I.2.1.2.2.1, I.2.1.2.2.2⟩
theorem du_days {c : Nat → Nat} {T n m u t : Nat} {L : bL_} {h : hp_} (I : IV c T n m u t L h) : dual mX9_days mX10_days [] false false 0 h := by
  have qq := q_days I 
  have f49 : ∀ i, kpF i = true → (rX10_days_49 (h 49) (h 497) n) i = h 49 i := fun i hi => by
    have i0 := kpF_0 hi
    unfold rX10_days_49
    repeat' split
    all_goals first | rw [jj_une i0, jj_une i0] | rw [jj_une i0]
  have f0 : (rX10_days_49 (h 49) (h 497) n) 0 = 0 := by
    unfold rX10_days_49
    repeat' split
    all_goals rfl
  refine ⟨.inl (some (.int (vX9_days (h 39) n))), (vX10_days (h 49) (h 497) n), (rX10_days_49 (h 49) (h 497) n) 0, fun h1 => kp h h1 ∧ ∀ x, x = 0 ∨ 49 ≤ x → h1 x = h x, ?_, ?_, Or.inl ⟨by rw [qq], f0⟩⟩
  · intro d kc ks g Q k
    exact sp_X9_days (d := _) I.2.2.1.1 I.2.2.1.2.2.1 (k _ ⟨kp_rf, fun _ _ => rfl⟩)
  · intro d kc ks h1 g Q hm k
    obtain ⟨mk, mx0⟩ := hm
    have mx : ∀ x, 49 ≤ x → h1 x = h x := fun x hx => mx0 x (Or.inr hx)
    have e49 : h1 49 = h 49 := mx 49 (by omega)
    have e497 : h1 497 = h 497 := mx 497 (by omega)
    refine sp_X10_days (d := _) (by rw [mx 53 (by omega)]; exact I.2.2.1.2.1) I.2.2.1.2.2.1 ?_
    rw [e49, e497]
    refine k _ ⟨c, T, n, m, u, t, L, IV_kp I (kp_tr mk ?_) ?_⟩ rfl
    · exact kp_49 (L := []) (fun i hi => by rw [mx 49 (by omega)]; exact f49 i hi) rfl
    · have x0 : h1 0 = h 0 := mx0 0 (Or.inl rfl)
      have x51 : h1 51 = h 51 := mx 51 (by omega)
      show h1 51 0 = h1 0 13 ∧ h1 51 1 = h1 0 14
      rw [x0, x51]; exact ⟨I.2.1.2.2.1, I.2.1.2.2.2⟩
theorem du_steady {c : Nat → Nat} {T n m u t : Nat} {L : bL_} {h : hp_} (I : IV c T n m u t L h) : dual mX9_steady mX10_steady [] false false 0 h := by
  have qq := q_steady I 
  have f49 : ∀ i, kpF i = true → (rX10_steady_49 (h 8) (h 49) (h 73) (h 497) (jj_gd h 64 8) n m) i = h 49 i := fun i hi => by
    have i0 := kpF_0 hi
    unfold rX10_steady_49
    repeat' split
    all_goals first | rw [jj_une i0, jj_une i0] | rw [jj_une i0]
  have f0 : (rX10_steady_49 (h 8) (h 49) (h 73) (h 497) (jj_gd h 64 8) n m) 0 = 0 := by
    unfold rX10_steady_49
    repeat' split
    all_goals rfl
  refine ⟨.inl (some (.int (vX9_steady (h 2) (h 3) (h 6) (h 8) (h 38) (h 39) (h 40) (h 41) n m))), (vX10_steady (h 8) (h 49) (h 73) (h 497) (jj_gd h 64 8) n m), (rX10_steady_49 (h 8) (h 49) (h 73) (h 497) (jj_gd h 64 8) n m) 0, fun h1 => kp h h1 ∧ ∀ x, x = 0 ∨ 49 ≤ x → h1 x = h x, ?_, ?_, Or.inl ⟨by rw [qq], f0⟩⟩
  · intro d kc ks g Q k
    exact sp_X9_steady (d := _) I.2.2.1.1 I.2.2.1.2.2.1 I.2.2.2.1.1 I.2.2.2.1.2.2.1 (fun h9 e9 => k _ ⟨kp_X e9 rfl, fun x hx => hx.elim (fun z => by rw [z]; exact e9 0 (by decide)) (fun z => eq_hi e9 rfl z)⟩)
  · intro d kc ks h1 g Q hm k
    obtain ⟨mk, mx0⟩ := hm
    have mx : ∀ x, 49 ≤ x → h1 x = h x := fun x hx => mx0 x (Or.inr hx)
    have e8 : h1 8 = h 8 := mk.1 8 rfl
    have e49 : h1 49 = h 49 := mx 49 (by omega)
    have e73 : h1 73 = h 73 := mx 73 (by omega)
    have e497 : h1 497 = h 497 := mx 497 (by omega)
    have g64 : jj_gd h1 64 8 = jj_gd h 64 8 := gd_eq (fun j hj => mx _ (by omega))
    refine sp_X10_steady (d := _) (by rw [mx 53 (by omega)]; exact I.2.2.1.2.1) I.2.2.1.2.2.1 (by rw [mx 49 (by omega)]; exact I.2.2.2.1.2.1) I.2.2.2.1.2.2.1 (by rw [mk.1 8 rfl, gd_eq (k := h) (fun j hj => mx _ (by omega))]; exact I.2.2.2.1.2.2.2) (fun h9 e9 => ?_)
    rw [e8, e49, e73, e497, g64]
    refine k _ ⟨c, T, n, m, u, t, L, IV_kp I (kp_tr mk ?_) ?_⟩ rfl
    · have x49 : h9 49 = h 49 := (e9 49 (by decide)).trans (mx 49 (by omega))
      exact kp_tr (kp_X e9 rfl) (kp_49 (L := []) (fun i hi => by rw [x49]; exact f49 i hi) rfl)
    · have x0 : h9 0 = h 0 := (e9 0 (by decide)).trans (mx0 0 (Or.inl rfl))
      have x51 : h9 51 = h 51 := (e9 51 (by decide)).trans (mx 51 (by omega))
      show h9 51 0 = h9 0 13 ∧ h9 51 1 = h9 0 14
      rw [x0, x51]; exact ⟨I.2.1.2.2.1, I.2.1.2.2.2⟩
theorem du_loose {c : Nat → Nat} {T n m u t : Nat} {L : bL_} {h : hp_} (I : IV c T n m u t L h) : dual mX9_loose mX10_loose [] false false 0 h := by
  have qq := q_loose I 
  have f49 : ∀ i, kpF i = true → (rX10_loose_49 (h 49) (h 497) n) i = h 49 i := fun i hi => by
    have i0 := kpF_0 hi
    unfold rX10_loose_49
    repeat' split
    all_goals first | rw [jj_une i0, jj_une i0] | rw [jj_une i0]
  have f0 : (rX10_loose_49 (h 49) (h 497) n) 0 = 0 := by
    unfold rX10_loose_49
    repeat' split
    all_goals rfl
  refine ⟨.inl (some (.int (vX9_loose (h 38) (h 40) n))), (vX10_loose (h 49) (h 497) n), (rX10_loose_49 (h 49) (h 497) n) 0, fun h1 => kp h h1 ∧ ∀ x, x = 0 ∨ 49 ≤ x → h1 x = h x, ?_, ?_, Or.inl ⟨by rw [qq], f0⟩⟩
  · intro d kc ks g Q k
    exact sp_X9_loose (d := _) I.2.2.1.1 I.2.2.1.2.2.1 (k _ ⟨kp_rf, fun _ _ => rfl⟩)
  · intro d kc ks h1 g Q hm k
    obtain ⟨mk, mx0⟩ := hm
    have mx : ∀ x, 49 ≤ x → h1 x = h x := fun x hx => mx0 x (Or.inr hx)
    have e49 : h1 49 = h 49 := mx 49 (by omega)
    have e497 : h1 497 = h 497 := mx 497 (by omega)
    refine sp_X10_loose (d := _) (by rw [mx 53 (by omega)]; exact I.2.2.1.2.1) I.2.2.1.2.2.1 ?_
    rw [e49, e497]
    refine k _ ⟨c, T, n, m, u, t, L, IV_kp I (kp_tr mk ?_) ?_⟩ rfl
    · exact kp_49 (L := []) (fun i hi => by rw [mx 49 (by omega)]; exact f49 i hi) rfl
    · have x0 : h1 0 = h 0 := mx0 0 (Or.inl rfl)
      have x51 : h1 51 = h 51 := mx 51 (by omega)
      show h1 51 0 = h1 0 13 ∧ h1 51 1 = h1 0 14
      rw [x0, x51]; exact ⟨I.2.1.2.2.1, I.2.1.2.2.2⟩
theorem du_status {c : Nat → Nat} {T n m u t : Nat} {L : bL_} {h : hp_} (I : IV c T n m u t L h) (w : Int32) : dual mX9_status mX10_status [(1, .int w)] false false 0 h := by
  have qq := q_status I w
  have f49 : ∀ i, kpF i = true → (rX10_status_49 (h 49) (h 51) w) i = h 49 i := fun i hi => by
    have i0 := kpF_0 hi
    unfold rX10_status_49
    repeat' split
    all_goals first | rw [jj_une i0, jj_une i0] | rw [jj_une i0]
  have f0 : (rX10_status_49 (h 49) (h 51) w) 0 = 0 := by
    unfold rX10_status_49
    repeat' split
    all_goals rfl
  refine ⟨.inl (some (.int (vX9_status (h 0) w))), (vX10_status (h 49) (h 51) w), (rX10_status_49 (h 49) (h 51) w) 0, fun h1 => kp h h1 ∧ ∀ x, x = 0 ∨ 49 ≤ x → h1 x = h x, ?_, ?_, Or.inl ⟨by rw [qq], f0⟩⟩
  · intro d kc ks g Q k
    exact sp_X9_status (d := _)  (k _ ⟨kp_rf, fun _ _ => rfl⟩)
  · intro d kc ks h1 g Q hm k
    obtain ⟨mk, mx0⟩ := hm
    have mx : ∀ x, 49 ≤ x → h1 x = h x := fun x hx => mx0 x (Or.inr hx)
    have e49 : h1 49 = h 49 := mx 49 (by omega)
    have e51 : h1 51 = h 51 := mx 51 (by omega)
    refine sp_X10_status (d := _)  ?_
    rw [e49, e51]
    refine k _ ⟨c, T, n, m, u, t, L, IV_kp I (kp_tr mk ?_) ?_⟩ rfl
    · exact kp_49 (L := []) (fun i hi => by rw [mx 49 (by omega)]; exact f49 i hi) rfl
    · have x0 : h1 0 = h 0 := mx0 0 (Or.inl rfl)
      have x51 : h1 51 = h 51 := mx 51 (by omega)
      show h1 51 0 = h1 0 13 ∧ h1 51 1 = h1 0 14
      rw [x0, x51]; exact ⟨I.2.1.2.2.1, I.2.1.2.2.2⟩
theorem du_count {c : Nat → Nat} {T n m u t : Nat} {L : bL_} {h : hp_} (I : IV c T n m u t L h) (w : Int32) : dual mX9_count mX10_count [(1, .int w)] false false 0 h := by
  have qq := q_count I w
  have f49 : ∀ i, kpF i = true → (rX10_count_49 (h 49) w) i = h 49 i := fun i hi => by
    have i0 := kpF_0 hi
    unfold rX10_count_49
    repeat' split
    all_goals first | rw [jj_une i0, jj_une i0] | rw [jj_une i0]
  have f0 : (rX10_count_49 (h 49) w) 0 = 0 := by
    unfold rX10_count_49
    repeat' split
    all_goals rfl
  refine ⟨.inl (some (.int (vX9_count (h 13) (h 34) w))), (vX10_count (h 49) w), (rX10_count_49 (h 49) w) 0, fun h1 => kp h h1 ∧ ∀ x, x = 0 ∨ 49 ≤ x → h1 x = h x, ?_, ?_, Or.inl ⟨by rw [qq], f0⟩⟩
  · intro d kc ks g Q k
    exact sp_X9_count (d := _)  (k _ ⟨kp_rf, fun _ _ => rfl⟩)
  · intro d kc ks h1 g Q hm k
    obtain ⟨mk, mx0⟩ := hm
    have mx : ∀ x, 49 ≤ x → h1 x = h x := fun x hx => mx0 x (Or.inr hx)
    have e49 : h1 49 = h 49 := mx 49 (by omega)
    refine sp_X10_count (d := _)  ?_
    rw [e49]
    refine k _ ⟨c, T, n, m, u, t, L, IV_kp I (kp_tr mk ?_) ?_⟩ rfl
    · exact kp_49 (L := []) (fun i hi => by rw [mx 49 (by omega)]; exact f49 i hi) rfl
    · have x0 : h1 0 = h 0 := mx0 0 (Or.inl rfl)
      have x51 : h1 51 = h 51 := mx 51 (by omega)
      show h1 51 0 = h1 0 13 ∧ h1 51 1 = h1 0 14
      rw [x0, x51]; exact ⟨I.2.1.2.2.1, I.2.1.2.2.2⟩
theorem du_undo {c : Nat → Nat} {T n m u t : Nat} {L : bL_} {h : hp_} (I : IV c T n m u t L h) : dual mX9_undo mX10_undo [] false false 0 h := by
  obtain ⟨i, z, e⟩ := iv_undo I
  obtain ⟨⟨u1, u2, u3⟩, _⟩ := id I.2.2.2.2.2.2
  refine ⟨_, _, 0, fun h1 => h1 = hcU h u, fun d kc ks g Q k => sp_X9_undo u1 u3 (k _ rfl), fun d kc ks h1 g Q hm k => ?_, Or.inl ⟨by rw [e], rfl⟩⟩
  subst hm
  exact sp_X10_undo (h := hcU h u) u2 u3 (k _ ⟨_, _, _, _, _, _, _, i⟩ z)
theorem du_image {c : Nat → Nat} {T n m u t : Nat} {L : bL_} {h : hp_} (I : IV c T n m u t L h) : dual mX9_image mX10_image [] false false 0 h := by
  obtain ⟨⟨t2, i⟩, z, e⟩ := iv_image I
  obtain ⟨⟨u1, u2, u3⟩, ⟨t1, t9, t3⟩, _⟩ := id I.2.2.2.2.2.2
  refine ⟨_, _, 0, fun h1 => h1 = hcI h u t, fun d kc ks g Q k => sp_X9_image u1 u3 t1 t3 (k _ rfl), fun d kc ks h1 g Q hm k => ?_, Or.inl ⟨by rw [e], rfl⟩⟩
  subst hm
  exact sp_X10_image (h := hcI h u t) t9 t3 (k _ ⟨_, _, _, _, _, _, _, i⟩ z)
theorem du_restore {c : Nat → Nat} {T n m u t : Nat} {L : bL_} {h : hp_} (I : IV c T n m u t L h) : dual mX9_restore mX10_restore [] false false 0 h := by
  obtain ⟨⟨u2', t2, i⟩, z, e⟩ := iv_restore I
  obtain ⟨⟨u1, u2, u3⟩, ⟨t1, t9, t3⟩, _⟩ := id I.2.2.2.2.2.2
  refine ⟨_, _, 0, fun h1 => h1 = hcR h t, fun d kc ks g Q k => sp_X9_restore u1 u3 t1 t3 (k _ rfl), fun d kc ks h1 g Q hm k => ?_, Or.inl ⟨by rw [e], rfl⟩⟩
  subst hm
  exact sp_X10_restore (h := hcR h t) t9 t3 (k _ ⟨_, _, _, _, _, _, _, i⟩ z)
theorem du_feed {c : Nat → Nat} {T n m u t : Nat} {L : bL_} {h : hp_} (I : IV c T n m u t L h) (a b c_ d_ e_ : Int32) : dual mX9_feed mX10_feed [(1, .int a), (2, .int b), (3, .int c_), (4, .int d_), (5, .int e_)] false false 0 h := by
  obtain ⟨⟨c2, T2, i⟩, z, e⟩ := iv_feed I a b c_ d_ e_
  obtain ⟨_, _, t1, t9, t3⟩ := id I.1
  refine ⟨_, _, 0, fun h1 => h1 = hcF h T a b c_ d_ e_, fun d kc ks g Q k => sp_X9_feed t1 t3 (k _ rfl), fun d kc ks h1 g Q hm k => ?_, Or.inl ⟨by rw [e], rfl⟩⟩
  subst hm
  exact sp_X10_feed (d := _) (h := hcF h T a b c_ d_ e_) t9 t3 (k _ ⟨_, _, _, _, _, _, _, i⟩ z)
theorem ca_fault {len p d kc ks : Nat} {xs : Nat → Int32} {h : hp_} {g : Nat → Nat → Int64} {Q : jj_Rs → jj_St → Prop} (hl : len < 2 ^ 31) (hp : p + 9 ≤ len) (I : IVx h) (k : ∀ h2 g2, IVx h2 → jj_R (mLw len xs) (d + 66) kc ks (jj_S, 782, h2, g2) 2808 [(0, .ref 999998), (1, .ref 0), (2, .ref 49), (3, .ref 781), (4, .int (nI p))] [] Q) : jj_R (mLw len xs) (d + 66) (kc + 4) (ks + 24) (jj_S, 782, h, g) 533 [(0, .ref 999998), (1, .ref 0), (2, .ref 49), (3, .ref 781), (4, .int (nI p))] [] Q := by
  obtain ⟨_, _, _, _, _, _, _, I⟩ := I
  refine rr_aload_n 1 rfl rfl dL_law__533 ?_
  obtain ⟨r, v, th, mid, k1, k2, k3⟩ := du_fault I 
  obtain ⟨rfl, rfl⟩ : r = .inl (some (.int v)) ∧ th = 0 := k3.elim id (fun z => z.elim (fun z => absurd z.1 (by decide)) (fun z => absurd z.1 (by decide)))
  refine rr_callV (As := []) (rest := []) (kc2 := 4) (ks2 := 24) dL_law__534 okX9_fault lL_154 lo_0 sh_0 rfl rfl (Nat.le_of_ble_eq_true rfl) (Nat.le_of_ble_eq_true rfl) rfl (by omega) (by simp [jj_rk]) (by simp [jj_rk]) ?_
  refine k1 (d + 25) 0 0 g _ (fun h1 mm => ?_)
  show jj_R (mLw len xs) (d + 66) _ _ (jj_S, 782, h1, g) 537 [(0, .ref 999998), (1, .ref 0), (2, .ref 49), (3, .ref 781), (4, .int (nI p))] [.int v] Q
  refine rr_aload_n 2 rfl rfl dL_law__537 ?_
  refine rr_callV (As := []) (rest := [.int v]) (kc2 := 0) (ks2 := 0) dL_law__538 okX10_fault lL_157 lo_49 sh_49 rfl rfl (Nat.le_of_ble_eq_true rfl) (Nat.le_of_ble_eq_true rfl) rfl (by omega) (by simp [jj_rk]) (by simp [jj_rk]) ?_
  refine k2 (d + 1) 0 0 h1 g _ mm (fun h2 i2 t2 => ?_)
  show jj_R (mLw len xs) (d + 66) _ _ (jj_S, 782, h2, g) 541 [(0, .ref 999998), (1, .ref 0), (2, .ref 49), (3, .ref 781), (4, .int (nI p))] [.int v, .int v] Q
  exact rr_icmp_eq dL_law__541 (fun _ => k h2 g i2) (fun z => absurd rfl z)
theorem ca_days {len p d kc ks : Nat} {xs : Nat → Int32} {h : hp_} {g : Nat → Nat → Int64} {Q : jj_Rs → jj_St → Prop} (hl : len < 2 ^ 31) (hp : p + 9 ≤ len) (I : IVx h) (k : ∀ h2 g2, IVx h2 → jj_R (mLw len xs) (d + 66) kc ks (jj_S, 782, h2, g2) 2808 [(0, .ref 999998), (1, .ref 0), (2, .ref 49), (3, .ref 781), (4, .int (nI p))] [] Q) : jj_R (mLw len xs) (d + 66) (kc + 4) (ks + 24) (jj_S, 782, h, g) 2011 [(0, .ref 999998), (1, .ref 0), (2, .ref 49), (3, .ref 781), (4, .int (nI p))] [] Q := by
  obtain ⟨_, _, _, _, _, _, _, I⟩ := I
  refine rr_aload_n 1 rfl rfl dL_law__2011 ?_
  obtain ⟨r, v, th, mid, k1, k2, k3⟩ := du_days I 
  obtain ⟨rfl, rfl⟩ : r = .inl (some (.int v)) ∧ th = 0 := k3.elim id (fun z => z.elim (fun z => absurd z.1 (by decide)) (fun z => absurd z.1 (by decide)))
  refine rr_callV (As := []) (rest := []) (kc2 := 4) (ks2 := 24) dL_law__2012 okX9_days lL_229 lo_0 sh_0 rfl rfl (Nat.le_of_ble_eq_true rfl) (Nat.le_of_ble_eq_true rfl) rfl (by omega) (by simp [jj_rk]) (by simp [jj_rk]) ?_
  refine k1 (d + 25) 0 0 g _ (fun h1 mm => ?_)
  show jj_R (mLw len xs) (d + 66) _ _ (jj_S, 782, h1, g) 2015 [(0, .ref 999998), (1, .ref 0), (2, .ref 49), (3, .ref 781), (4, .int (nI p))] [.int v] Q
  refine rr_aload_n 2 rfl rfl dL_law__2015 ?_
  refine rr_callV (As := []) (rest := [.int v]) (kc2 := 0) (ks2 := 0) dL_law__2016 okX10_days lL_232 lo_49 sh_49 rfl rfl (Nat.le_of_ble_eq_true rfl) (Nat.le_of_ble_eq_true rfl) rfl (by omega) (by simp [jj_rk]) (by simp [jj_rk]) ?_
  refine k2 (d + 1) 0 0 h1 g _ mm (fun h2 i2 t2 => ?_)
  show jj_R (mLw len xs) (d + 66) _ _ (jj_S, 782, h2, g) 2019 [(0, .ref 999998), (1, .ref 0), (2, .ref 49), (3, .ref 781), (4, .int (nI p))] [.int v, .int v] Q
  exact rr_icmp_eq dL_law__2019 (fun _ => k h2 g i2) (fun z => absurd rfl z)
theorem ca_steady {len p d kc ks : Nat} {xs : Nat → Int32} {h : hp_} {g : Nat → Nat → Int64} {Q : jj_Rs → jj_St → Prop} (hl : len < 2 ^ 31) (hp : p + 9 ≤ len) (I : IVx h) (k : ∀ h2 g2, IVx h2 → jj_R (mLw len xs) (d + 66) kc ks (jj_S, 782, h2, g2) 2808 [(0, .ref 999998), (1, .ref 0), (2, .ref 49), (3, .ref 781), (4, .int (nI p))] [] Q) : jj_R (mLw len xs) (d + 66) (kc + 4) (ks + 24) (jj_S, 782, h, g) 2080 [(0, .ref 999998), (1, .ref 0), (2, .ref 49), (3, .ref 781), (4, .int (nI p))] [] Q := by
  obtain ⟨_, _, _, _, _, _, _, I⟩ := I
  refine rr_aload_n 1 rfl rfl dL_law__2080 ?_
  obtain ⟨r, v, th, mid, k1, k2, k3⟩ := du_steady I 
  obtain ⟨rfl, rfl⟩ : r = .inl (some (.int v)) ∧ th = 0 := k3.elim id (fun z => z.elim (fun z => absurd z.1 (by decide)) (fun z => absurd z.1 (by decide)))
  refine rr_callV (As := []) (rest := []) (kc2 := 4) (ks2 := 24) dL_law__2081 okX9_steady lL_236 lo_0 sh_0 rfl rfl (Nat.le_of_ble_eq_true rfl) (Nat.le_of_ble_eq_true rfl) rfl (by omega) (by simp [jj_rk]) (by simp [jj_rk]) ?_
  refine k1 (d + 25) 0 0 g _ (fun h1 mm => ?_)
  show jj_R (mLw len xs) (d + 66) _ _ (jj_S, 782, h1, g) 2084 [(0, .ref 999998), (1, .ref 0), (2, .ref 49), (3, .ref 781), (4, .int (nI p))] [.int v] Q
  refine rr_aload_n 2 rfl rfl dL_law__2084 ?_
  refine rr_callV (As := []) (rest := [.int v]) (kc2 := 0) (ks2 := 0) dL_law__2085 okX10_steady lL_239 lo_49 sh_49 rfl rfl (Nat.le_of_ble_eq_true rfl) (Nat.le_of_ble_eq_true rfl) rfl (by omega) (by simp [jj_rk]) (by simp [jj_rk]) ?_
  refine k2 (d + 1) 0 0 h1 g _ mm (fun h2 i2 t2 => ?_)
  show jj_R (mLw len xs) (d + 66) _ _ (jj_S, 782, h2, g) 2088 [(0, .ref 999998), (1, .ref 0), (2, .ref 49), (3, .ref 781), (4, .int (nI p))] [.int v, .int v] Q
  exact rr_icmp_eq dL_law__2088 (fun _ => k h2 g i2) (fun z => absurd rfl z)
theorem ca_loose {len p d kc ks : Nat} {xs : Nat → Int32} {h : hp_} {g : Nat → Nat → Int64} {Q : jj_Rs → jj_St → Prop} (hl : len < 2 ^ 31) (hp : p + 9 ≤ len) (I : IVx h) (k : ∀ h2 g2, IVx h2 → jj_R (mLw len xs) (d + 66) kc ks (jj_S, 782, h2, g2) 2808 [(0, .ref 999998), (1, .ref 0), (2, .ref 49), (3, .ref 781), (4, .int (nI p))] [] Q) : jj_R (mLw len xs) (d + 66) (kc + 4) (ks + 24) (jj_S, 782, h, g) 2341 [(0, .ref 999998), (1, .ref 0), (2, .ref 49), (3, .ref 781), (4, .int (nI p))] [] Q := by
  obtain ⟨_, _, _, _, _, _, _, I⟩ := I
  refine rr_aload_n 1 rfl rfl dL_law__2341 ?_
  obtain ⟨r, v, th, mid, k1, k2, k3⟩ := du_loose I 
  obtain ⟨rfl, rfl⟩ : r = .inl (some (.int v)) ∧ th = 0 := k3.elim id (fun z => z.elim (fun z => absurd z.1 (by decide)) (fun z => absurd z.1 (by decide)))
  refine rr_callV (As := []) (rest := []) (kc2 := 4) (ks2 := 24) dL_law__2342 okX9_loose lL_252 lo_0 sh_0 rfl rfl (Nat.le_of_ble_eq_true rfl) (Nat.le_of_ble_eq_true rfl) rfl (by omega) (by simp [jj_rk]) (by simp [jj_rk]) ?_
  refine k1 (d + 25) 0 0 g _ (fun h1 mm => ?_)
  show jj_R (mLw len xs) (d + 66) _ _ (jj_S, 782, h1, g) 2345 [(0, .ref 999998), (1, .ref 0), (2, .ref 49), (3, .ref 781), (4, .int (nI p))] [.int v] Q
  refine rr_aload_n 2 rfl rfl dL_law__2345 ?_
  refine rr_callV (As := []) (rest := [.int v]) (kc2 := 0) (ks2 := 0) dL_law__2346 okX10_loose lL_255 lo_49 sh_49 rfl rfl (Nat.le_of_ble_eq_true rfl) (Nat.le_of_ble_eq_true rfl) rfl (by omega) (by simp [jj_rk]) (by simp [jj_rk]) ?_
  refine k2 (d + 1) 0 0 h1 g _ mm (fun h2 i2 t2 => ?_)
  show jj_R (mLw len xs) (d + 66) _ _ (jj_S, 782, h2, g) 2349 [(0, .ref 999998), (1, .ref 0), (2, .ref 49), (3, .ref 781), (4, .int (nI p))] [.int v, .int v] Q
  exact rr_icmp_eq dL_law__2349 (fun _ => k h2 g i2) (fun z => absurd rfl z)
theorem ca_status {len p d kc ks : Nat} {xs : Nat → Int32} {h : hp_} {g : Nat → Nat → Int64} {Q : jj_Rs → jj_St → Prop} (hl : len < 2 ^ 31) (hp : p + 9 ≤ len) (I : IVx h) (k : ∀ h2 g2, IVx h2 → jj_R (mLw len xs) (d + 66) kc ks (jj_S, 782, h2, g2) 2808 [(0, .ref 999998), (1, .ref 0), (2, .ref 49), (3, .ref 781), (4, .int (nI p))] [] Q) : jj_R (mLw len xs) (d + 66) (kc + 4) (ks + 24) (jj_S, 782, h, g) 2758 [(0, .ref 999998), (1, .ref 0), (2, .ref 49), (3, .ref 781), (4, .int (nI p))] [] Q := by
  obtain ⟨_, _, _, _, _, _, _, I⟩ := I
  refine rr_aload_n 1 rfl rfl dL_law__2758 ?_
  refine rr_aload_n 0 rfl rfl dL_law__2759 ?_
  refine rr_iload 4 rfl dL_law__2760 ?_
  refine rr_iconst 1 rfl dL_law__2762 ?_
  refine rr_iadd dL_law__2763 ?_
  refine rr_siaload (len := len) (xs := xs) rfl dL_law__2764 (sc_in (j := 1) hl hp rfl (by decide)) ?_
  obtain ⟨r, v, th, mid, k1, k2, k3⟩ := du_status I (xs (nI p + 1).toNatClampNeg)
  obtain ⟨rfl, rfl⟩ : r = .inl (some (.int v)) ∧ th = 0 := k3.elim id (fun z => z.elim (fun z => absurd z.1 (by decide)) (fun z => absurd z.1 (by decide)))
  refine rr_callV (As := [.int (xs (nI p + 1).toNatClampNeg)]) (rest := []) (kc2 := 4) (ks2 := 24) dL_law__2765 okX9_status lL_280 lo_0 sh_0 rfl rfl (Nat.le_of_ble_eq_true rfl) (Nat.le_of_ble_eq_true rfl) rfl (by omega) (by simp [jj_rk]) (by simp [jj_rk]) ?_
  refine k1 (d + 25) 0 0 g _ (fun h1 mm => ?_)
  show jj_R (mLw len xs) (d + 66) _ _ (jj_S, 782, h1, g) 2768 [(0, .ref 999998), (1, .ref 0), (2, .ref 49), (3, .ref 781), (4, .int (nI p))] [.int v] Q
  refine rr_aload_n 2 rfl rfl dL_law__2768 ?_
  refine rr_aload_n 0 rfl rfl dL_law__2769 ?_
  refine rr_iload 4 rfl dL_law__2770 ?_
  refine rr_iconst 1 rfl dL_law__2772 ?_
  refine rr_iadd dL_law__2773 ?_
  refine rr_siaload (len := len) (xs := xs) rfl dL_law__2774 (sc_in (j := 1) hl hp rfl (by decide)) ?_
  refine rr_callV (As := [.int (xs (nI p + 1).toNatClampNeg)]) (rest := [.int v]) (kc2 := 0) (ks2 := 0) dL_law__2775 okX10_status lL_283 lo_49 sh_49 rfl rfl (Nat.le_of_ble_eq_true rfl) (Nat.le_of_ble_eq_true rfl) rfl (by omega) (by simp [jj_rk]) (by simp [jj_rk]) ?_
  refine k2 (d + 1) 0 0 h1 g _ mm (fun h2 i2 t2 => ?_)
  show jj_R (mLw len xs) (d + 66) _ _ (jj_S, 782, h2, g) 2778 [(0, .ref 999998), (1, .ref 0), (2, .ref 49), (3, .ref 781), (4, .int (nI p))] [.int v, .int v] Q
  exact rr_icmp_eq dL_law__2778 (fun _ => k h2 g i2) (fun z => absurd rfl z)
theorem ca_count {len p d kc ks : Nat} {xs : Nat → Int32} {h : hp_} {g : Nat → Nat → Int64} {Q : jj_Rs → jj_St → Prop} (hl : len < 2 ^ 31) (hp : p + 9 ≤ len) (I : IVx h) (k : ∀ h2 g2, IVx h2 → jj_R (mLw len xs) (d + 66) kc ks (jj_S, 782, h2, g2) 2808 [(0, .ref 999998), (1, .ref 0), (2, .ref 49), (3, .ref 781), (4, .int (nI p))] [] Q) : jj_R (mLw len xs) (d + 66) (kc + 4) (ks + 24) (jj_S, 782, h, g) 2783 [(0, .ref 999998), (1, .ref 0), (2, .ref 49), (3, .ref 781), (4, .int (nI p))] [] Q := by
  obtain ⟨_, _, _, _, _, _, _, I⟩ := I
  refine rr_aload_n 1 rfl rfl dL_law__2783 ?_
  refine rr_aload_n 0 rfl rfl dL_law__2784 ?_
  refine rr_iload 4 rfl dL_law__2785 ?_
  refine rr_iconst 1 rfl dL_law__2787 ?_
  refine rr_iadd dL_law__2788 ?_
  refine rr_siaload (len := len) (xs := xs) rfl dL_law__2789 (sc_in (j := 1) hl hp rfl (by decide)) ?_
  obtain ⟨r, v, th, mid, k1, k2, k3⟩ := du_count I (xs (nI p + 1).toNatClampNeg)
  obtain ⟨rfl, rfl⟩ : r = .inl (some (.int v)) ∧ th = 0 := k3.elim id (fun z => z.elim (fun z => absurd z.1 (by decide)) (fun z => absurd z.1 (by decide)))
  refine rr_callV (As := [.int (xs (nI p + 1).toNatClampNeg)]) (rest := []) (kc2 := 4) (ks2 := 24) dL_law__2790 okX9_count lL_284 lo_0 sh_0 rfl rfl (Nat.le_of_ble_eq_true rfl) (Nat.le_of_ble_eq_true rfl) rfl (by omega) (by simp [jj_rk]) (by simp [jj_rk]) ?_
  refine k1 (d + 25) 0 0 g _ (fun h1 mm => ?_)
  show jj_R (mLw len xs) (d + 66) _ _ (jj_S, 782, h1, g) 2793 [(0, .ref 999998), (1, .ref 0), (2, .ref 49), (3, .ref 781), (4, .int (nI p))] [.int v] Q
  refine rr_aload_n 2 rfl rfl dL_law__2793 ?_
  refine rr_aload_n 0 rfl rfl dL_law__2794 ?_
  refine rr_iload 4 rfl dL_law__2795 ?_
  refine rr_iconst 1 rfl dL_law__2797 ?_
  refine rr_iadd dL_law__2798 ?_
  refine rr_siaload (len := len) (xs := xs) rfl dL_law__2799 (sc_in (j := 1) hl hp rfl (by decide)) ?_
  refine rr_callV (As := [.int (xs (nI p + 1).toNatClampNeg)]) (rest := [.int v]) (kc2 := 0) (ks2 := 0) dL_law__2800 okX10_count lL_287 lo_49 sh_49 rfl rfl (Nat.le_of_ble_eq_true rfl) (Nat.le_of_ble_eq_true rfl) rfl (by omega) (by simp [jj_rk]) (by simp [jj_rk]) ?_
  refine k2 (d + 1) 0 0 h1 g _ mm (fun h2 i2 t2 => ?_)
  show jj_R (mLw len xs) (d + 66) _ _ (jj_S, 782, h2, g) 2803 [(0, .ref 999998), (1, .ref 0), (2, .ref 49), (3, .ref 781), (4, .int (nI p))] [.int v, .int v] Q
  exact rr_icmp_eq dL_law__2803 (fun _ => k h2 g i2) (fun z => absurd rfl z)
theorem ca_undo {len p d kc ks : Nat} {xs : Nat → Int32} {h : hp_} {g : Nat → Nat → Int64} {Q : jj_Rs → jj_St → Prop} (hl : len < 2 ^ 31) (hp : p + 9 ≤ len) (I : IVx h) (k : ∀ h2 g2, IVx h2 → jj_R (mLw len xs) (d + 66) kc ks (jj_S, 782, h2, g2) 2808 [(0, .ref 999998), (1, .ref 0), (2, .ref 49), (3, .ref 781), (4, .int (nI p))] [] Q) : jj_R (mLw len xs) (d + 66) (kc + 4) (ks + 24) (jj_S, 782, h, g) 546 [(0, .ref 999998), (1, .ref 0), (2, .ref 49), (3, .ref 781), (4, .int (nI p))] [] Q := by
  obtain ⟨_, _, _, _, _, _, _, I⟩ := I
  refine rr_aload_n 1 rfl rfl dL_law__546 ?_
  obtain ⟨r, v, th, mid, k1, k2, k3⟩ := du_undo I 
  obtain ⟨rfl, rfl⟩ : r = .inl (some (.int v)) ∧ th = 0 := k3.elim id (fun z => z.elim (fun z => absurd z.1 (by decide)) (fun z => absurd z.1 (by decide)))
  refine rr_callV (As := []) (rest := []) (kc2 := 4) (ks2 := 24) dL_law__547 okX9_undo lL_158 lo_0 sh_0 rfl rfl (Nat.le_of_ble_eq_true rfl) (Nat.le_of_ble_eq_true rfl) rfl (by omega) (by simp [jj_rk]) (by simp [jj_rk]) ?_
  refine k1 (d + 25) 0 0 g _ (fun h1 mm => ?_)
  show jj_R (mLw len xs) (d + 66) _ _ (jj_S, 782, h1, g) 550 [(0, .ref 999998), (1, .ref 0), (2, .ref 49), (3, .ref 781), (4, .int (nI p))] [.int v] Q
  refine rr_aload_n 2 rfl rfl dL_law__550 ?_
  refine rr_callV (As := []) (rest := [.int v]) (kc2 := 0) (ks2 := 0) dL_law__551 okX10_undo lL_161 lo_49 sh_49 rfl rfl (Nat.le_of_ble_eq_true rfl) (Nat.le_of_ble_eq_true rfl) rfl (by omega) (by simp [jj_rk]) (by simp [jj_rk]) ?_
  refine k2 (d + 1) 0 0 h1 g _ mm (fun h2 i2 t2 => ?_)
  show jj_R (mLw len xs) (d + 66) _ _ (jj_S, 782, h2, g) 554 [(0, .ref 999998), (1, .ref 0), (2, .ref 49), (3, .ref 781), (4, .int (nI p))] [.int v, .int v] Q
  exact rr_icmp_eq dL_law__554 (fun _ => k h2 g i2) (fun z => absurd rfl z)
theorem ca_image {len p d kc ks : Nat} {xs : Nat → Int32} {h : hp_} {g : Nat → Nat → Int64} {Q : jj_Rs → jj_St → Prop} (hl : len < 2 ^ 31) (hp : p + 9 ≤ len) (I : IVx h) (k : ∀ h2 g2, IVx h2 → jj_R (mLw len xs) (d + 66) kc ks (jj_S, 782, h2, g2) 2808 [(0, .ref 999998), (1, .ref 0), (2, .ref 49), (3, .ref 781), (4, .int (nI p))] [] Q) : jj_R (mLw len xs) (d + 66) (kc + 4) (ks + 24) (jj_S, 782, h, g) 2732 [(0, .ref 999998), (1, .ref 0), (2, .ref 49), (3, .ref 781), (4, .int (nI p))] [] Q := by
  obtain ⟨_, _, _, _, _, _, _, I⟩ := I
  refine rr_aload_n 1 rfl rfl dL_law__2732 ?_
  obtain ⟨r, v, th, mid, k1, k2, k3⟩ := du_image I 
  obtain ⟨rfl, rfl⟩ : r = .inl (some (.int v)) ∧ th = 0 := k3.elim id (fun z => z.elim (fun z => absurd z.1 (by decide)) (fun z => absurd z.1 (by decide)))
  refine rr_callV (As := []) (rest := []) (kc2 := 4) (ks2 := 24) dL_law__2733 okX9_image lL_272 lo_0 sh_0 rfl rfl (Nat.le_of_ble_eq_true rfl) (Nat.le_of_ble_eq_true rfl) rfl (by omega) (by simp [jj_rk]) (by simp [jj_rk]) ?_
  refine k1 (d + 25) 0 0 g _ (fun h1 mm => ?_)
  show jj_R (mLw len xs) (d + 66) _ _ (jj_S, 782, h1, g) 2736 [(0, .ref 999998), (1, .ref 0), (2, .ref 49), (3, .ref 781), (4, .int (nI p))] [.int v] Q
  refine rr_aload_n 2 rfl rfl dL_law__2736 ?_
  refine rr_callV (As := []) (rest := [.int v]) (kc2 := 0) (ks2 := 0) dL_law__2737 okX10_image lL_275 lo_49 sh_49 rfl rfl (Nat.le_of_ble_eq_true rfl) (Nat.le_of_ble_eq_true rfl) rfl (by omega) (by simp [jj_rk]) (by simp [jj_rk]) ?_
  refine k2 (d + 1) 0 0 h1 g _ mm (fun h2 i2 t2 => ?_)
  show jj_R (mLw len xs) (d + 66) _ _ (jj_S, 782, h2, g) 2740 [(0, .ref 999998), (1, .ref 0), (2, .ref 49), (3, .ref 781), (4, .int (nI p))] [.int v, .int v] Q
  exact rr_icmp_eq dL_law__2740 (fun _ => k h2 g i2) (fun z => absurd rfl z)
theorem ca_restore {len p d kc ks : Nat} {xs : Nat → Int32} {h : hp_} {g : Nat → Nat → Int64} {Q : jj_Rs → jj_St → Prop} (hl : len < 2 ^ 31) (hp : p + 9 ≤ len) (I : IVx h) (k : ∀ h2 g2, IVx h2 → jj_R (mLw len xs) (d + 66) kc ks (jj_S, 782, h2, g2) 2808 [(0, .ref 999998), (1, .ref 0), (2, .ref 49), (3, .ref 781), (4, .int (nI p))] [] Q) : jj_R (mLw len xs) (d + 66) (kc + 4) (ks + 24) (jj_S, 782, h, g) 2745 [(0, .ref 999998), (1, .ref 0), (2, .ref 49), (3, .ref 781), (4, .int (nI p))] [] Q := by
  obtain ⟨_, _, _, _, _, _, _, I⟩ := I
  refine rr_aload_n 1 rfl rfl dL_law__2745 ?_
  obtain ⟨r, v, th, mid, k1, k2, k3⟩ := du_restore I 
  obtain ⟨rfl, rfl⟩ : r = .inl (some (.int v)) ∧ th = 0 := k3.elim id (fun z => z.elim (fun z => absurd z.1 (by decide)) (fun z => absurd z.1 (by decide)))
  refine rr_callV (As := []) (rest := []) (kc2 := 4) (ks2 := 24) dL_law__2746 okX9_restore lL_276 lo_0 sh_0 rfl rfl (Nat.le_of_ble_eq_true rfl) (Nat.le_of_ble_eq_true rfl) rfl (by omega) (by simp [jj_rk]) (by simp [jj_rk]) ?_
  refine k1 (d + 25) 0 0 g _ (fun h1 mm => ?_)
  show jj_R (mLw len xs) (d + 66) _ _ (jj_S, 782, h1, g) 2749 [(0, .ref 999998), (1, .ref 0), (2, .ref 49), (3, .ref 781), (4, .int (nI p))] [.int v] Q
  refine rr_aload_n 2 rfl rfl dL_law__2749 ?_
  refine rr_callV (As := []) (rest := [.int v]) (kc2 := 0) (ks2 := 0) dL_law__2750 okX10_restore lL_279 lo_49 sh_49 rfl rfl (Nat.le_of_ble_eq_true rfl) (Nat.le_of_ble_eq_true rfl) rfl (by omega) (by simp [jj_rk]) (by simp [jj_rk]) ?_
  refine k2 (d + 1) 0 0 h1 g _ mm (fun h2 i2 t2 => ?_)
  show jj_R (mLw len xs) (d + 66) _ _ (jj_S, 782, h2, g) 2753 [(0, .ref 999998), (1, .ref 0), (2, .ref 49), (3, .ref 781), (4, .int (nI p))] [.int v, .int v] Q
  exact rr_icmp_eq dL_law__2753 (fun _ => k h2 g i2) (fun z => absurd rfl z)
theorem ca_feed {len p d kc ks : Nat} {xs : Nat → Int32} {h : hp_} {g : Nat → Nat → Int64} {Q : jj_Rs → jj_St → Prop} (hl : len < 2 ^ 31) (hp : p + 9 ≤ len) (I : IVx h) (k : ∀ h2 g2, IVx h2 → jj_R (mLw len xs) (d + 66) kc ks (jj_S, 782, h2, g2) 2808 [(0, .ref 999998), (1, .ref 0), (2, .ref 49), (3, .ref 781), (4, .int (nI p))] [] Q) : jj_R (mLw len xs) (d + 66) (kc + 4) (ks + 24) (jj_S, 782, h, g) 236 [(0, .ref 999998), (1, .ref 0), (2, .ref 49), (3, .ref 781), (4, .int (nI p))] [] Q := by
  obtain ⟨_, _, _, _, _, _, _, I⟩ := I
  refine rr_aload_n 1 rfl rfl dL_law__236 ?_
  refine rr_aload_n 0 rfl rfl dL_law__237 ?_
  refine rr_iload 4 rfl dL_law__238 ?_
  refine rr_iconst 1 rfl dL_law__240 ?_
  refine rr_iadd dL_law__241 ?_
  refine rr_siaload (len := len) (xs := xs) rfl dL_law__242 (sc_in (j := 1) hl hp rfl (by decide)) ?_
  refine rr_aload_n 0 rfl rfl dL_law__243 ?_
  refine rr_iload 4 rfl dL_law__244 ?_
  refine rr_iconst 2 rfl dL_law__246 ?_
  refine rr_iadd dL_law__247 ?_
  refine rr_siaload (len := len) (xs := xs) rfl dL_law__248 (sc_in (j := 2) hl hp rfl (by decide)) ?_
  refine rr_aload_n 0 rfl rfl dL_law__249 ?_
  refine rr_iload 4 rfl dL_law__250 ?_
  refine rr_iconst 3 rfl dL_law__252 ?_
  refine rr_iadd dL_law__253 ?_
  refine rr_siaload (len := len) (xs := xs) rfl dL_law__254 (sc_in (j := 3) hl hp rfl (by decide)) ?_
  refine rr_aload_n 0 rfl rfl dL_law__255 ?_
  refine rr_iload 4 rfl dL_law__256 ?_
  refine rr_iconst 4 rfl dL_law__258 ?_
  refine rr_iadd dL_law__259 ?_
  refine rr_siaload (len := len) (xs := xs) rfl dL_law__260 (sc_in (j := 4) hl hp rfl (by decide)) ?_
  refine rr_aload_n 0 rfl rfl dL_law__261 ?_
  refine rr_iload 4 rfl dL_law__262 ?_
  refine rr_iconst 5 rfl dL_law__264 ?_
  refine rr_iadd dL_law__265 ?_
  refine rr_siaload (len := len) (xs := xs) rfl dL_law__266 (sc_in (j := 5) hl hp rfl (by decide)) ?_
  obtain ⟨r, v, th, mid, k1, k2, k3⟩ := du_feed I (xs (nI p + 1).toNatClampNeg) (xs (nI p + 2).toNatClampNeg) (xs (nI p + 3).toNatClampNeg) (xs (nI p + 4).toNatClampNeg) (xs (nI p + 5).toNatClampNeg)
  obtain ⟨rfl, rfl⟩ : r = .inl (some (.int v)) ∧ th = 0 := k3.elim id (fun z => z.elim (fun z => absurd z.1 (by decide)) (fun z => absurd z.1 (by decide)))
  refine rr_callV (As := [.int (xs (nI p + 1).toNatClampNeg), .int (xs (nI p + 2).toNatClampNeg), .int (xs (nI p + 3).toNatClampNeg), .int (xs (nI p + 4).toNatClampNeg), .int (xs (nI p + 5).toNatClampNeg)]) (rest := []) (kc2 := 4) (ks2 := 24) dL_law__267 okX9_feed lL_130 lo_0 sh_0 rfl rfl (Nat.le_of_ble_eq_true rfl) (Nat.le_of_ble_eq_true rfl) rfl (by omega) (by simp [jj_rk]) (by simp [jj_rk]) ?_
  refine k1 (d + 25) 0 0 g _ (fun h1 mm => ?_)
  show jj_R (mLw len xs) (d + 66) _ _ (jj_S, 782, h1, g) 270 [(0, .ref 999998), (1, .ref 0), (2, .ref 49), (3, .ref 781), (4, .int (nI p))] [.int v] Q
  refine rr_aload_n 2 rfl rfl dL_law__270 ?_
  refine rr_aload_n 0 rfl rfl dL_law__271 ?_
  refine rr_iload 4 rfl dL_law__272 ?_
  refine rr_iconst 1 rfl dL_law__274 ?_
  refine rr_iadd dL_law__275 ?_
  refine rr_siaload (len := len) (xs := xs) rfl dL_law__276 (sc_in (j := 1) hl hp rfl (by decide)) ?_
  refine rr_aload_n 0 rfl rfl dL_law__277 ?_
  refine rr_iload 4 rfl dL_law__278 ?_
  refine rr_iconst 2 rfl dL_law__280 ?_
  refine rr_iadd dL_law__281 ?_
  refine rr_siaload (len := len) (xs := xs) rfl dL_law__282 (sc_in (j := 2) hl hp rfl (by decide)) ?_
  refine rr_aload_n 0 rfl rfl dL_law__283 ?_
  refine rr_iload 4 rfl dL_law__284 ?_
  refine rr_iconst 3 rfl dL_law__286 ?_
  refine rr_iadd dL_law__287 ?_
  refine rr_siaload (len := len) (xs := xs) rfl dL_law__288 (sc_in (j := 3) hl hp rfl (by decide)) ?_
  refine rr_aload_n 0 rfl rfl dL_law__289 ?_
  refine rr_iload 4 rfl dL_law__290 ?_
  refine rr_iconst 4 rfl dL_law__292 ?_
  refine rr_iadd dL_law__293 ?_
  refine rr_siaload (len := len) (xs := xs) rfl dL_law__294 (sc_in (j := 4) hl hp rfl (by decide)) ?_
  refine rr_aload_n 0 rfl rfl dL_law__295 ?_
  refine rr_iload 4 rfl dL_law__296 ?_
  refine rr_iconst 5 rfl dL_law__298 ?_
  refine rr_iadd dL_law__299 ?_
  refine rr_siaload (len := len) (xs := xs) rfl dL_law__300 (sc_in (j := 5) hl hp rfl (by decide)) ?_
  refine rr_callV (As := [.int (xs (nI p + 1).toNatClampNeg), .int (xs (nI p + 2).toNatClampNeg), .int (xs (nI p + 3).toNatClampNeg), .int (xs (nI p + 4).toNatClampNeg), .int (xs (nI p + 5).toNatClampNeg)]) (rest := [.int v]) (kc2 := 0) (ks2 := 0) dL_law__301 okX10_feed lL_134 lo_49 sh_49 rfl rfl (Nat.le_of_ble_eq_true rfl) (Nat.le_of_ble_eq_true rfl) rfl (by omega) (by simp [jj_rk]) (by simp [jj_rk]) ?_
  refine k2 (d + 1) 0 0 h1 g _ mm (fun h2 i2 t2 => ?_)
  show jj_R (mLw len xs) (d + 66) _ _ (jj_S, 782, h2, g) 304 [(0, .ref 999998), (1, .ref 0), (2, .ref 49), (3, .ref 781), (4, .int (nI p))] [.int v, .int v] Q
  exact rr_icmp_eq dL_law__304 (fun _ => k h2 g i2) (fun z => absurd rfl z)
