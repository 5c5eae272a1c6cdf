theorem sp_len_1 {d kc ks : Nat} {h : Nat → Nat → Int32} {g : Nat → Nat → Int64} {Q : jj_Rs → jj_St → Prop} (kq : Q (.inl (some (.int 6))) (jj_S, 782, h, g)) : jj_R mJ_length (d + 1) kc ks (jj_S, 782, h, g) 0 [(0, .ref (1000000 + 1))] [] Q := by
  refine sp_slen (i := 1) rfl ?_
  show Q (.inl (some (.int (Int32.ofNat 6 >>> ((0 : Int32) &&& 31))))) _
  rw [show (Int32.ofNat 6 >>> ((0 : Int32) &&& 31)) = 6 by decide]
  exact kq
theorem sp_ch_1_0 {d kc ks : Nat} {h : Nat → Nat → Int32} {g : Nat → Nat → Int64} {Q : jj_Rs → jj_St → Prop} (kq : Q (.inl (some (.int 112))) (jj_S, 782, h, g)) : jj_R mJ_charAt (d + 3) kc ks (jj_S, 782, h, g) 0 [(0, .ref (1000000 + 1)), (1, .int 0)] [] Q :=
  sp_charAt (i := 1) (j := 0) rfl (by decide) (show (0 : Int32) < Int32.ofNat 6 by decide) (jj_inL rfl) rfl rfl rfl kq
theorem sp_ch_1_1 {d kc ks : Nat} {h : Nat → Nat → Int32} {g : Nat → Nat → Int64} {Q : jj_Rs → jj_St → Prop} (kq : Q (.inl (some (.int 101))) (jj_S, 782, h, g)) : jj_R mJ_charAt (d + 3) kc ks (jj_S, 782, h, g) 0 [(0, .ref (1000000 + 1)), (1, .int 1)] [] Q :=
  sp_charAt (i := 1) (j := 1) rfl (by decide) (show (1 : Int32) < Int32.ofNat 6 by decide) (jj_inL rfl) rfl rfl rfl kq
theorem sp_ch_1_2 {d kc ks : Nat} {h : Nat → Nat → Int32} {g : Nat → Nat → Int64} {Q : jj_Rs → jj_St → Prop} (kq : Q (.inl (some (.int 114))) (jj_S, 782, h, g)) : jj_R mJ_charAt (d + 3) kc ks (jj_S, 782, h, g) 0 [(0, .ref (1000000 + 1)), (1, .int 2)] [] Q :=
  sp_charAt (i := 1) (j := 2) rfl (by decide) (show (2 : Int32) < Int32.ofNat 6 by decide) (jj_inL rfl) rfl rfl rfl kq
theorem sp_ch_1_3 {d kc ks : Nat} {h : Nat → Nat → Int32} {g : Nat → Nat → Int64} {Q : jj_Rs → jj_St → Prop} (kq : Q (.inl (some (.int 115))) (jj_S, 782, h, g)) : jj_R mJ_charAt (d + 3) kc ks (jj_S, 782, h, g) 0 [(0, .ref (1000000 + 1)), (1, .int 3)] [] Q :=
  sp_charAt (i := 1) (j := 3) rfl (by decide) (show (3 : Int32) < Int32.ofNat 6 by decide) (jj_inL rfl) rfl rfl rfl kq
theorem sp_ch_1_4 {d kc ks : Nat} {h : Nat → Nat → Int32} {g : Nat → Nat → Int64} {Q : jj_Rs → jj_St → Prop} (kq : Q (.inl (some (.int 111))) (jj_S, 782, h, g)) : jj_R mJ_charAt (d + 3) kc ks (jj_S, 782, h, g) 0 [(0, .ref (1000000 + 1)), (1, .int 4)] [] Q :=
  sp_charAt (i := 1) (j := 4) rfl (by decide) (show (4 : Int32) < Int32.ofNat 6 by decide) (jj_inL rfl) rfl rfl rfl kq
theorem sp_ch_1_5 {d kc ks : Nat} {h : Nat → Nat → Int32} {g : Nat → Nat → Int64} {Q : jj_Rs → jj_St → Prop} (kq : Q (.inl (some (.int 110))) (jj_S, 782, h, g)) : jj_R mJ_charAt (d + 3) kc ks (jj_S, 782, h, g) 0 [(0, .ref (1000000 + 1)), (1, .int 5)] [] Q :=
  sp_charAt (i := 1) (j := 5) rfl (by decide) (show (5 : Int32) < Int32.ofNat 6 by decide) (jj_inL rfl) rfl rfl rfl kq
theorem sp_len_2 {d kc ks : Nat} {h : Nat → Nat → Int32} {g : Nat → Nat → Int64} {Q : jj_Rs → jj_St → Prop} (kq : Q (.inl (some (.int 6))) (jj_S, 782, h, g)) : jj_R mJ_length (d + 1) kc ks (jj_S, 782, h, g) 0 [(0, .ref (1000000 + 2))] [] Q := by
  refine sp_slen (i := 2) rfl ?_
  show Q (.inl (some (.int (Int32.ofNat 6 >>> ((0 : Int32) &&& 31))))) _
  rw [show (Int32.ofNat 6 >>> ((0 : Int32) &&& 31)) = 6 by decide]
  exact kq
theorem sp_ch_2_0 {d kc ks : Nat} {h : Nat → Nat → Int32} {g : Nat → Nat → Int64} {Q : jj_Rs → jj_St → Prop} (kq : Q (.inl (some (.int 102))) (jj_S, 782, h, g)) : jj_R mJ_charAt (d + 3) kc ks (jj_S, 782, h, g) 0 [(0, .ref (1000000 + 2)), (1, .int 0)] [] Q :=
  sp_charAt (i := 2) (j := 0) rfl (by decide) (show (0 : Int32) < Int32.ofNat 6 by decide) (jj_inL rfl) rfl rfl rfl kq
theorem sp_ch_2_1 {d kc ks : Nat} {h : Nat → Nat → Int32} {g : Nat → Nat → Int64} {Q : jj_Rs → jj_St → Prop} (kq : Q (.inl (some (.int 114))) (jj_S, 782, h, g)) : jj_R mJ_charAt (d + 3) kc ks (jj_S, 782, h, g) 0 [(0, .ref (1000000 + 2)), (1, .int 1)] [] Q :=
  sp_charAt (i := 2) (j := 1) rfl (by decide) (show (1 : Int32) < Int32.ofNat 6 by decide) (jj_inL rfl) rfl rfl rfl kq
theorem sp_ch_2_2 {d kc ks : Nat} {h : Nat → Nat → Int32} {g : Nat → Nat → Int64} {Q : jj_Rs → jj_St → Prop} (kq : Q (.inl (some (.int 105))) (jj_S, 782, h, g)) : jj_R mJ_charAt (d + 3) kc ks (jj_S, 782, h, g) 0 [(0, .ref (1000000 + 2)), (1, .int 2)] [] Q :=
  sp_charAt (i := 2) (j := 2) rfl (by decide) (show (2 : Int32) < Int32.ofNat 6 by decide) (jj_inL rfl) rfl rfl rfl kq
theorem sp_ch_2_3 {d kc ks : Nat} {h : Nat → Nat → Int32} {g : Nat → Nat → Int64} {Q : jj_Rs → jj_St → Prop} (kq : Q (.inl (some (.int 101))) (jj_S, 782, h, g)) : jj_R mJ_charAt (d + 3) kc ks (jj_S, 782, h, g) 0 [(0, .ref (1000000 + 2)), (1, .int 3)] [] Q :=
  sp_charAt (i := 2) (j := 3) rfl (by decide) (show (3 : Int32) < Int32.ofNat 6 by decide) (jj_inL rfl) rfl rfl rfl kq
theorem sp_ch_2_4 {d kc ks : Nat} {h : Nat → Nat → Int32} {g : Nat → Nat → Int64} {Q : jj_Rs → jj_St → Prop} (kq : Q (.inl (some (.int 110))) (jj_S, 782, h, g)) : jj_R mJ_charAt (d + 3) kc ks (jj_S, 782, h, g) 0 [(0, .ref (1000000 + 2)), (1, .int 4)] [] Q :=
  sp_charAt (i := 2) (j := 4) rfl (by decide) (show (4 : Int32) < Int32.ofNat 6 by decide) (jj_inL rfl) rfl rfl rfl kq
theorem sp_ch_2_5 {d kc ks : Nat} {h : Nat → Nat → Int32} {g : Nat → Nat → Int64} {Q : jj_Rs → jj_St → Prop} (kq : Q (.inl (some (.int 100))) (jj_S, 782, h, g)) : jj_R mJ_charAt (d + 3) kc ks (jj_S, 782, h, g) 0 [(0, .ref (1000000 + 2)), (1, .int 5)] [] Q :=
  sp_charAt (i := 2) (j := 5) rfl (by decide) (show (5 : Int32) < Int32.ofNat 6 by decide) (jj_inL rfl) rfl rfl rfl kq
theorem sp_len_3 {d kc ks : Nat} {h : Nat → Nat → Int32} {g : Nat → Nat → Int64} {Q : jj_Rs → jj_St → Prop} (kq : Q (.inl (some (.int 6))) (jj_S, 782, h, g)) : jj_R mJ_length (d + 1) kc ks (jj_S, 782, h, g) 0 [(0, .ref (1000000 + 3))] [] Q := by
  refine sp_slen (i := 3) rfl ?_
  show Q (.inl (some (.int (Int32.ofNat 6 >>> ((0 : Int32) &&& 31))))) _
  rw [show (Int32.ofNat 6 >>> ((0 : Int32) &&& 31)) = 6 by decide]
  exact kq
theorem sp_ch_3_0 {d kc ks : Nat} {h : Nat → Nat → Int32} {g : Nat → Nat → Int64} {Q : jj_Rs → jj_St → Prop} (kq : Q (.inl (some (.int 115))) (jj_S, 782, h, g)) : jj_R mJ_charAt (d + 3) kc ks (jj_S, 782, h, g) 0 [(0, .ref (1000000 + 3)), (1, .int 0)] [] Q :=
  sp_charAt (i := 3) (j := 0) rfl (by decide) (show (0 : Int32) < Int32.ofNat 6 by decide) (jj_inL rfl) rfl rfl rfl kq
theorem sp_ch_3_1 {d kc ks : Nat} {h : Nat → Nat → Int32} {g : Nat → Nat → Int64} {Q : jj_Rs → jj_St → Prop} (kq : Q (.inl (some (.int 116))) (jj_S, 782, h, g)) : jj_R mJ_charAt (d + 3) kc ks (jj_S, 782, h, g) 0 [(0, .ref (1000000 + 3)), (1, .int 1)] [] Q :=
  sp_charAt (i := 3) (j := 1) rfl (by decide) (show (1 : Int32) < Int32.ofNat 6 by decide) (jj_inL rfl) rfl rfl rfl kq
theorem sp_ch_3_2 {d kc ks : Nat} {h : Nat → Nat → Int32} {g : Nat → Nat → Int64} {Q : jj_Rs → jj_St → Prop} (kq : Q (.inl (some (.int 114))) (jj_S, 782, h, g)) : jj_R mJ_charAt (d + 3) kc ks (jj_S, 782, h, g) 0 [(0, .ref (1000000 + 3)), (1, .int 2)] [] Q :=
  sp_charAt (i := 3) (j := 2) rfl (by decide) (show (2 : Int32) < Int32.ofNat 6 by decide) (jj_inL rfl) rfl rfl rfl kq
theorem sp_ch_3_3 {d kc ks : Nat} {h : Nat → Nat → Int32} {g : Nat → Nat → Int64} {Q : jj_Rs → jj_St → Prop} (kq : Q (.inl (some (.int 105))) (jj_S, 782, h, g)) : jj_R mJ_charAt (d + 3) kc ks (jj_S, 782, h, g) 0 [(0, .ref (1000000 + 3)), (1, .int 3)] [] Q :=
  sp_charAt (i := 3) (j := 3) rfl (by decide) (show (3 : Int32) < Int32.ofNat 6 by decide) (jj_inL rfl) rfl rfl rfl kq
theorem sp_ch_3_4 {d kc ks : Nat} {h : Nat → Nat → Int32} {g : Nat → Nat → Int64} {Q : jj_Rs → jj_St → Prop} (kq : Q (.inl (some (.int 110))) (jj_S, 782, h, g)) : jj_R mJ_charAt (d + 3) kc ks (jj_S, 782, h, g) 0 [(0, .ref (1000000 + 3)), (1, .int 4)] [] Q :=
  sp_charAt (i := 3) (j := 4) rfl (by decide) (show (4 : Int32) < Int32.ofNat 6 by decide) (jj_inL rfl) rfl rfl rfl kq
theorem sp_ch_3_5 {d kc ks : Nat} {h : Nat → Nat → Int32} {g : Nat → Nat → Int64} {Q : jj_Rs → jj_St → Prop} (kq : Q (.inl (some (.int 103))) (jj_S, 782, h, g)) : jj_R mJ_charAt (d + 3) kc ks (jj_S, 782, h, g) 0 [(0, .ref (1000000 + 3)), (1, .int 5)] [] Q :=
  sp_charAt (i := 3) (j := 5) rfl (by decide) (show (5 : Int32) < Int32.ofNat 6 by decide) (jj_inL rfl) rfl rfl rfl kq
theorem sp_len_4 {d kc ks : Nat} {h : Nat → Nat → Int32} {g : Nat → Nat → Int64} {Q : jj_Rs → jj_St → Prop} (kq : Q (.inl (some (.int 7))) (jj_S, 782, h, g)) : jj_R mJ_length (d + 1) kc ks (jj_S, 782, h, g) 0 [(0, .ref (1000000 + 4))] [] Q := by
  refine sp_slen (i := 4) rfl ?_
  show Q (.inl (some (.int (Int32.ofNat 7 >>> ((0 : Int32) &&& 31))))) _
  rw [show (Int32.ofNat 7 >>> ((0 : Int32) &&& 31)) = 7 by decide]
  exact kq
theorem sp_ch_4_0 {d kc ks : Nat} {h : Nat → Nat → Int32} {g : Nat → Nat → Int64} {Q : jj_Rs → jj_St → Prop} (kq : Q (.inl (some (.int 102))) (jj_S, 782, h, g)) : jj_R mJ_charAt (d + 3) kc ks (jj_S, 782, h, g) 0 [(0, .ref (1000000 + 4)), (1, .int 0)] [] Q :=
  sp_charAt (i := 4) (j := 0) rfl (by decide) (show (0 : Int32) < Int32.ofNat 7 by decide) (jj_inL rfl) rfl rfl rfl kq
theorem sp_ch_4_1 {d kc ks : Nat} {h : Nat → Nat → Int32} {g : Nat → Nat → Int64} {Q : jj_Rs → jj_St → Prop} (kq : Q (.inl (some (.int 105))) (jj_S, 782, h, g)) : jj_R mJ_charAt (d + 3) kc ks (jj_S, 782, h, g) 0 [(0, .ref (1000000 + 4)), (1, .int 1)] [] Q :=
  sp_charAt (i := 4) (j := 1) rfl (by decide) (show (1 : Int32) < Int32.ofNat 7 by decide) (jj_inL rfl) rfl rfl rfl kq
theorem sp_ch_4_2 {d kc ks : Nat} {h : Nat → Nat → Int32} {g : Nat → Nat → Int64} {Q : jj_Rs → jj_St → Prop} (kq : Q (.inl (some (.int 110))) (jj_S, 782, h, g)) : jj_R mJ_charAt (d + 3) kc ks (jj_S, 782, h, g) 0 [(0, .ref (1000000 + 4)), (1, .int 2)] [] Q :=
  sp_charAt (i := 4) (j := 2) rfl (by decide) (show (2 : Int32) < Int32.ofNat 7 by decide) (jj_inL rfl) rfl rfl rfl kq
theorem sp_ch_4_3 {d kc ks : Nat} {h : Nat → Nat → Int32} {g : Nat → Nat → Int64} {Q : jj_Rs → jj_St → Prop} (kq : Q (.inl (some (.int 103))) (jj_S, 782, h, g)) : jj_R mJ_charAt (d + 3) kc ks (jj_S, 782, h, g) 0 [(0, .ref (1000000 + 4)), (1, .int 3)] [] Q :=
  sp_charAt (i := 4) (j := 3) rfl (by decide) (show (3 : Int32) < Int32.ofNat 7 by decide) (jj_inL rfl) rfl rfl rfl kq
theorem sp_ch_4_4 {d kc ks : Nat} {h : Nat → Nat → Int32} {g : Nat → Nat → Int64} {Q : jj_Rs → jj_St → Prop} (kq : Q (.inl (some (.int 101))) (jj_S, 782, h, g)) : jj_R mJ_charAt (d + 3) kc ks (jj_S, 782, h, g) 0 [(0, .ref (1000000 + 4)), (1, .int 4)] [] Q :=
  sp_charAt (i := 4) (j := 4) rfl (by decide) (show (4 : Int32) < Int32.ofNat 7 by decide) (jj_inL rfl) rfl rfl rfl kq
theorem sp_ch_4_5 {d kc ks : Nat} {h : Nat → Nat → Int32} {g : Nat → Nat → Int64} {Q : jj_Rs → jj_St → Prop} (kq : Q (.inl (some (.int 114))) (jj_S, 782, h, g)) : jj_R mJ_charAt (d + 3) kc ks (jj_S, 782, h, g) 0 [(0, .ref (1000000 + 4)), (1, .int 5)] [] Q :=
  sp_charAt (i := 4) (j := 5) rfl (by decide) (show (5 : Int32) < Int32.ofNat 7 by decide) (jj_inL rfl) rfl rfl rfl kq
theorem sp_ch_4_6 {d kc ks : Nat} {h : Nat → Nat → Int32} {g : Nat → Nat → Int64} {Q : jj_Rs → jj_St → Prop} (kq : Q (.inl (some (.int 115))) (jj_S, 782, h, g)) : jj_R mJ_charAt (d + 3) kc ks (jj_S, 782, h, g) 0 [(0, .ref (1000000 + 4)), (1, .int 6)] [] Q :=
  sp_charAt (i := 4) (j := 6) rfl (by decide) (show (6 : Int32) < Int32.ofNat 7 by decide) (jj_inL rfl) rfl rfl rfl kq
theorem sp_len_5 {d kc ks : Nat} {h : Nat → Nat → Int32} {g : Nat → Nat → Int64} {Q : jj_Rs → jj_St → Prop} (kq : Q (.inl (some (.int 5))) (jj_S, 782, h, g)) : jj_R mJ_length (d + 1) kc ks (jj_S, 782, h, g) 0 [(0, .ref (1000000 + 5))] [] Q := by
  refine sp_slen (i := 5) rfl ?_
  show Q (.inl (some (.int (Int32.ofNat 5 >>> ((0 : Int32) &&& 31))))) _
  rw [show (Int32.ofNat 5 >>> ((0 : Int32) &&& 31)) = 5 by decide]
  exact kq
theorem sp_ch_5_0 {d kc ks : Nat} {h : Nat → Nat → Int32} {g : Nat → Nat → Int64} {Q : jj_Rs → jj_St → Prop} (kq : Q (.inl (some (.int 104))) (jj_S, 782, h, g)) : jj_R mJ_charAt (d + 3) kc ks (jj_S, 782, h, g) 0 [(0, .ref (1000000 + 5)), (1, .int 0)] [] Q :=
  sp_charAt (i := 5) (j := 0) rfl (by decide) (show (0 : Int32) < Int32.ofNat 5 by decide) (jj_inL rfl) rfl rfl rfl kq
theorem sp_ch_5_1 {d kc ks : Nat} {h : Nat → Nat → Int32} {g : Nat → Nat → Int64} {Q : jj_Rs → jj_St → Prop} (kq : Q (.inl (some (.int 97))) (jj_S, 782, h, g)) : jj_R mJ_charAt (d + 3) kc ks (jj_S, 782, h, g) 0 [(0, .ref (1000000 + 5)), (1, .int 1)] [] Q :=
  sp_charAt (i := 5) (j := 1) rfl (by decide) (show (1 : Int32) < Int32.ofNat 5 by decide) (jj_inL rfl) rfl rfl rfl kq
theorem sp_ch_5_2 {d kc ks : Nat} {h : Nat → Nat → Int32} {g : Nat → Nat → Int64} {Q : jj_Rs → jj_St → Prop} (kq : Q (.inl (some (.int 115))) (jj_S, 782, h, g)) : jj_R mJ_charAt (d + 3) kc ks (jj_S, 782, h, g) 0 [(0, .ref (1000000 + 5)), (1, .int 2)] [] Q :=
  sp_charAt (i := 5) (j := 2) rfl (by decide) (show (2 : Int32) < Int32.ofNat 5 by decide) (jj_inL rfl) rfl rfl rfl kq
theorem sp_ch_5_3 {d kc ks : Nat} {h : Nat → Nat → Int32} {g : Nat → Nat → Int64} {Q : jj_Rs → jj_St → Prop} (kq : Q (.inl (some (.int 116))) (jj_S, 782, h, g)) : jj_R mJ_charAt (d + 3) kc ks (jj_S, 782, h, g) 0 [(0, .ref (1000000 + 5)), (1, .int 3)] [] Q :=
  sp_charAt (i := 5) (j := 3) rfl (by decide) (show (3 : Int32) < Int32.ofNat 5 by decide) (jj_inL rfl) rfl rfl rfl kq
theorem sp_ch_5_4 {d kc ks : Nat} {h : Nat → Nat → Int32} {g : Nat → Nat → Int64} {Q : jj_Rs → jj_St → Prop} (kq : Q (.inl (some (.int 101))) (jj_S, 782, h, g)) : jj_R mJ_charAt (d + 3) kc ks (jj_S, 782, h, g) 0 [(0, .ref (1000000 + 5)), (1, .int 4)] [] Q :=
  sp_charAt (i := 5) (j := 4) rfl (by decide) (show (4 : Int32) < Int32.ofNat 5 by decide) (jj_inL rfl) rfl rfl rfl kq
theorem sp_len_6 {d kc ks : Nat} {h : Nat → Nat → Int32} {g : Nat → Nat → Int64} {Q : jj_Rs → jj_St → Prop} (kq : Q (.inl (some (.int 6))) (jj_S, 782, h, g)) : jj_R mJ_length (d + 1) kc ks (jj_S, 782, h, g) 0 [(0, .ref (1000000 + 6))] [] Q := by
  refine sp_slen (i := 6) rfl ?_
  show Q (.inl (some (.int (Int32.ofNat 6 >>> ((0 : Int32) &&& 31))))) _
  rw [show (Int32.ofNat 6 >>> ((0 : Int32) &&& 31)) = 6 by decide]
  exact kq
theorem sp_ch_6_0 {d kc ks : Nat} {h : Nat → Nat → Int32} {g : Nat → Nat → Int64} {Q : jj_Rs → jj_St → Prop} (kq : Q (.inl (some (.int 98))) (jj_S, 782, h, g)) : jj_R mJ_charAt (d + 3) kc ks (jj_S, 782, h, g) 0 [(0, .ref (1000000 + 6)), (1, .int 0)] [] Q :=
  sp_charAt (i := 6) (j := 0) rfl (by decide) (show (0 : Int32) < Int32.ofNat 6 by decide) (jj_inL rfl) rfl rfl rfl kq
theorem sp_ch_6_1 {d kc ks : Nat} {h : Nat → Nat → Int32} {g : Nat → Nat → Int64} {Q : jj_Rs → jj_St → Prop} (kq : Q (.inl (some (.int 101))) (jj_S, 782, h, g)) : jj_R mJ_charAt (d + 3) kc ks (jj_S, 782, h, g) 0 [(0, .ref (1000000 + 6)), (1, .int 1)] [] Q :=
  sp_charAt (i := 6) (j := 1) rfl (by decide) (show (1 : Int32) < Int32.ofNat 6 by decide) (jj_inL rfl) rfl rfl rfl kq
theorem sp_ch_6_2 {d kc ks : Nat} {h : Nat → Nat → Int32} {g : Nat → Nat → Int64} {Q : jj_Rs → jj_St → Prop} (kq : Q (.inl (some (.int 104))) (jj_S, 782, h, g)) : jj_R mJ_charAt (d + 3) kc ks (jj_S, 782, h, g) 0 [(0, .ref (1000000 + 6)), (1, .int 2)] [] Q :=
  sp_charAt (i := 6) (j := 2) rfl (by decide) (show (2 : Int32) < Int32.ofNat 6 by decide) (jj_inL rfl) rfl rfl rfl kq
theorem sp_ch_6_3 {d kc ks : Nat} {h : Nat → Nat → Int32} {g : Nat → Nat → Int64} {Q : jj_Rs → jj_St → Prop} (kq : Q (.inl (some (.int 105))) (jj_S, 782, h, g)) : jj_R mJ_charAt (d + 3) kc ks (jj_S, 782, h, g) 0 [(0, .ref (1000000 + 6)), (1, .int 3)] [] Q :=
  sp_charAt (i := 6) (j := 3) rfl (by decide) (show (3 : Int32) < Int32.ofNat 6 by decide) (jj_inL rfl) rfl rfl rfl kq
theorem sp_ch_6_4 {d kc ks : Nat} {h : Nat → Nat → Int32} {g : Nat → Nat → Int64} {Q : jj_Rs → jj_St → Prop} (kq : Q (.inl (some (.int 110))) (jj_S, 782, h, g)) : jj_R mJ_charAt (d + 3) kc ks (jj_S, 782, h, g) 0 [(0, .ref (1000000 + 6)), (1, .int 4)] [] Q :=
  sp_charAt (i := 6) (j := 4) rfl (by decide) (show (4 : Int32) < Int32.ofNat 6 by decide) (jj_inL rfl) rfl rfl rfl kq
theorem sp_ch_6_5 {d kc ks : Nat} {h : Nat → Nat → Int32} {g : Nat → Nat → Int64} {Q : jj_Rs → jj_St → Prop} (kq : Q (.inl (some (.int 100))) (jj_S, 782, h, g)) : jj_R mJ_charAt (d + 3) kc ks (jj_S, 782, h, g) 0 [(0, .ref (1000000 + 6)), (1, .int 5)] [] Q :=
  sp_charAt (i := 6) (j := 5) rfl (by decide) (show (5 : Int32) < Int32.ofNat 6 by decide) (jj_inL rfl) rfl rfl rfl kq
theorem sp_len_7 {d kc ks : Nat} {h : Nat → Nat → Int32} {g : Nat → Nat → Int64} {Q : jj_Rs → jj_St → Prop} (kq : Q (.inl (some (.int 6))) (jj_S, 782, h, g)) : jj_R mJ_length (d + 1) kc ks (jj_S, 782, h, g) 0 [(0, .ref (1000000 + 7))] [] Q := by
  refine sp_slen (i := 7) rfl ?_
  show Q (.inl (some (.int (Int32.ofNat 6 >>> ((0 : Int32) &&& 31))))) _
  rw [show (Int32.ofNat 6 >>> ((0 : Int32) &&& 31)) = 6 by decide]
  exact kq
theorem sp_ch_7_0 {d kc ks : Nat} {h : Nat → Nat → Int32} {g : Nat → Nat → Int64} {Q : jj_Rs → jj_St → Prop} (kq : Q (.inl (some (.int 100))) (jj_S, 782, h, g)) : jj_R mJ_charAt (d + 3) kc ks (jj_S, 782, h, g) 0 [(0, .ref (1000000 + 7)), (1, .int 0)] [] Q :=
  sp_charAt (i := 7) (j := 0) rfl (by decide) (show (0 : Int32) < Int32.ofNat 6 by decide) (jj_inL rfl) rfl rfl rfl kq
theorem sp_ch_7_1 {d kc ks : Nat} {h : Nat → Nat → Int32} {g : Nat → Nat → Int64} {Q : jj_Rs → jj_St → Prop} (kq : Q (.inl (some (.int 111))) (jj_S, 782, h, g)) : jj_R mJ_charAt (d + 3) kc ks (jj_S, 782, h, g) 0 [(0, .ref (1000000 + 7)), (1, .int 1)] [] Q :=
  sp_charAt (i := 7) (j := 1) rfl (by decide) (show (1 : Int32) < Int32.ofNat 6 by decide) (jj_inL rfl) rfl rfl rfl kq
theorem sp_ch_7_2 {d kc ks : Nat} {h : Nat → Nat → Int32} {g : Nat → Nat → Int64} {Q : jj_Rs → jj_St → Prop} (kq : Q (.inl (some (.int 117))) (jj_S, 782, h, g)) : jj_R mJ_charAt (d + 3) kc ks (jj_S, 782, h, g) 0 [(0, .ref (1000000 + 7)), (1, .int 2)] [] Q :=
  sp_charAt (i := 7) (j := 2) rfl (by decide) (show (2 : Int32) < Int32.ofNat 6 by decide) (jj_inL rfl) rfl rfl rfl kq
theorem sp_ch_7_3 {d kc ks : Nat} {h : Nat → Nat → Int32} {g : Nat → Nat → Int64} {Q : jj_Rs → jj_St → Prop} (kq : Q (.inl (some (.int 98))) (jj_S, 782, h, g)) : jj_R mJ_charAt (d + 3) kc ks (jj_S, 782, h, g) 0 [(0, .ref (1000000 + 7)), (1, .int 3)] [] Q :=
  sp_charAt (i := 7) (j := 3) rfl (by decide) (show (3 : Int32) < Int32.ofNat 6 by decide) (jj_inL rfl) rfl rfl rfl kq
theorem sp_ch_7_4 {d kc ks : Nat} {h : Nat → Nat → Int32} {g : Nat → Nat → Int64} {Q : jj_Rs → jj_St → Prop} (kq : Q (.inl (some (.int 108))) (jj_S, 782, h, g)) : jj_R mJ_charAt (d + 3) kc ks (jj_S, 782, h, g) 0 [(0, .ref (1000000 + 7)), (1, .int 4)] [] Q :=
  sp_charAt (i := 7) (j := 4) rfl (by decide) (show (4 : Int32) < Int32.ofNat 6 by decide) (jj_inL rfl) rfl rfl rfl kq
theorem sp_ch_7_5 {d kc ks : Nat} {h : Nat → Nat → Int32} {g : Nat → Nat → Int64} {Q : jj_Rs → jj_St → Prop} (kq : Q (.inl (some (.int 101))) (jj_S, 782, h, g)) : jj_R mJ_charAt (d + 3) kc ks (jj_S, 782, h, g) 0 [(0, .ref (1000000 + 7)), (1, .int 5)] [] Q :=
  sp_charAt (i := 7) (j := 5) rfl (by decide) (show (5 : Int32) < Int32.ofNat 6 by decide) (jj_inL rfl) rfl rfl rfl kq
theorem sp_len_8 {d kc ks : Nat} {h : Nat → Nat → Int32} {g : Nat → Nat → Int64} {Q : jj_Rs → jj_St → Prop} (kq : Q (.inl (some (.int 6))) (jj_S, 782, h, g)) : jj_R mJ_length (d + 1) kc ks (jj_S, 782, h, g) 0 [(0, .ref (1000000 + 8))] [] Q := by
  refine sp_slen (i := 8) rfl ?_
  show Q (.inl (some (.int (Int32.ofNat 6 >>> ((0 : Int32) &&& 31))))) _
  rw [show (Int32.ofNat 6 >>> ((0 : Int32) &&& 31)) = 6 by decide]
  exact kq
theorem sp_ch_8_0 {d kc ks : Nat} {h : Nat → Nat → Int32} {g : Nat → Nat → Int64} {Q : jj_Rs → jj_St → Prop} (kq : Q (.inl (some (.int 102))) (jj_S, 782, h, g)) : jj_R mJ_charAt (d + 3) kc ks (jj_S, 782, h, g) 0 [(0, .ref (1000000 + 8)), (1, .int 0)] [] Q :=
  sp_charAt (i := 8) (j := 0) rfl (by decide) (show (0 : Int32) < Int32.ofNat 6 by decide) (jj_inL rfl) rfl rfl rfl kq
theorem sp_ch_8_1 {d kc ks : Nat} {h : Nat → Nat → Int32} {g : Nat → Nat → Int64} {Q : jj_Rs → jj_St → Prop} (kq : Q (.inl (some (.int 114))) (jj_S, 782, h, g)) : jj_R mJ_charAt (d + 3) kc ks (jj_S, 782, h, g) 0 [(0, .ref (1000000 + 8)), (1, .int 1)] [] Q :=
  sp_charAt (i := 8) (j := 1) rfl (by decide) (show (1 : Int32) < Int32.ofNat 6 by decide) (jj_inL rfl) rfl rfl rfl kq
theorem sp_ch_8_2 {d kc ks : Nat} {h : Nat → Nat → Int32} {g : Nat → Nat → Int64} {Q : jj_Rs → jj_St → Prop} (kq : Q (.inl (some (.int 105))) (jj_S, 782, h, g)) : jj_R mJ_charAt (d + 3) kc ks (jj_S, 782, h, g) 0 [(0, .ref (1000000 + 8)), (1, .int 2)] [] Q :=
  sp_charAt (i := 8) (j := 2) rfl (by decide) (show (2 : Int32) < Int32.ofNat 6 by decide) (jj_inL rfl) rfl rfl rfl kq
theorem sp_ch_8_3 {d kc ks : Nat} {h : Nat → Nat → Int32} {g : Nat → Nat → Int64} {Q : jj_Rs → jj_St → Prop} (kq : Q (.inl (some (.int 101))) (jj_S, 782, h, g)) : jj_R mJ_charAt (d + 3) kc ks (jj_S, 782, h, g) 0 [(0, .ref (1000000 + 8)), (1, .int 3)] [] Q :=
  sp_charAt (i := 8) (j := 3) rfl (by decide) (show (3 : Int32) < Int32.ofNat 6 by decide) (jj_inL rfl) rfl rfl rfl kq
theorem sp_ch_8_4 {d kc ks : Nat} {h : Nat → Nat → Int32} {g : Nat → Nat → Int64} {Q : jj_Rs → jj_St → Prop} (kq : Q (.inl (some (.int 110))) (jj_S, 782, h, g)) : jj_R mJ_charAt (d + 3) kc ks (jj_S, 782, h, g) 0 [(0, .ref (1000000 + 8)), (1, .int 4)] [] Q :=
  sp_charAt (i := 8) (j := 4) rfl (by decide) (show (4 : Int32) < Int32.ofNat 6 by decide) (jj_inL rfl) rfl rfl rfl kq
theorem sp_ch_8_5 {d kc ks : Nat} {h : Nat → Nat → Int32} {g : Nat → Nat → Int64} {Q : jj_Rs → jj_St → Prop} (kq : Q (.inl (some (.int 100))) (jj_S, 782, h, g)) : jj_R mJ_charAt (d + 3) kc ks (jj_S, 782, h, g) 0 [(0, .ref (1000000 + 8)), (1, .int 5)] [] Q :=
  sp_charAt (i := 8) (j := 5) rfl (by decide) (show (5 : Int32) < Int32.ofNat 6 by decide) (jj_inL rfl) rfl rfl rfl kq
theorem sp_len_9 {d kc ks : Nat} {h : Nat → Nat → Int32} {g : Nat → Nat → Int64} {Q : jj_Rs → jj_St → Prop} (kq : Q (.inl (some (.int 4))) (jj_S, 782, h, g)) : jj_R mJ_length (d + 1) kc ks (jj_S, 782, h, g) 0 [(0, .ref (1000000 + 9))] [] Q := by
  refine sp_slen (i := 9) rfl ?_
  show Q (.inl (some (.int (Int32.ofNat 4 >>> ((0 : Int32) &&& 31))))) _
  rw [show (Int32.ofNat 4 >>> ((0 : Int32) &&& 31)) = 4 by decide]
  exact kq
theorem sp_ch_9_0 {d kc ks : Nat} {h : Nat → Nat → Int32} {g : Nat → Nat → Int64} {Q : jj_Rs → jj_St → Prop} (kq : Q (.inl (some (.int 115))) (jj_S, 782, h, g)) : jj_R mJ_charAt (d + 3) kc ks (jj_S, 782, h, g) 0 [(0, .ref (1000000 + 9)), (1, .int 0)] [] Q :=
  sp_charAt (i := 9) (j := 0) rfl (by decide) (show (0 : Int32) < Int32.ofNat 4 by decide) (jj_inL rfl) rfl rfl rfl kq
theorem sp_ch_9_1 {d kc ks : Nat} {h : Nat → Nat → Int32} {g : Nat → Nat → Int64} {Q : jj_Rs → jj_St → Prop} (kq : Q (.inl (some (.int 101))) (jj_S, 782, h, g)) : jj_R mJ_charAt (d + 3) kc ks (jj_S, 782, h, g) 0 [(0, .ref (1000000 + 9)), (1, .int 1)] [] Q :=
  sp_charAt (i := 9) (j := 1) rfl (by decide) (show (1 : Int32) < Int32.ofNat 4 by decide) (jj_inL rfl) rfl rfl rfl kq
theorem sp_ch_9_2 {d kc ks : Nat} {h : Nat → Nat → Int32} {g : Nat → Nat → Int64} {Q : jj_Rs → jj_St → Prop} (kq : Q (.inl (some (.int 108))) (jj_S, 782, h, g)) : jj_R mJ_charAt (d + 3) kc ks (jj_S, 782, h, g) 0 [(0, .ref (1000000 + 9)), (1, .int 2)] [] Q :=
  sp_charAt (i := 9) (j := 2) rfl (by decide) (show (2 : Int32) < Int32.ofNat 4 by decide) (jj_inL rfl) rfl rfl rfl kq
theorem sp_ch_9_3 {d kc ks : Nat} {h : Nat → Nat → Int32} {g : Nat → Nat → Int64} {Q : jj_Rs → jj_St → Prop} (kq : Q (.inl (some (.int 102))) (jj_S, 782, h, g)) : jj_R mJ_charAt (d + 3) kc ks (jj_S, 782, h, g) 0 [(0, .ref (1000000 + 9)), (1, .int 3)] [] Q :=
  sp_charAt (i := 9) (j := 3) rfl (by decide) (show (3 : Int32) < Int32.ofNat 4 by decide) (jj_inL rfl) rfl rfl rfl kq
theorem sp_len_10 {d kc ks : Nat} {h : Nat → Nat → Int32} {g : Nat → Nat → Int64} {Q : jj_Rs → jj_St → Prop} (kq : Q (.inl (some (.int 5))) (jj_S, 782, h, g)) : jj_R mJ_length (d + 1) kc ks (jj_S, 782, h, g) 0 [(0, .ref (1000000 + 10))] [] Q := by
  refine sp_slen (i := 10) rfl ?_
  show Q (.inl (some (.int (Int32.ofNat 5 >>> ((0 : Int32) &&& 31))))) _
  rw [show (Int32.ofNat 5 >>> ((0 : Int32) &&& 31)) = 5 by decide]
  exact kq
theorem sp_ch_10_0 {d kc ks : Nat} {h : Nat → Nat → Int32} {g : Nat → Nat → Int64} {Q : jj_Rs → jj_St → Prop} (kq : Q (.inl (some (.int 115))) (jj_S, 782, h, g)) : jj_R mJ_charAt (d + 3) kc ks (jj_S, 782, h, g) 0 [(0, .ref (1000000 + 10)), (1, .int 0)] [] Q :=
  sp_charAt (i := 10) (j := 0) rfl (by decide) (show (0 : Int32) < Int32.ofNat 5 by decide) (jj_inL rfl) rfl rfl rfl kq
theorem sp_ch_10_1 {d kc ks : Nat} {h : Nat → Nat → Int32} {g : Nat → Nat → Int64} {Q : jj_Rs → jj_St → Prop} (kq : Q (.inl (some (.int 108))) (jj_S, 782, h, g)) : jj_R mJ_charAt (d + 3) kc ks (jj_S, 782, h, g) 0 [(0, .ref (1000000 + 10)), (1, .int 1)] [] Q :=
  sp_charAt (i := 10) (j := 1) rfl (by decide) (show (1 : Int32) < Int32.ofNat 5 by decide) (jj_inL rfl) rfl rfl rfl kq
theorem sp_ch_10_2 {d kc ks : Nat} {h : Nat → Nat → Int32} {g : Nat → Nat → Int64} {Q : jj_Rs → jj_St → Prop} (kq : Q (.inl (some (.int 105))) (jj_S, 782, h, g)) : jj_R mJ_charAt (d + 3) kc ks (jj_S, 782, h, g) 0 [(0, .ref (1000000 + 10)), (1, .int 2)] [] Q :=
  sp_charAt (i := 10) (j := 2) rfl (by decide) (show (2 : Int32) < Int32.ofNat 5 by decide) (jj_inL rfl) rfl rfl rfl kq
theorem sp_ch_10_3 {d kc ks : Nat} {h : Nat → Nat → Int32} {g : Nat → Nat → Int64} {Q : jj_Rs → jj_St → Prop} (kq : Q (.inl (some (.int 112))) (jj_S, 782, h, g)) : jj_R mJ_charAt (d + 3) kc ks (jj_S, 782, h, g) 0 [(0, .ref (1000000 + 10)), (1, .int 3)] [] Q :=
  sp_charAt (i := 10) (j := 3) rfl (by decide) (show (3 : Int32) < Int32.ofNat 5 by decide) (jj_inL rfl) rfl rfl rfl kq
theorem sp_ch_10_4 {d kc ks : Nat} {h : Nat → Nat → Int32} {g : Nat → Nat → Int64} {Q : jj_Rs → jj_St → Prop} (kq : Q (.inl (some (.int 115))) (jj_S, 782, h, g)) : jj_R mJ_charAt (d + 3) kc ks (jj_S, 782, h, g) 0 [(0, .ref (1000000 + 10)), (1, .int 4)] [] Q :=
  sp_charAt (i := 10) (j := 4) rfl (by decide) (show (4 : Int32) < Int32.ofNat 5 by decide) (jj_inL rfl) rfl rfl rfl kq
theorem sp_len_11 {d kc ks : Nat} {h : Nat → Nat → Int32} {g : Nat → Nat → Int64} {Q : jj_Rs → jj_St → Prop} (kq : Q (.inl (some (.int 3))) (jj_S, 782, h, g)) : jj_R mJ_length (d + 1) kc ks (jj_S, 782, h, g) 0 [(0, .ref (1000000 + 11))] [] Q := by
  refine sp_slen (i := 11) rfl ?_
  show Q (.inl (some (.int (Int32.ofNat 3 >>> ((0 : Int32) &&& 31))))) _
  rw [show (Int32.ofNat 3 >>> ((0 : Int32) &&& 31)) = 3 by decide]
  exact kq
theorem sp_ch_11_0 {d kc ks : Nat} {h : Nat → Nat → Int32} {g : Nat → Nat → Int64} {Q : jj_Rs → jj_St → Prop} (kq : Q (.inl (some (.int 100))) (jj_S, 782, h, g)) : jj_R mJ_charAt (d + 3) kc ks (jj_S, 782, h, g) 0 [(0, .ref (1000000 + 11)), (1, .int 0)] [] Q :=
  sp_charAt (i := 11) (j := 0) rfl (by decide) (show (0 : Int32) < Int32.ofNat 3 by decide) (jj_inL rfl) rfl rfl rfl kq
theorem sp_ch_11_1 {d kc ks : Nat} {h : Nat → Nat → Int32} {g : Nat → Nat → Int64} {Q : jj_Rs → jj_St → Prop} (kq : Q (.inl (some (.int 97))) (jj_S, 782, h, g)) : jj_R mJ_charAt (d + 3) kc ks (jj_S, 782, h, g) 0 [(0, .ref (1000000 + 11)), (1, .int 1)] [] Q :=
  sp_charAt (i := 11) (j := 1) rfl (by decide) (show (1 : Int32) < Int32.ofNat 3 by decide) (jj_inL rfl) rfl rfl rfl kq
theorem sp_ch_11_2 {d kc ks : Nat} {h : Nat → Nat → Int32} {g : Nat → Nat → Int64} {Q : jj_Rs → jj_St → Prop} (kq : Q (.inl (some (.int 121))) (jj_S, 782, h, g)) : jj_R mJ_charAt (d + 3) kc ks (jj_S, 782, h, g) 0 [(0, .ref (1000000 + 11)), (1, .int 2)] [] Q :=
  sp_charAt (i := 11) (j := 2) rfl (by decide) (show (2 : Int32) < Int32.ofNat 3 by decide) (jj_inL rfl) rfl rfl rfl kq
theorem sp_len_12 {d kc ks : Nat} {h : Nat → Nat → Int32} {g : Nat → Nat → Int64} {Q : jj_Rs → jj_St → Prop} (kq : Q (.inl (some (.int 5))) (jj_S, 782, h, g)) : jj_R mJ_length (d + 1) kc ks (jj_S, 782, h, g) 0 [(0, .ref (1000000 + 12))] [] Q := by
  refine sp_slen (i := 12) rfl ?_
  show Q (.inl (some (.int (Int32.ofNat 5 >>> ((0 : Int32) &&& 31))))) _
  rw [show (Int32.ofNat 5 >>> ((0 : Int32) &&& 31)) = 5 by decide]
  exact kq
theorem sp_ch_12_0 {d kc ks : Nat} {h : Nat → Nat → Int32} {g : Nat → Nat → Int64} {Q : jj_Rs → jj_St → Prop} (kq : Q (.inl (some (.int 108))) (jj_S, 782, h, g)) : jj_R mJ_charAt (d + 3) kc ks (jj_S, 782, h, g) 0 [(0, .ref (1000000 + 12)), (1, .int 0)] [] Q :=
  sp_charAt (i := 12) (j := 0) rfl (by decide) (show (0 : Int32) < Int32.ofNat 5 by decide) (jj_inL rfl) rfl rfl rfl kq
theorem sp_ch_12_1 {d kc ks : Nat} {h : Nat → Nat → Int32} {g : Nat → Nat → Int64} {Q : jj_Rs → jj_St → Prop} (kq : Q (.inl (some (.int 101))) (jj_S, 782, h, g)) : jj_R mJ_charAt (d + 3) kc ks (jj_S, 782, h, g) 0 [(0, .ref (1000000 + 12)), (1, .int 1)] [] Q :=
  sp_charAt (i := 12) (j := 1) rfl (by decide) (show (1 : Int32) < Int32.ofNat 5 by decide) (jj_inL rfl) rfl rfl rfl kq
theorem sp_ch_12_2 {d kc ks : Nat} {h : Nat → Nat → Int32} {g : Nat → Nat → Int64} {Q : jj_Rs → jj_St → Prop} (kq : Q (.inl (some (.int 97))) (jj_S, 782, h, g)) : jj_R mJ_charAt (d + 3) kc ks (jj_S, 782, h, g) 0 [(0, .ref (1000000 + 12)), (1, .int 2)] [] Q :=
  sp_charAt (i := 12) (j := 2) rfl (by decide) (show (2 : Int32) < Int32.ofNat 5 by decide) (jj_inL rfl) rfl rfl rfl kq
theorem sp_ch_12_3 {d kc ks : Nat} {h : Nat → Nat → Int32} {g : Nat → Nat → Int64} {Q : jj_Rs → jj_St → Prop} (kq : Q (.inl (some (.int 115))) (jj_S, 782, h, g)) : jj_R mJ_charAt (d + 3) kc ks (jj_S, 782, h, g) 0 [(0, .ref (1000000 + 12)), (1, .int 3)] [] Q :=
  sp_charAt (i := 12) (j := 3) rfl (by decide) (show (3 : Int32) < Int32.ofNat 5 by decide) (jj_inL rfl) rfl rfl rfl kq
theorem sp_ch_12_4 {d kc ks : Nat} {h : Nat → Nat → Int32} {g : Nat → Nat → Int64} {Q : jj_Rs → jj_St → Prop} (kq : Q (.inl (some (.int 116))) (jj_S, 782, h, g)) : jj_R mJ_charAt (d + 3) kc ks (jj_S, 782, h, g) 0 [(0, .ref (1000000 + 12)), (1, .int 4)] [] Q :=
  sp_charAt (i := 12) (j := 4) rfl (by decide) (show (4 : Int32) < Int32.ofNat 5 by decide) (jj_inL rfl) rfl rfl rfl kq
theorem sp_len_13 {d kc ks : Nat} {h : Nat → Nat → Int32} {g : Nat → Nat → Int64} {Q : jj_Rs → jj_St → Prop} (kq : Q (.inl (some (.int 4))) (jj_S, 782, h, g)) : jj_R mJ_length (d + 1) kc ks (jj_S, 782, h, g) 0 [(0, .ref (1000000 + 13))] [] Q := by
  refine sp_slen (i := 13) rfl ?_
  show Q (.inl (some (.int (Int32.ofNat 4 >>> ((0 : Int32) &&& 31))))) _
  rw [show (Int32.ofNat 4 >>> ((0 : Int32) &&& 31)) = 4 by decide]
  exact kq
theorem sp_ch_13_0 {d kc ks : Nat} {h : Nat → Nat → Int32} {g : Nat → Nat → Int64} {Q : jj_Rs → jj_St → Prop} (kq : Q (.inl (some (.int 109))) (jj_S, 782, h, g)) : jj_R mJ_charAt (d + 3) kc ks (jj_S, 782, h, g) 0 [(0, .ref (1000000 + 13)), (1, .int 0)] [] Q :=
  sp_charAt (i := 13) (j := 0) rfl (by decide) (show (0 : Int32) < Int32.ofNat 4 by decide) (jj_inL rfl) rfl rfl rfl kq
theorem sp_ch_13_1 {d kc ks : Nat} {h : Nat → Nat → Int32} {g : Nat → Nat → Int64} {Q : jj_Rs → jj_St → Prop} (kq : Q (.inl (some (.int 111))) (jj_S, 782, h, g)) : jj_R mJ_charAt (d + 3) kc ks (jj_S, 782, h, g) 0 [(0, .ref (1000000 + 13)), (1, .int 1)] [] Q :=
  sp_charAt (i := 13) (j := 1) rfl (by decide) (show (1 : Int32) < Int32.ofNat 4 by decide) (jj_inL rfl) rfl rfl rfl kq
theorem sp_ch_13_2 {d kc ks : Nat} {h : Nat → Nat → Int32} {g : Nat → Nat → Int64} {Q : jj_Rs → jj_St → Prop} (kq : Q (.inl (some (.int 115))) (jj_S, 782, h, g)) : jj_R mJ_charAt (d + 3) kc ks (jj_S, 782, h, g) 0 [(0, .ref (1000000 + 13)), (1, .int 2)] [] Q :=
  sp_charAt (i := 13) (j := 2) rfl (by decide) (show (2 : Int32) < Int32.ofNat 4 by decide) (jj_inL rfl) rfl rfl rfl kq
theorem sp_ch_13_3 {d kc ks : Nat} {h : Nat → Nat → Int32} {g : Nat → Nat → Int64} {Q : jj_Rs → jj_St → Prop} (kq : Q (.inl (some (.int 116))) (jj_S, 782, h, g)) : jj_R mJ_charAt (d + 3) kc ks (jj_S, 782, h, g) 0 [(0, .ref (1000000 + 13)), (1, .int 3)] [] Q :=
  sp_charAt (i := 13) (j := 3) rfl (by decide) (show (3 : Int32) < Int32.ofNat 4 by decide) (jj_inL rfl) rfl rfl rfl kq
theorem sp_len_14 {d kc ks : Nat} {h : Nat → Nat → Int32} {g : Nat → Nat → Int64} {Q : jj_Rs → jj_St → Prop} (kq : Q (.inl (some (.int 3))) (jj_S, 782, h, g)) : jj_R mJ_length (d + 1) kc ks (jj_S, 782, h, g) 0 [(0, .ref (1000000 + 14))] [] Q := by
  refine sp_slen (i := 14) rfl ?_
  show Q (.inl (some (.int (Int32.ofNat 3 >>> ((0 : Int32) &&& 31))))) _
  rw [show (Int32.ofNat 3 >>> ((0 : Int32) &&& 31)) = 3 by decide]
  exact kq
theorem sp_ch_14_0 {d kc ks : Nat} {h : Nat → Nat → Int32} {g : Nat → Nat → Int64} {Q : jj_Rs → jj_St → Prop} (kq : Q (.inl (some (.int 116))) (jj_S, 782, h, g)) : jj_R mJ_charAt (d + 3) kc ks (jj_S, 782, h, g) 0 [(0, .ref (1000000 + 14)), (1, .int 0)] [] Q :=
  sp_charAt (i := 14) (j := 0) rfl (by decide) (show (0 : Int32) < Int32.ofNat 3 by decide) (jj_inL rfl) rfl rfl rfl kq
theorem sp_ch_14_1 {d kc ks : Nat} {h : Nat → Nat → Int32} {g : Nat → Nat → Int64} {Q : jj_Rs → jj_St → Prop} (kq : Q (.inl (some (.int 105))) (jj_S, 782, h, g)) : jj_R mJ_charAt (d + 3) kc ks (jj_S, 782, h, g) 0 [(0, .ref (1000000 + 14)), (1, .int 1)] [] Q :=
  sp_charAt (i := 14) (j := 1) rfl (by decide) (show (1 : Int32) < Int32.ofNat 3 by decide) (jj_inL rfl) rfl rfl rfl kq
theorem sp_ch_14_2 {d kc ks : Nat} {h : Nat → Nat → Int32} {g : Nat → Nat → Int64} {Q : jj_Rs → jj_St → Prop} (kq : Q (.inl (some (.int 101))) (jj_S, 782, h, g)) : jj_R mJ_charAt (d + 3) kc ks (jj_S, 782, h, g) 0 [(0, .ref (1000000 + 14)), (1, .int 2)] [] Q :=
  sp_charAt (i := 14) (j := 2) rfl (by decide) (show (2 : Int32) < Int32.ofNat 3 by decide) (jj_inL rfl) rfl rfl rfl kq
theorem sp_len_15 {d kc ks : Nat} {h : Nat → Nat → Int32} {g : Nat → Nat → Int64} {Q : jj_Rs → jj_St → Prop} (kq : Q (.inl (some (.int 6))) (jj_S, 782, h, g)) : jj_R mJ_length (d + 1) kc ks (jj_S, 782, h, g) 0 [(0, .ref (1000000 + 15))] [] Q := by
  refine sp_slen (i := 15) rfl ?_
  show Q (.inl (some (.int (Int32.ofNat 6 >>> ((0 : Int32) &&& 31))))) _
  rw [show (Int32.ofNat 6 >>> ((0 : Int32) &&& 31)) = 6 by decide]
  exact kq
theorem sp_ch_15_0 {d kc ks : Nat} {h : Nat → Nat → Int32} {g : Nat → Nat → Int64} {Q : jj_Rs → jj_St → Prop} (kq : Q (.inl (some (.int 100))) (jj_S, 782, h, g)) : jj_R mJ_charAt (d + 3) kc ks (jj_S, 782, h, g) 0 [(0, .ref (1000000 + 15)), (1, .int 0)] [] Q :=
  sp_charAt (i := 15) (j := 0) rfl (by decide) (show (0 : Int32) < Int32.ofNat 6 by decide) (jj_inL rfl) rfl rfl rfl kq
theorem sp_ch_15_1 {d kc ks : Nat} {h : Nat → Nat → Int32} {g : Nat → Nat → Int64} {Q : jj_Rs → jj_St → Prop} (kq : Q (.inl (some (.int 111))) (jj_S, 782, h, g)) : jj_R mJ_charAt (d + 3) kc ks (jj_S, 782, h, g) 0 [(0, .ref (1000000 + 15)), (1, .int 1)] [] Q :=
  sp_charAt (i := 15) (j := 1) rfl (by decide) (show (1 : Int32) < Int32.ofNat 6 by decide) (jj_inL rfl) rfl rfl rfl kq
theorem sp_ch_15_2 {d kc ks : Nat} {h : Nat → Nat → Int32} {g : Nat → Nat → Int64} {Q : jj_Rs → jj_St → Prop} (kq : Q (.inl (some (.int 117))) (jj_S, 782, h, g)) : jj_R mJ_charAt (d + 3) kc ks (jj_S, 782, h, g) 0 [(0, .ref (1000000 + 15)), (1, .int 2)] [] Q :=
  sp_charAt (i := 15) (j := 2) rfl (by decide) (show (2 : Int32) < Int32.ofNat 6 by decide) (jj_inL rfl) rfl rfl rfl kq
theorem sp_ch_15_3 {d kc ks : Nat} {h : Nat → Nat → Int32} {g : Nat → Nat → Int64} {Q : jj_Rs → jj_St → Prop} (kq : Q (.inl (some (.int 98))) (jj_S, 782, h, g)) : jj_R mJ_charAt (d + 3) kc ks (jj_S, 782, h, g) 0 [(0, .ref (1000000 + 15)), (1, .int 3)] [] Q :=
  sp_charAt (i := 15) (j := 3) rfl (by decide) (show (3 : Int32) < Int32.ofNat 6 by decide) (jj_inL rfl) rfl rfl rfl kq
theorem sp_ch_15_4 {d kc ks : Nat} {h : Nat → Nat → Int32} {g : Nat → Nat → Int64} {Q : jj_Rs → jj_St → Prop} (kq : Q (.inl (some (.int 108))) (jj_S, 782, h, g)) : jj_R mJ_charAt (d + 3) kc ks (jj_S, 782, h, g) 0 [(0, .ref (1000000 + 15)), (1, .int 4)] [] Q :=
  sp_charAt (i := 15) (j := 4) rfl (by decide) (show (4 : Int32) < Int32.ofNat 6 by decide) (jj_inL rfl) rfl rfl rfl kq
theorem sp_ch_15_5 {d kc ks : Nat} {h : Nat → Nat → Int32} {g : Nat → Nat → Int64} {Q : jj_Rs → jj_St → Prop} (kq : Q (.inl (some (.int 101))) (jj_S, 782, h, g)) : jj_R mJ_charAt (d + 3) kc ks (jj_S, 782, h, g) 0 [(0, .ref (1000000 + 15)), (1, .int 5)] [] Q :=
  sp_charAt (i := 15) (j := 5) rfl (by decide) (show (5 : Int32) < Int32.ofNat 6 by decide) (jj_inL rfl) rfl rfl rfl kq
theorem sp_len_16 {d kc ks : Nat} {h : Nat → Nat → Int32} {g : Nat → Nat → Int64} {Q : jj_Rs → jj_St → Prop} (kq : Q (.inl (some (.int 3))) (jj_S, 782, h, g)) : jj_R mJ_length (d + 1) kc ks (jj_S, 782, h, g) 0 [(0, .ref (1000000 + 16))] [] Q := by
  refine sp_slen (i := 16) rfl ?_
  show Q (.inl (some (.int (Int32.ofNat 3 >>> ((0 : Int32) &&& 31))))) _
  rw [show (Int32.ofNat 3 >>> ((0 : Int32) &&& 31)) = 3 by decide]
  exact kq
theorem sp_ch_16_0 {d kc ks : Nat} {h : Nat → Nat → Int32} {g : Nat → Nat → Int64} {Q : jj_Rs → jj_St → Prop} (kq : Q (.inl (some (.int 99))) (jj_S, 782, h, g)) : jj_R mJ_charAt (d + 3) kc ks (jj_S, 782, h, g) 0 [(0, .ref (1000000 + 16)), (1, .int 0)] [] Q :=
  sp_charAt (i := 16) (j := 0) rfl (by decide) (show (0 : Int32) < Int32.ofNat 3 by decide) (jj_inL rfl) rfl rfl rfl kq
theorem sp_ch_16_1 {d kc ks : Nat} {h : Nat → Nat → Int32} {g : Nat → Nat → Int64} {Q : jj_Rs → jj_St → Prop} (kq : Q (.inl (some (.int 117))) (jj_S, 782, h, g)) : jj_R mJ_charAt (d + 3) kc ks (jj_S, 782, h, g) 0 [(0, .ref (1000000 + 16)), (1, .int 1)] [] Q :=
  sp_charAt (i := 16) (j := 1) rfl (by decide) (show (1 : Int32) < Int32.ofNat 3 by decide) (jj_inL rfl) rfl rfl rfl kq
theorem sp_ch_16_2 {d kc ks : Nat} {h : Nat → Nat → Int32} {g : Nat → Nat → Int64} {Q : jj_Rs → jj_St → Prop} (kq : Q (.inl (some (.int 116))) (jj_S, 782, h, g)) : jj_R mJ_charAt (d + 3) kc ks (jj_S, 782, h, g) 0 [(0, .ref (1000000 + 16)), (1, .int 2)] [] Q :=
  sp_charAt (i := 16) (j := 2) rfl (by decide) (show (2 : Int32) < Int32.ofNat 3 by decide) (jj_inL rfl) rfl rfl rfl kq
theorem sp_len_17 {d kc ks : Nat} {h : Nat → Nat → Int32} {g : Nat → Nat → Int64} {Q : jj_Rs → jj_St → Prop} (kq : Q (.inl (some (.int 4))) (jj_S, 782, h, g)) : jj_R mJ_length (d + 1) kc ks (jj_S, 782, h, g) 0 [(0, .ref (1000000 + 17))] [] Q := by
  refine sp_slen (i := 17) rfl ?_
  show Q (.inl (some (.int (Int32.ofNat 4 >>> ((0 : Int32) &&& 31))))) _
  rw [show (Int32.ofNat 4 >>> ((0 : Int32) &&& 31)) = 4 by decide]
  exact kq
theorem sp_ch_17_0 {d kc ks : Nat} {h : Nat → Nat → Int32} {g : Nat → Nat → Int64} {Q : jj_Rs → jj_St → Prop} (kq : Q (.inl (some (.int 109))) (jj_S, 782, h, g)) : jj_R mJ_charAt (d + 3) kc ks (jj_S, 782, h, g) 0 [(0, .ref (1000000 + 17)), (1, .int 0)] [] Q :=
  sp_charAt (i := 17) (j := 0) rfl (by decide) (show (0 : Int32) < Int32.ofNat 4 by decide) (jj_inL rfl) rfl rfl rfl kq
theorem sp_ch_17_1 {d kc ks : Nat} {h : Nat → Nat → Int32} {g : Nat → Nat → Int64} {Q : jj_Rs → jj_St → Prop} (kq : Q (.inl (some (.int 101))) (jj_S, 782, h, g)) : jj_R mJ_charAt (d + 3) kc ks (jj_S, 782, h, g) 0 [(0, .ref (1000000 + 17)), (1, .int 1)] [] Q :=
  sp_charAt (i := 17) (j := 1) rfl (by decide) (show (1 : Int32) < Int32.ofNat 4 by decide) (jj_inL rfl) rfl rfl rfl kq
theorem sp_ch_17_2 {d kc ks : Nat} {h : Nat → Nat → Int32} {g : Nat → Nat → Int64} {Q : jj_Rs → jj_St → Prop} (kq : Q (.inl (some (.int 110))) (jj_S, 782, h, g)) : jj_R mJ_charAt (d + 3) kc ks (jj_S, 782, h, g) 0 [(0, .ref (1000000 + 17)), (1, .int 2)] [] Q :=
  sp_charAt (i := 17) (j := 2) rfl (by decide) (show (2 : Int32) < Int32.ofNat 4 by decide) (jj_inL rfl) rfl rfl rfl kq
theorem sp_ch_17_3 {d kc ks : Nat} {h : Nat → Nat → Int32} {g : Nat → Nat → Int64} {Q : jj_Rs → jj_St → Prop} (kq : Q (.inl (some (.int 100))) (jj_S, 782, h, g)) : jj_R mJ_charAt (d + 3) kc ks (jj_S, 782, h, g) 0 [(0, .ref (1000000 + 17)), (1, .int 3)] [] Q :=
  sp_charAt (i := 17) (j := 3) rfl (by decide) (show (3 : Int32) < Int32.ofNat 4 by decide) (jj_inL rfl) rfl rfl rfl kq
theorem sp_len_18 {d kc ks : Nat} {h : Nat → Nat → Int32} {g : Nat → Nat → Int64} {Q : jj_Rs → jj_St → Prop} (kq : Q (.inl (some (.int 4))) (jj_S, 782, h, g)) : jj_R mJ_length (d + 1) kc ks (jj_S, 782, h, g) 0 [(0, .ref (1000000 + 18))] [] Q := by
  refine sp_slen (i := 18) rfl ?_
  show Q (.inl (some (.int (Int32.ofNat 4 >>> ((0 : Int32) &&& 31))))) _
  rw [show (Int32.ofNat 4 >>> ((0 : Int32) &&& 31)) = 4 by decide]
  exact kq
theorem sp_ch_18_0 {d kc ks : Nat} {h : Nat → Nat → Int32} {g : Nat → Nat → Int64} {Q : jj_Rs → jj_St → Prop} (kq : Q (.inl (some (.int 117))) (jj_S, 782, h, g)) : jj_R mJ_charAt (d + 3) kc ks (jj_S, 782, h, g) 0 [(0, .ref (1000000 + 18)), (1, .int 0)] [] Q :=
  sp_charAt (i := 18) (j := 0) rfl (by decide) (show (0 : Int32) < Int32.ofNat 4 by decide) (jj_inL rfl) rfl rfl rfl kq
theorem sp_ch_18_1 {d kc ks : Nat} {h : Nat → Nat → Int32} {g : Nat → Nat → Int64} {Q : jj_Rs → jj_St → Prop} (kq : Q (.inl (some (.int 110))) (jj_S, 782, h, g)) : jj_R mJ_charAt (d + 3) kc ks (jj_S, 782, h, g) 0 [(0, .ref (1000000 + 18)), (1, .int 1)] [] Q :=
  sp_charAt (i := 18) (j := 1) rfl (by decide) (show (1 : Int32) < Int32.ofNat 4 by decide) (jj_inL rfl) rfl rfl rfl kq
theorem sp_ch_18_2 {d kc ks : Nat} {h : Nat → Nat → Int32} {g : Nat → Nat → Int64} {Q : jj_Rs → jj_St → Prop} (kq : Q (.inl (some (.int 100))) (jj_S, 782, h, g)) : jj_R mJ_charAt (d + 3) kc ks (jj_S, 782, h, g) 0 [(0, .ref (1000000 + 18)), (1, .int 2)] [] Q :=
  sp_charAt (i := 18) (j := 2) rfl (by decide) (show (2 : Int32) < Int32.ofNat 4 by decide) (jj_inL rfl) rfl rfl rfl kq
theorem sp_ch_18_3 {d kc ks : Nat} {h : Nat → Nat → Int32} {g : Nat → Nat → Int64} {Q : jj_Rs → jj_St → Prop} (kq : Q (.inl (some (.int 111))) (jj_S, 782, h, g)) : jj_R mJ_charAt (d + 3) kc ks (jj_S, 782, h, g) 0 [(0, .ref (1000000 + 18)), (1, .int 3)] [] Q :=
  sp_charAt (i := 18) (j := 3) rfl (by decide) (show (3 : Int32) < Int32.ofNat 4 by decide) (jj_inL rfl) rfl rfl rfl kq
theorem sp_len_19 {d kc ks : Nat} {h : Nat → Nat → Int32} {g : Nat → Nat → Int64} {Q : jj_Rs → jj_St → Prop} (kq : Q (.inl (some (.int 3))) (jj_S, 782, h, g)) : jj_R mJ_length (d + 1) kc ks (jj_S, 782, h, g) 0 [(0, .ref (1000000 + 19))] [] Q := by
  refine sp_slen (i := 19) rfl ?_
  show Q (.inl (some (.int (Int32.ofNat 3 >>> ((0 : Int32) &&& 31))))) _
  rw [show (Int32.ofNat 3 >>> ((0 : Int32) &&& 31)) = 3 by decide]
  exact kq
theorem sp_ch_19_0 {d kc ks : Nat} {h : Nat → Nat → Int32} {g : Nat → Nat → Int64} {Q : jj_Rs → jj_St → Prop} (kq : Q (.inl (some (.int 100))) (jj_S, 782, h, g)) : jj_R mJ_charAt (d + 3) kc ks (jj_S, 782, h, g) 0 [(0, .ref (1000000 + 19)), (1, .int 0)] [] Q :=
  sp_charAt (i := 19) (j := 0) rfl (by decide) (show (0 : Int32) < Int32.ofNat 3 by decide) (jj_inL rfl) rfl rfl rfl kq
theorem sp_ch_19_1 {d kc ks : Nat} {h : Nat → Nat → Int32} {g : Nat → Nat → Int64} {Q : jj_Rs → jj_St → Prop} (kq : Q (.inl (some (.int 97))) (jj_S, 782, h, g)) : jj_R mJ_charAt (d + 3) kc ks (jj_S, 782, h, g) 0 [(0, .ref (1000000 + 19)), (1, .int 1)] [] Q :=
  sp_charAt (i := 19) (j := 1) rfl (by decide) (show (1 : Int32) < Int32.ofNat 3 by decide) (jj_inL rfl) rfl rfl rfl kq
theorem sp_ch_19_2 {d kc ks : Nat} {h : Nat → Nat → Int32} {g : Nat → Nat → Int64} {Q : jj_Rs → jj_St → Prop} (kq : Q (.inl (some (.int 121))) (jj_S, 782, h, g)) : jj_R mJ_charAt (d + 3) kc ks (jj_S, 782, h, g) 0 [(0, .ref (1000000 + 19)), (1, .int 2)] [] Q :=
  sp_charAt (i := 19) (j := 2) rfl (by decide) (show (2 : Int32) < Int32.ofNat 3 by decide) (jj_inL rfl) rfl rfl rfl kq
theorem sp_len_20 {d kc ks : Nat} {h : Nat → Nat → Int32} {g : Nat → Nat → Int64} {Q : jj_Rs → jj_St → Prop} (kq : Q (.inl (some (.int 5))) (jj_S, 782, h, g)) : jj_R mJ_length (d + 1) kc ks (jj_S, 782, h, g) 0 [(0, .ref (1000000 + 20))] [] Q := by
  refine sp_slen (i := 20) rfl ?_
  show Q (.inl (some (.int (Int32.ofNat 5 >>> ((0 : Int32) &&& 31))))) _
  rw [show (Int32.ofNat 5 >>> ((0 : Int32) &&& 31)) = 5 by decide]
  exact kq
theorem sp_ch_20_0 {d kc ks : Nat} {h : Nat → Nat → Int32} {g : Nat → Nat → Int64} {Q : jj_Rs → jj_St → Prop} (kq : Q (.inl (some (.int 97))) (jj_S, 782, h, g)) : jj_R mJ_charAt (d + 3) kc ks (jj_S, 782, h, g) 0 [(0, .ref (1000000 + 20)), (1, .int 0)] [] Q :=
  sp_charAt (i := 20) (j := 0) rfl (by decide) (show (0 : Int32) < Int32.ofNat 5 by decide) (jj_inL rfl) rfl rfl rfl kq
theorem sp_ch_20_1 {d kc ks : Nat} {h : Nat → Nat → Int32} {g : Nat → Nat → Int64} {Q : jj_Rs → jj_St → Prop} (kq : Q (.inl (some (.int 103))) (jj_S, 782, h, g)) : jj_R mJ_charAt (d + 3) kc ks (jj_S, 782, h, g) 0 [(0, .ref (1000000 + 20)), (1, .int 1)] [] Q :=
  sp_charAt (i := 20) (j := 1) rfl (by decide) (show (1 : Int32) < Int32.ofNat 5 by decide) (jj_inL rfl) rfl rfl rfl kq
theorem sp_ch_20_2 {d kc ks : Nat} {h : Nat → Nat → Int32} {g : Nat → Nat → Int64} {Q : jj_Rs → jj_St → Prop} (kq : Q (.inl (some (.int 97))) (jj_S, 782, h, g)) : jj_R mJ_charAt (d + 3) kc ks (jj_S, 782, h, g) 0 [(0, .ref (1000000 + 20)), (1, .int 2)] [] Q :=
  sp_charAt (i := 20) (j := 2) rfl (by decide) (show (2 : Int32) < Int32.ofNat 5 by decide) (jj_inL rfl) rfl rfl rfl kq
theorem sp_ch_20_3 {d kc ks : Nat} {h : Nat → Nat → Int32} {g : Nat → Nat → Int64} {Q : jj_Rs → jj_St → Prop} (kq : Q (.inl (some (.int 105))) (jj_S, 782, h, g)) : jj_R mJ_charAt (d + 3) kc ks (jj_S, 782, h, g) 0 [(0, .ref (1000000 + 20)), (1, .int 3)] [] Q :=
  sp_charAt (i := 20) (j := 3) rfl (by decide) (show (3 : Int32) < Int32.ofNat 5 by decide) (jj_inL rfl) rfl rfl rfl kq
theorem sp_ch_20_4 {d kc ks : Nat} {h : Nat → Nat → Int32} {g : Nat → Nat → Int64} {Q : jj_Rs → jj_St → Prop} (kq : Q (.inl (some (.int 110))) (jj_S, 782, h, g)) : jj_R mJ_charAt (d + 3) kc ks (jj_S, 782, h, g) 0 [(0, .ref (1000000 + 20)), (1, .int 4)] [] Q :=
  sp_charAt (i := 20) (j := 4) rfl (by decide) (show (4 : Int32) < Int32.ofNat 5 by decide) (jj_inL rfl) rfl rfl rfl kq
