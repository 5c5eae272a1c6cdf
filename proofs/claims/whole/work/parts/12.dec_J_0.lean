theorem dJ_length_0 : jj_D cJ_length 0 (.aload_n 0) 1 1 := ⟨by decide +kernel, rfl⟩
theorem dJ_length_1 : jj_D cJ_length 1 (.getfield 9) 3 4 := ⟨by decide +kernel, rfl⟩
theorem dJ_length_4 : jj_D cJ_length 4 .arraylength 1 5 := ⟨by decide +kernel, rfl⟩
theorem dJ_length_5 : jj_D cJ_length 5 (.aload_n 0) 1 6 := ⟨by decide +kernel, rfl⟩
theorem dJ_length_6 : jj_D cJ_length 6 (.invokevirtual 335) 3 9 := ⟨by decide +kernel, rfl⟩
theorem dJ_length_9 : jj_D cJ_length 9 .ishr 1 10 := ⟨by decide +kernel, rfl⟩
theorem dJ_length_10 : decode cJ_length 10 = .ok (.ireturn, 1) := by decide +kernel
theorem dJ_coder_0 : jj_D cJ_coder 0 (.getstatic 38) 3 3 := ⟨by decide +kernel, rfl⟩
theorem dJ_coder_3 : jj_J cJ_coder 3 (.ifCond .eq) 6 13 := ⟨10, by decide +kernel, rfl, by decide⟩
theorem dJ_coder_6 : jj_D cJ_coder 6 (.aload_n 0) 1 7 := ⟨by decide +kernel, rfl⟩
theorem dJ_coder_7 : jj_D cJ_coder 7 (.getfield 15) 3 10 := ⟨by decide +kernel, rfl⟩
theorem dJ_coder_10 : jj_J cJ_coder 10 .goto 13 14 := ⟨4, by decide +kernel, rfl, by decide⟩
theorem dJ_coder_13 : jj_D cJ_coder 13 (.iconst 1) 1 14 := ⟨by decide +kernel, rfl⟩
theorem dJ_coder_14 : decode cJ_coder 14 = .ok (.ireturn, 1) := by decide +kernel
theorem dJ_charAt_0 : jj_D cJ_charAt 0 (.aload_n 0) 1 1 := ⟨by decide +kernel, rfl⟩
theorem dJ_charAt_1 : jj_D cJ_charAt 1 (.invokevirtual 492) 3 4 := ⟨by decide +kernel, rfl⟩
theorem dJ_charAt_4 : jj_J cJ_charAt 4 (.ifCond .eq) 7 16 := ⟨12, by decide +kernel, rfl, by decide⟩
theorem dJ_charAt_7 : jj_D cJ_charAt 7 (.aload_n 0) 1 8 := ⟨by decide +kernel, rfl⟩
theorem dJ_charAt_8 : jj_D cJ_charAt 8 (.getfield 9) 3 11 := ⟨by decide +kernel, rfl⟩
theorem dJ_charAt_11 : jj_D cJ_charAt 11 (.iload_n 1) 1 12 := ⟨by decide +kernel, rfl⟩
theorem dJ_charAt_12 : jj_D cJ_charAt 12 (.invokestatic 495) 3 15 := ⟨by decide +kernel, rfl⟩
theorem dJ_charAt_15 : decode cJ_charAt 15 = .ok (.ireturn, 1) := by decide +kernel
theorem dJ_charAt_16 : jj_D cJ_charAt 16 (.aload_n 0) 1 17 := ⟨by decide +kernel, rfl⟩
theorem dJ_charAt_17 : jj_D cJ_charAt 17 (.getfield 9) 3 20 := ⟨by decide +kernel, rfl⟩
theorem dJ_charAt_20 : jj_D cJ_charAt 20 (.iload_n 1) 1 21 := ⟨by decide +kernel, rfl⟩
theorem dJ_charAt_21 : jj_D cJ_charAt 21 (.invokestatic 498) 3 24 := ⟨by decide +kernel, rfl⟩
theorem dJ_charAt_24 : decode cJ_charAt 24 = .ok (.ireturn, 1) := by decide +kernel
theorem dJ_isLatin1_0 : jj_D cJ_isLatin1 0 (.getstatic 38) 3 3 := ⟨by decide +kernel, rfl⟩
theorem dJ_isLatin1_3 : jj_J cJ_isLatin1 3 (.ifCond .eq) 6 17 := ⟨14, by decide +kernel, rfl, by decide⟩
theorem dJ_isLatin1_6 : jj_D cJ_isLatin1 6 (.aload_n 0) 1 7 := ⟨by decide +kernel, rfl⟩
theorem dJ_isLatin1_7 : jj_D cJ_isLatin1 7 (.getfield 15) 3 10 := ⟨by decide +kernel, rfl⟩
theorem dJ_isLatin1_10 : jj_J cJ_isLatin1 10 (.ifCond .ne) 13 17 := ⟨7, by decide +kernel, rfl, by decide⟩
theorem dJ_isLatin1_13 : jj_D cJ_isLatin1 13 (.iconst 1) 1 14 := ⟨by decide +kernel, rfl⟩
theorem dJ_isLatin1_14 : jj_J cJ_isLatin1 14 .goto 17 18 := ⟨4, by decide +kernel, rfl, by decide⟩
theorem dJ_isLatin1_17 : jj_D cJ_isLatin1 17 (.iconst 0) 1 18 := ⟨by decide +kernel, rfl⟩
theorem dJ_isLatin1_18 : decode cJ_isLatin1 18 = .ok (.ireturn, 1) := by decide +kernel
theorem dJ_lcharAt_0 : jj_D cJ_lcharAt 0 (.iload_n 1) 1 1 := ⟨by decide +kernel, rfl⟩
theorem dJ_lcharAt_1 : jj_D cJ_lcharAt 1 (.aload_n 0) 1 2 := ⟨by decide +kernel, rfl⟩
theorem dJ_lcharAt_2 : jj_D cJ_lcharAt 2 .arraylength 1 3 := ⟨by decide +kernel, rfl⟩
theorem dJ_lcharAt_3 : jj_D cJ_lcharAt 3 (.invokestatic 9) 3 6 := ⟨by decide +kernel, rfl⟩
theorem dJ_lcharAt_6 : jj_D cJ_lcharAt 6 (.aload_n 0) 1 7 := ⟨by decide +kernel, rfl⟩
theorem dJ_lcharAt_7 : jj_D cJ_lcharAt 7 (.iload_n 1) 1 8 := ⟨by decide +kernel, rfl⟩
theorem dJ_lcharAt_8 : jj_D cJ_lcharAt 8 .baload 1 9 := ⟨by decide +kernel, rfl⟩
theorem dJ_lcharAt_9 : jj_D cJ_lcharAt 9 (.sipush 255) 3 12 := ⟨by decide +kernel, rfl⟩
theorem dJ_lcharAt_12 : jj_D cJ_lcharAt 12 .iand 1 13 := ⟨by decide +kernel, rfl⟩
theorem dJ_lcharAt_13 : jj_D cJ_lcharAt 13 .i2c 1 14 := ⟨by decide +kernel, rfl⟩
theorem dJ_lcharAt_14 : decode cJ_lcharAt 14 = .ok (.ireturn, 1) := by decide +kernel
theorem dJ_checkIndex_0 : jj_D cJ_checkIndex 0 (.iload_n 0) 1 1 := ⟨by decide +kernel, rfl⟩
theorem dJ_checkIndex_1 : jj_D cJ_checkIndex 1 (.iload_n 1) 1 2 := ⟨by decide +kernel, rfl⟩
theorem dJ_checkIndex_2 : jj_D cJ_checkIndex 2 (.getstatic 1053) 3 5 := ⟨by decide +kernel, rfl⟩
theorem dJ_checkIndex_5 : jj_D cJ_checkIndex 5 (.invokestatic 1059) 3 8 := ⟨by decide +kernel, rfl⟩
theorem dJ_checkIndex_8 : jj_D cJ_checkIndex 8 .pop 1 9 := ⟨by decide +kernel, rfl⟩
theorem dJ_checkIndex_9 : decode cJ_checkIndex 9 = .ok (.return_, 1) := by decide +kernel
theorem dJ_pcheck_0 : jj_D cJ_pcheck 0 (.iload_n 0) 1 1 := ⟨by decide +kernel, rfl⟩
theorem dJ_pcheck_1 : jj_J cJ_pcheck 1 (.ifCond .lt) 4 9 := ⟨8, by decide +kernel, rfl, by decide⟩
theorem dJ_pcheck_4 : jj_D cJ_pcheck 4 (.iload_n 0) 1 5 := ⟨by decide +kernel, rfl⟩
theorem dJ_pcheck_5 : jj_D cJ_pcheck 5 (.iload_n 1) 1 6 := ⟨by decide +kernel, rfl⟩
theorem dJ_pcheck_6 : jj_J cJ_pcheck 6 (.if_icmp .lt) 9 16 := ⟨10, by decide +kernel, rfl, by decide⟩
theorem dJ_pcheck_9 : jj_D cJ_pcheck 9 (.aload_n 2) 1 10 := ⟨by decide +kernel, rfl⟩
theorem dJ_pcheck_10 : jj_D cJ_pcheck 10 (.iload_n 0) 1 11 := ⟨by decide +kernel, rfl⟩
theorem dJ_pcheck_11 : jj_D cJ_pcheck 11 (.iload_n 1) 1 12 := ⟨by decide +kernel, rfl⟩
theorem dJ_pcheck_12 : jj_D cJ_pcheck 12 (.invokestatic 95) 3 15 := ⟨by decide +kernel, rfl⟩
theorem dJ_pcheck_15 : decode cJ_pcheck 15 = .ok (.athrow, 1) := by decide +kernel
theorem dJ_pcheck_16 : jj_D cJ_pcheck 16 (.iload_n 0) 1 17 := ⟨by decide +kernel, rfl⟩
theorem dJ_pcheck_17 : decode cJ_pcheck 17 = .ok (.ireturn, 1) := by decide +kernel
