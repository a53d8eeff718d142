/-! rows of values: the class's cells, the reference's rows -/
abbrev M_Cells_lengthOf : q_M := (⟨"LensPaths$Cells", "lengthOf", "(I)I"⟩, prog_3_method_2_code, 2, (some .int), "LensPaths$Cells", [], false, 0, 0)
theorem d_Cells_lengthOf_0 : decode prog_3_method_2_code 0 = .ok (.aload_n 0, 1) := by decide +kernel
theorem d_Cells_lengthOf_1 : decode prog_3_method_2_code 1 = .ok (.getfield 11, 3) := by decide +kernel
theorem d_Cells_lengthOf_4 : decode prog_3_method_2_code 4 = .ok (.iload_n 1, 1) := by decide +kernel
theorem d_Cells_lengthOf_5 : decode prog_3_method_2_code 5 = .ok (.bipush 7, 2) := by decide +kernel
theorem d_Cells_lengthOf_7 : decode prog_3_method_2_code 7 = .ok (.imul, 1) := by decide +kernel
theorem d_Cells_lengthOf_8 : decode prog_3_method_2_code 8 = .ok (.iaload, 1) := by decide +kernel
theorem d_Cells_lengthOf_9 : decode prog_3_method_2_code 9 = .ok (.ireturn, 1) := by decide +kernel
abbrev M_Cells_resize : q_M := (⟨"LensPaths$Cells", "resize", "(II)V"⟩, prog_3_method_3_code, 3, none, "LensPaths$Cells", [], false, 0, 0)
theorem d_Cells_resize_0 : decode prog_3_method_3_code 0 = .ok (.aload_n 0, 1) := by decide +kernel
theorem d_Cells_resize_1 : decode prog_3_method_3_code 1 = .ok (.getfield 11, 3) := by decide +kernel
theorem d_Cells_resize_4 : decode prog_3_method_3_code 4 = .ok (.iload_n 1, 1) := by decide +kernel
theorem d_Cells_resize_5 : decode prog_3_method_3_code 5 = .ok (.bipush 7, 2) := by decide +kernel
theorem d_Cells_resize_7 : decode prog_3_method_3_code 7 = .ok (.imul, 1) := by decide +kernel
theorem d_Cells_resize_8 : decode prog_3_method_3_code 8 = .ok (.iload_n 2, 1) := by decide +kernel
theorem d_Cells_resize_9 : decode prog_3_method_3_code 9 = .ok (.iastore, 1) := by decide +kernel
theorem d_Cells_resize_10 : decode prog_3_method_3_code 10 = .ok (.return_, 1) := by decide +kernel
abbrev M_Cells_read : q_M := (⟨"LensPaths$Cells", "read", "(II)I"⟩, prog_3_method_4_code, 3, (some .int), "LensPaths$Cells", [], false, 0, 0)
theorem d_Cells_read_0 : decode prog_3_method_4_code 0 = .ok (.aload_n 0, 1) := by decide +kernel
theorem d_Cells_read_1 : decode prog_3_method_4_code 1 = .ok (.getfield 11, 3) := by decide +kernel
theorem d_Cells_read_4 : decode prog_3_method_4_code 4 = .ok (.iload_n 1, 1) := by decide +kernel
theorem d_Cells_read_5 : decode prog_3_method_4_code 5 = .ok (.bipush 7, 2) := by decide +kernel
theorem d_Cells_read_7 : decode prog_3_method_4_code 7 = .ok (.imul, 1) := by decide +kernel
theorem d_Cells_read_8 : decode prog_3_method_4_code 8 = .ok (.iconst 1, 1) := by decide +kernel
theorem d_Cells_read_9 : decode prog_3_method_4_code 9 = .ok (.iadd, 1) := by decide +kernel
theorem d_Cells_read_10 : decode prog_3_method_4_code 10 = .ok (.iload_n 2, 1) := by decide +kernel
theorem d_Cells_read_11 : decode prog_3_method_4_code 11 = .ok (.iadd, 1) := by decide +kernel
theorem d_Cells_read_12 : decode prog_3_method_4_code 12 = .ok (.iaload, 1) := by decide +kernel
theorem d_Cells_read_13 : decode prog_3_method_4_code 13 = .ok (.ireturn, 1) := by decide +kernel
abbrev M_Cells_write : q_M := (⟨"LensPaths$Cells", "write", "(III)V"⟩, prog_3_method_5_code, 4, none, "LensPaths$Cells", [], false, 0, 0)
theorem d_Cells_write_0 : decode prog_3_method_5_code 0 = .ok (.aload_n 0, 1) := by decide +kernel
theorem d_Cells_write_1 : decode prog_3_method_5_code 1 = .ok (.getfield 11, 3) := by decide +kernel
theorem d_Cells_write_4 : decode prog_3_method_5_code 4 = .ok (.iload_n 1, 1) := by decide +kernel
theorem d_Cells_write_5 : decode prog_3_method_5_code 5 = .ok (.bipush 7, 2) := by decide +kernel
theorem d_Cells_write_7 : decode prog_3_method_5_code 7 = .ok (.imul, 1) := by decide +kernel
theorem d_Cells_write_8 : decode prog_3_method_5_code 8 = .ok (.iconst 1, 1) := by decide +kernel
theorem d_Cells_write_9 : decode prog_3_method_5_code 9 = .ok (.iadd, 1) := by decide +kernel
theorem d_Cells_write_10 : decode prog_3_method_5_code 10 = .ok (.iload_n 2, 1) := by decide +kernel
theorem d_Cells_write_11 : decode prog_3_method_5_code 11 = .ok (.iadd, 1) := by decide +kernel
theorem d_Cells_write_12 : decode prog_3_method_5_code 12 = .ok (.iload_n 3, 1) := by decide +kernel
theorem d_Cells_write_13 : decode prog_3_method_5_code 13 = .ok (.iastore, 1) := by decide +kernel
theorem d_Cells_write_14 : decode prog_3_method_5_code 14 = .ok (.return_, 1) := by decide +kernel
abbrev M_Cells_writeNumber : q_M := (⟨"LensPaths$Cells", "writeNumber", "(II)V"⟩, prog_3_method_6_code, 3, none, "LensPaths$Cells", [], false, 0, 0)
theorem d_Cells_writeNumber_0 : decode prog_3_method_6_code 0 = .ok (.aload_n 0, 1) := by decide +kernel
theorem d_Cells_writeNumber_1 : decode prog_3_method_6_code 1 = .ok (.getfield 11, 3) := by decide +kernel
theorem d_Cells_writeNumber_4 : decode prog_3_method_6_code 4 = .ok (.iload_n 1, 1) := by decide +kernel
theorem d_Cells_writeNumber_5 : decode prog_3_method_6_code 5 = .ok (.bipush 7, 2) := by decide +kernel
theorem d_Cells_writeNumber_7 : decode prog_3_method_6_code 7 = .ok (.imul, 1) := by decide +kernel
theorem d_Cells_writeNumber_8 : decode prog_3_method_6_code 8 = .ok (.iconst 1, 1) := by decide +kernel
theorem d_Cells_writeNumber_9 : decode prog_3_method_6_code 9 = .ok (.iastore, 1) := by decide +kernel
theorem d_Cells_writeNumber_10 : decode prog_3_method_6_code 10 = .ok (.aload_n 0, 1) := by decide +kernel
theorem d_Cells_writeNumber_11 : decode prog_3_method_6_code 11 = .ok (.getfield 11, 3) := by decide +kernel
theorem d_Cells_writeNumber_14 : decode prog_3_method_6_code 14 = .ok (.iload_n 1, 1) := by decide +kernel
theorem d_Cells_writeNumber_15 : decode prog_3_method_6_code 15 = .ok (.bipush 7, 2) := by decide +kernel
theorem d_Cells_writeNumber_17 : decode prog_3_method_6_code 17 = .ok (.imul, 1) := by decide +kernel
theorem d_Cells_writeNumber_18 : decode prog_3_method_6_code 18 = .ok (.iconst 1, 1) := by decide +kernel
theorem d_Cells_writeNumber_19 : decode prog_3_method_6_code 19 = .ok (.iadd, 1) := by decide +kernel
theorem d_Cells_writeNumber_20 : decode prog_3_method_6_code 20 = .ok (.iload_n 2, 1) := by decide +kernel
theorem d_Cells_writeNumber_21 : decode prog_3_method_6_code 21 = .ok (.iastore, 1) := by decide +kernel
theorem d_Cells_writeNumber_22 : decode prog_3_method_6_code 22 = .ok (.return_, 1) := by decide +kernel
abbrev M_Cells_writeDefault : q_M := (⟨"LensPaths$Cells", "writeDefault", "(IIII)V"⟩, prog_3_method_7_code, 5, none, "LensPaths$Cells", [], false, 1, 22)
theorem d_Cells_writeDefault_0 : decode prog_3_method_7_code 0 = .ok (.iload_n 2, 1) := by decide +kernel
theorem d_Cells_writeDefault_1 : decode prog_3_method_7_code 1 = .ok (.ifCond .ne 17, 3) := by decide +kernel
theorem d_Cells_writeDefault_4 : decode prog_3_method_7_code 4 = .ok (.aload_n 0, 1) := by decide +kernel
theorem d_Cells_writeDefault_5 : decode prog_3_method_7_code 5 = .ok (.iload_n 1, 1) := by decide +kernel
theorem d_Cells_writeDefault_6 : decode prog_3_method_7_code 6 = .ok (.iload_n 3, 1) := by decide +kernel
theorem d_Cells_writeDefault_7 : decode prog_3_method_7_code 7 = .ok (.iload 4, 2) := by decide +kernel
theorem d_Cells_writeDefault_9 : decode prog_3_method_7_code 9 = .ok (.invokestatic 15, 3) := by decide +kernel
theorem d_Cells_writeDefault_12 : decode prog_3_method_7_code 12 = .ok (.invokevirtual 19, 3) := by decide +kernel
theorem d_Cells_writeDefault_15 : decode prog_3_method_7_code 15 = .ok (.goto 9, 3) := by decide +kernel
theorem d_Cells_writeDefault_18 : decode prog_3_method_7_code 18 = .ok (.aload_n 0, 1) := by decide +kernel
theorem d_Cells_writeDefault_19 : decode prog_3_method_7_code 19 = .ok (.iload_n 1, 1) := by decide +kernel
theorem d_Cells_writeDefault_20 : decode prog_3_method_7_code 20 = .ok (.iconst 0, 1) := by decide +kernel
theorem d_Cells_writeDefault_21 : decode prog_3_method_7_code 21 = .ok (.invokevirtual 23, 3) := by decide +kernel
theorem d_Cells_writeDefault_24 : decode prog_3_method_7_code 24 = .ok (.return_, 1) := by decide +kernel
abbrev M_Lens_nearestToZero : q_M := (⟨"LensPaths", "nearestToZero", "(II)I"⟩, prog_1_method_34_code, 2, (some .int), "LensPaths", [], false, 0, 0)
theorem d_Lens_nearestToZero_0 : decode prog_1_method_34_code 0 = .ok (.iload_n 0, 1) := by decide +kernel
theorem d_Lens_nearestToZero_1 : decode prog_1_method_34_code 1 = .ok (.ifCond .le 7, 3) := by decide +kernel
theorem d_Lens_nearestToZero_4 : decode prog_1_method_34_code 4 = .ok (.iload_n 0, 1) := by decide +kernel
theorem d_Lens_nearestToZero_5 : decode prog_1_method_34_code 5 = .ok (.goto 12, 3) := by decide +kernel
theorem d_Lens_nearestToZero_8 : decode prog_1_method_34_code 8 = .ok (.iload_n 1, 1) := by decide +kernel
theorem d_Lens_nearestToZero_9 : decode prog_1_method_34_code 9 = .ok (.ifCond .ge 7, 3) := by decide +kernel
theorem d_Lens_nearestToZero_12 : decode prog_1_method_34_code 12 = .ok (.iload_n 1, 1) := by decide +kernel
theorem d_Lens_nearestToZero_13 : decode prog_1_method_34_code 13 = .ok (.goto 4, 3) := by decide +kernel
theorem d_Lens_nearestToZero_16 : decode prog_1_method_34_code 16 = .ok (.iconst 0, 1) := by decide +kernel
theorem d_Lens_nearestToZero_17 : decode prog_1_method_34_code 17 = .ok (.ireturn, 1) := by decide +kernel
abbrev M_Cells_matches : q_M := (⟨"LensPaths$Cells", "matches", "(ILLensPaths$Cells;I)Z"⟩, prog_3_method_10_code, 5, (some .boolean), "LensPaths$Cells", [], false, 1, 22)
theorem d_Cells_matches_0 : decode prog_3_method_10_code 0 = .ok (.aload_n 0, 1) := by decide +kernel
theorem d_Cells_matches_1 : decode prog_3_method_10_code 1 = .ok (.iload_n 1, 1) := by decide +kernel
theorem d_Cells_matches_2 : decode prog_3_method_10_code 2 = .ok (.invokevirtual 32, 3) := by decide +kernel
theorem d_Cells_matches_5 : decode prog_3_method_10_code 5 = .ok (.aload_n 2, 1) := by decide +kernel
theorem d_Cells_matches_6 : decode prog_3_method_10_code 6 = .ok (.iload_n 3, 1) := by decide +kernel
theorem d_Cells_matches_7 : decode prog_3_method_10_code 7 = .ok (.invokevirtual 32, 3) := by decide +kernel
theorem d_Cells_matches_10 : decode prog_3_method_10_code 10 = .ok (.if_icmp .eq 5, 3) := by decide +kernel
theorem d_Cells_matches_13 : decode prog_3_method_10_code 13 = .ok (.iconst 0, 1) := by decide +kernel
theorem d_Cells_matches_14 : decode prog_3_method_10_code 14 = .ok (.ireturn, 1) := by decide +kernel
theorem d_Cells_matches_15 : decode prog_3_method_10_code 15 = .ok (.iconst 0, 1) := by decide +kernel
theorem d_Cells_matches_16 : decode prog_3_method_10_code 16 = .ok (.istore 4, 2) := by decide +kernel
theorem d_Cells_matches_18 : decode prog_3_method_10_code 18 = .ok (.iload 4, 2) := by decide +kernel
theorem d_Cells_matches_20 : decode prog_3_method_10_code 20 = .ok (.aload_n 0, 1) := by decide +kernel
theorem d_Cells_matches_21 : decode prog_3_method_10_code 21 = .ok (.iload_n 1, 1) := by decide +kernel
theorem d_Cells_matches_22 : decode prog_3_method_10_code 22 = .ok (.invokevirtual 32, 3) := by decide +kernel
theorem d_Cells_matches_25 : decode prog_3_method_10_code 25 = .ok (.if_icmp .ge 28, 3) := by decide +kernel
theorem d_Cells_matches_28 : decode prog_3_method_10_code 28 = .ok (.aload_n 0, 1) := by decide +kernel
theorem d_Cells_matches_29 : decode prog_3_method_10_code 29 = .ok (.iload_n 1, 1) := by decide +kernel
theorem d_Cells_matches_30 : decode prog_3_method_10_code 30 = .ok (.iload 4, 2) := by decide +kernel
theorem d_Cells_matches_32 : decode prog_3_method_10_code 32 = .ok (.invokevirtual 36, 3) := by decide +kernel
theorem d_Cells_matches_35 : decode prog_3_method_10_code 35 = .ok (.aload_n 2, 1) := by decide +kernel
theorem d_Cells_matches_36 : decode prog_3_method_10_code 36 = .ok (.iload_n 3, 1) := by decide +kernel
theorem d_Cells_matches_37 : decode prog_3_method_10_code 37 = .ok (.iload 4, 2) := by decide +kernel
theorem d_Cells_matches_39 : decode prog_3_method_10_code 39 = .ok (.invokevirtual 36, 3) := by decide +kernel
theorem d_Cells_matches_42 : decode prog_3_method_10_code 42 = .ok (.if_icmp .eq 5, 3) := by decide +kernel
theorem d_Cells_matches_45 : decode prog_3_method_10_code 45 = .ok (.iconst 0, 1) := by decide +kernel
theorem d_Cells_matches_46 : decode prog_3_method_10_code 46 = .ok (.ireturn, 1) := by decide +kernel
theorem d_Cells_matches_47 : decode prog_3_method_10_code 47 = .ok (.iinc 4 1, 3) := by decide +kernel
theorem d_Cells_matches_50 : decode prog_3_method_10_code 50 = .ok (.goto (-32), 3) := by decide +kernel
theorem d_Cells_matches_53 : decode prog_3_method_10_code 53 = .ok (.iconst 1, 1) := by decide +kernel
theorem d_Cells_matches_54 : decode prog_3_method_10_code 54 = .ok (.ireturn, 1) := by decide +kernel
abbrev M_Cells_agree : q_M := (⟨"LensPaths$Cells", "agree", "(LLensPaths$Cells;I)Z"⟩, prog_3_method_11_code, 4, (some .boolean), "LensPaths$Cells", [], false, 2, 46)
theorem d_Cells_agree_0 : decode prog_3_method_11_code 0 = .ok (.iconst 0, 1) := by decide +kernel
theorem d_Cells_agree_1 : decode prog_3_method_11_code 1 = .ok (.istore_n 3, 1) := by decide +kernel
theorem d_Cells_agree_2 : decode prog_3_method_11_code 2 = .ok (.iload_n 3, 1) := by decide +kernel
theorem d_Cells_agree_3 : decode prog_3_method_11_code 3 = .ok (.iload_n 2, 1) := by decide +kernel
theorem d_Cells_agree_4 : decode prog_3_method_11_code 4 = .ok (.if_icmp .ge 21, 3) := by decide +kernel
theorem d_Cells_agree_7 : decode prog_3_method_11_code 7 = .ok (.aload_n 0, 1) := by decide +kernel
theorem d_Cells_agree_8 : decode prog_3_method_11_code 8 = .ok (.iload_n 3, 1) := by decide +kernel
theorem d_Cells_agree_9 : decode prog_3_method_11_code 9 = .ok (.aload_n 1, 1) := by decide +kernel
theorem d_Cells_agree_10 : decode prog_3_method_11_code 10 = .ok (.iload_n 3, 1) := by decide +kernel
theorem d_Cells_agree_11 : decode prog_3_method_11_code 11 = .ok (.invokevirtual 39, 3) := by decide +kernel
theorem d_Cells_agree_14 : decode prog_3_method_11_code 14 = .ok (.ifCond .ne 5, 3) := by decide +kernel
theorem d_Cells_agree_17 : decode prog_3_method_11_code 17 = .ok (.iconst 0, 1) := by decide +kernel
theorem d_Cells_agree_18 : decode prog_3_method_11_code 18 = .ok (.ireturn, 1) := by decide +kernel
theorem d_Cells_agree_19 : decode prog_3_method_11_code 19 = .ok (.iinc 3 1, 3) := by decide +kernel
theorem d_Cells_agree_22 : decode prog_3_method_11_code 22 = .ok (.goto (-20), 3) := by decide +kernel
theorem d_Cells_agree_25 : decode prog_3_method_11_code 25 = .ok (.iconst 1, 1) := by decide +kernel
theorem d_Cells_agree_26 : decode prog_3_method_11_code 26 = .ok (.ireturn, 1) := by decide +kernel
abbrev M_Model_copyRow : q_M := (⟨"LensPathsModel", "copyRow", "([II[II)V"⟩, prog_14_method_14_code, 5, none, "LensPathsModel", [], false, 0, 0)
theorem d_Model_copyRow_0 : decode prog_14_method_14_code 0 = .ok (.iconst 0, 1) := by decide +kernel
theorem d_Model_copyRow_1 : decode prog_14_method_14_code 1 = .ok (.istore 4, 2) := by decide +kernel
theorem d_Model_copyRow_3 : decode prog_14_method_14_code 3 = .ok (.iload 4, 2) := by decide +kernel
theorem d_Model_copyRow_5 : decode prog_14_method_14_code 5 = .ok (.bipush 7, 2) := by decide +kernel
theorem d_Model_copyRow_7 : decode prog_14_method_14_code 7 = .ok (.if_icmp .ge 21, 3) := by decide +kernel
theorem d_Model_copyRow_10 : decode prog_14_method_14_code 10 = .ok (.aload_n 2, 1) := by decide +kernel
theorem d_Model_copyRow_11 : decode prog_14_method_14_code 11 = .ok (.iload_n 3, 1) := by decide +kernel
theorem d_Model_copyRow_12 : decode prog_14_method_14_code 12 = .ok (.iload 4, 2) := by decide +kernel
theorem d_Model_copyRow_14 : decode prog_14_method_14_code 14 = .ok (.iadd, 1) := by decide +kernel
theorem d_Model_copyRow_15 : decode prog_14_method_14_code 15 = .ok (.aload_n 0, 1) := by decide +kernel
theorem d_Model_copyRow_16 : decode prog_14_method_14_code 16 = .ok (.iload_n 1, 1) := by decide +kernel
theorem d_Model_copyRow_17 : decode prog_14_method_14_code 17 = .ok (.iload 4, 2) := by decide +kernel
theorem d_Model_copyRow_19 : decode prog_14_method_14_code 19 = .ok (.iadd, 1) := by decide +kernel
theorem d_Model_copyRow_20 : decode prog_14_method_14_code 20 = .ok (.iaload, 1) := by decide +kernel
theorem d_Model_copyRow_21 : decode prog_14_method_14_code 21 = .ok (.iastore, 1) := by decide +kernel
theorem d_Model_copyRow_22 : decode prog_14_method_14_code 22 = .ok (.iinc 4 1, 3) := by decide +kernel
theorem d_Model_copyRow_25 : decode prog_14_method_14_code 25 = .ok (.goto (-22), 3) := by decide +kernel
theorem d_Model_copyRow_28 : decode prog_14_method_14_code 28 = .ok (.return_, 1) := by decide +kernel
abbrev M_Model_sameRow : q_M := (⟨"LensPathsModel", "sameRow", "([II[II)Z"⟩, prog_14_method_15_code, 6, (some .boolean), "LensPathsModel", [], false, 0, 0)
theorem d_Model_sameRow_0 : decode prog_14_method_15_code 0 = .ok (.aload_n 0, 1) := by decide +kernel
theorem d_Model_sameRow_1 : decode prog_14_method_15_code 1 = .ok (.iload_n 1, 1) := by decide +kernel
theorem d_Model_sameRow_2 : decode prog_14_method_15_code 2 = .ok (.iaload, 1) := by decide +kernel
theorem d_Model_sameRow_3 : decode prog_14_method_15_code 3 = .ok (.aload_n 2, 1) := by decide +kernel
theorem d_Model_sameRow_4 : decode prog_14_method_15_code 4 = .ok (.iload_n 3, 1) := by decide +kernel
theorem d_Model_sameRow_5 : decode prog_14_method_15_code 5 = .ok (.iaload, 1) := by decide +kernel
theorem d_Model_sameRow_6 : decode prog_14_method_15_code 6 = .ok (.if_icmp .ne 7, 3) := by decide +kernel
theorem d_Model_sameRow_9 : decode prog_14_method_15_code 9 = .ok (.iconst 1, 1) := by decide +kernel
theorem d_Model_sameRow_10 : decode prog_14_method_15_code 10 = .ok (.goto 4, 3) := by decide +kernel
theorem d_Model_sameRow_13 : decode prog_14_method_15_code 13 = .ok (.iconst 0, 1) := by decide +kernel
theorem d_Model_sameRow_14 : decode prog_14_method_15_code 14 = .ok (.istore 4, 2) := by decide +kernel
theorem d_Model_sameRow_16 : decode prog_14_method_15_code 16 = .ok (.iconst 1, 1) := by decide +kernel
theorem d_Model_sameRow_17 : decode prog_14_method_15_code 17 = .ok (.istore 5, 2) := by decide +kernel
theorem d_Model_sameRow_19 : decode prog_14_method_15_code 19 = .ok (.iload 4, 2) := by decide +kernel
theorem d_Model_sameRow_21 : decode prog_14_method_15_code 21 = .ok (.ifCond .eq 39, 3) := by decide +kernel
theorem d_Model_sameRow_24 : decode prog_14_method_15_code 24 = .ok (.iload 5, 2) := by decide +kernel
theorem d_Model_sameRow_26 : decode prog_14_method_15_code 26 = .ok (.aload_n 0, 1) := by decide +kernel
theorem d_Model_sameRow_27 : decode prog_14_method_15_code 27 = .ok (.iload_n 1, 1) := by decide +kernel
theorem d_Model_sameRow_28 : decode prog_14_method_15_code 28 = .ok (.iaload, 1) := by decide +kernel
theorem d_Model_sameRow_29 : decode prog_14_method_15_code 29 = .ok (.if_icmp .gt 31, 3) := by decide +kernel
theorem d_Model_sameRow_32 : decode prog_14_method_15_code 32 = .ok (.aload_n 0, 1) := by decide +kernel
theorem d_Model_sameRow_33 : decode prog_14_method_15_code 33 = .ok (.iload_n 1, 1) := by decide +kernel
theorem d_Model_sameRow_34 : decode prog_14_method_15_code 34 = .ok (.iload 5, 2) := by decide +kernel
theorem d_Model_sameRow_36 : decode prog_14_method_15_code 36 = .ok (.iadd, 1) := by decide +kernel
theorem d_Model_sameRow_37 : decode prog_14_method_15_code 37 = .ok (.iaload, 1) := by decide +kernel
theorem d_Model_sameRow_38 : decode prog_14_method_15_code 38 = .ok (.aload_n 2, 1) := by decide +kernel
theorem d_Model_sameRow_39 : decode prog_14_method_15_code 39 = .ok (.iload_n 3, 1) := by decide +kernel
theorem d_Model_sameRow_40 : decode prog_14_method_15_code 40 = .ok (.iload 5, 2) := by decide +kernel
theorem d_Model_sameRow_42 : decode prog_14_method_15_code 42 = .ok (.iadd, 1) := by decide +kernel
theorem d_Model_sameRow_43 : decode prog_14_method_15_code 43 = .ok (.iaload, 1) := by decide +kernel
theorem d_Model_sameRow_44 : decode prog_14_method_15_code 44 = .ok (.if_icmp .ne 7, 3) := by decide +kernel
theorem d_Model_sameRow_47 : decode prog_14_method_15_code 47 = .ok (.iconst 1, 1) := by decide +kernel
theorem d_Model_sameRow_48 : decode prog_14_method_15_code 48 = .ok (.goto 4, 3) := by decide +kernel
theorem d_Model_sameRow_51 : decode prog_14_method_15_code 51 = .ok (.iconst 0, 1) := by decide +kernel
theorem d_Model_sameRow_52 : decode prog_14_method_15_code 52 = .ok (.istore 4, 2) := by decide +kernel
theorem d_Model_sameRow_54 : decode prog_14_method_15_code 54 = .ok (.iinc 5 1, 3) := by decide +kernel
theorem d_Model_sameRow_57 : decode prog_14_method_15_code 57 = .ok (.goto (-38), 3) := by decide +kernel
theorem d_Model_sameRow_60 : decode prog_14_method_15_code 60 = .ok (.iload 4, 2) := by decide +kernel
theorem d_Model_sameRow_62 : decode prog_14_method_15_code 62 = .ok (.ireturn, 1) := by decide +kernel
section CellsC
variable {g : q_G} {sz : Nat} {T : q_T} {I : q_I} {R : q_R} {J : q_J}
/-- the row at the place b of an array: its length, then its items -/
def k_rw (f : Int32 → Int32) (b : Nat) (v : List Int32) : Prop := v.length ≤ 6 ∧ f (nI b) = nI v.length ∧ ∀ (i : Nat) (x : Int32), v[i]? = some x → f (nI (b + 1 + i)) = x
theorem c_Cells_lengthOf {c N k : Nat} (hL : q_L 1 (t_Cells N) c T R) (hN : N < 2 ^ 31) (hk : k * 7 + 7 ≤ N) : q_Ci g M_Cells_lengthOf [.ref c, .int (nI k)] (sz, T, I, R, J) 0 0 (fun r h' => r = I (c + 1) (nI (k * 7)) ∧ h' = (sz, T, I, R, J)) := by
  refine q_C.of (ls0 := [some (.ref c), some (.int (nI k))]) (by decide) rfl (by decide) (Nat.le_of_ble_eq_true rfl) rfl ?_
  refine q_aload_n d_Cells_lengthOf_0 rfl rfl ?_
  refine q_getR (ci := 1) (fk := 0) d_Cells_lengthOf_1 rfl (Nat.le_of_ble_eq_true rfl) w_187 (fun _ _ => rfl) hL.1 (hL.2 0 _ _ _ rfl).1 ?_
  refine q_iload_n d_Cells_lengthOf_4 rfl rfl ?_
  refine q_bipush (v := nI 7) d_Cells_lengthOf_5 (by decide) ?_
  first | refine q_imulN d_Cells_lengthOf_7 ?_ | refine q_imul d_Cells_lengthOf_7 ?_
  refine q_iald d_Cells_lengthOf_8 (hL.2 0 _ _ _ rfl).2 (by first | assumption | exact vp_in_nI (by omega) (by omega)) ?_
  refine q_iret d_Cells_lengthOf_9 rfl (by omega) (by omega) ?_
  exact ⟨_, rfl, rfl, rfl⟩
theorem c_Cells_read {c N k i : Nat} (hL : q_L 1 (t_Cells N) c T R) (hN : N < 2 ^ 31) (hk : k * 7 + 1 + i < N) : q_Ci g M_Cells_read [.ref c, .int (nI k), .int (nI i)] (sz, T, I, R, J) 0 0 (fun r h' => r = I (c + 1) (nI (k * 7 + 1 + i)) ∧ h' = (sz, T, I, R, J)) := by
  refine q_C.of (ls0 := [some (.ref c), some (.int (nI k)), some (.int (nI i))]) (by decide) rfl (by decide) (Nat.le_of_ble_eq_true rfl) rfl ?_
  refine q_aload_n d_Cells_read_0 rfl rfl ?_
  refine q_getR (ci := 1) (fk := 0) d_Cells_read_1 rfl (Nat.le_of_ble_eq_true rfl) w_187 (fun _ _ => rfl) hL.1 (hL.2 0 _ _ _ rfl).1 ?_
  refine q_iload_n d_Cells_read_4 rfl rfl ?_
  refine q_bipush (v := nI 7) d_Cells_read_5 (by decide) ?_
  first | refine q_imulN d_Cells_read_7 ?_ | refine q_imul d_Cells_read_7 ?_
  refine q_iconst (v := nI 1) d_Cells_read_8 (by decide) ?_
  first | refine q_iaddN d_Cells_read_9 ?_ | refine q_iadd d_Cells_read_9 ?_
  refine q_iload_n d_Cells_read_10 rfl rfl ?_
  first | refine q_iaddN d_Cells_read_11 ?_ | refine q_iadd d_Cells_read_11 ?_
  refine q_iald d_Cells_read_12 (hL.2 0 _ _ _ rfl).2 (by first | assumption | exact vp_in_nI (by omega) (by omega)) ?_
  refine q_iret d_Cells_read_13 rfl (by omega) (by omega) ?_
  exact ⟨_, rfl, rfl, rfl⟩
theorem c_Cells_resize {c N k : Nat} (hL : q_L 1 (t_Cells N) c T R) (hN : N < 2 ^ 31) (hk : k * 7 + 7 ≤ N) (x : Int32) : q_Cv g M_Cells_resize [.ref c, .int (nI k), .int x] (sz, T, I, R, J) 0 0 (fun h' => h' = (sz, T, q_upI I (c + 1) (nI (k * 7)) x, R, J)) := by
  refine q_C.of (ls0 := [some (.ref c), some (.int (nI k)), some (.int x)]) (by decide) rfl (by decide) (Nat.le_of_ble_eq_true rfl) rfl ?_
  refine q_aload_n d_Cells_resize_0 rfl rfl ?_
  refine q_getR (ci := 1) (fk := 0) d_Cells_resize_1 rfl (Nat.le_of_ble_eq_true rfl) w_187 (fun _ _ => rfl) hL.1 (hL.2 0 _ _ _ rfl).1 ?_
  refine q_iload_n d_Cells_resize_4 rfl rfl ?_
  refine q_bipush (v := nI 7) d_Cells_resize_5 (by decide) ?_
  first | refine q_imulN d_Cells_resize_7 ?_ | refine q_imul d_Cells_resize_7 ?_
  refine q_iload_n d_Cells_resize_8 rfl rfl ?_
  refine q_iast d_Cells_resize_9 (hL.2 0 _ _ _ rfl).2 (by first | assumption | exact vp_in_nI (by omega) (by omega)) ?_
  refine q_vret d_Cells_resize_10 rfl (by omega) (by omega) ?_
  exact ⟨rfl, rfl⟩
theorem c_Cells_write {c N k i : Nat} (hL : q_L 1 (t_Cells N) c T R) (hN : N < 2 ^ 31) (hk : k * 7 + 1 + i < N) (x : Int32) : q_Cv g M_Cells_write [.ref c, .int (nI k), .int (nI i), .int x] (sz, T, I, R, J) 0 0 (fun h' => h' = (sz, T, q_upI I (c + 1) (nI (k * 7 + 1 + i)) x, R, J)) := by
  refine q_C.of (ls0 := [some (.ref c), some (.int (nI k)), some (.int (nI i)), some (.int x)]) (by decide) rfl (by decide) (Nat.le_of_ble_eq_true rfl) rfl ?_
  refine q_aload_n d_Cells_write_0 rfl rfl ?_
  refine q_getR (ci := 1) (fk := 0) d_Cells_write_1 rfl (Nat.le_of_ble_eq_true rfl) w_187 (fun _ _ => rfl) hL.1 (hL.2 0 _ _ _ rfl).1 ?_
  refine q_iload_n d_Cells_write_4 rfl rfl ?_
  refine q_bipush (v := nI 7) d_Cells_write_5 (by decide) ?_
  first | refine q_imulN d_Cells_write_7 ?_ | refine q_imul d_Cells_write_7 ?_
  refine q_iconst (v := nI 1) d_Cells_write_8 (by decide) ?_
  first | refine q_iaddN d_Cells_write_9 ?_ | refine q_iadd d_Cells_write_9 ?_
  refine q_iload_n d_Cells_write_10 rfl rfl ?_
  first | refine q_iaddN d_Cells_write_11 ?_ | refine q_iadd d_Cells_write_11 ?_
  refine q_iload_n d_Cells_write_12 rfl rfl ?_
  refine q_iast d_Cells_write_13 (hL.2 0 _ _ _ rfl).2 (by first | assumption | exact vp_in_nI (by omega) (by omega)) ?_
  refine q_vret d_Cells_write_14 rfl (by omega) (by omega) ?_
  exact ⟨rfl, rfl⟩
def k_wn (I : q_I) (a b : Nat) (x : Int32) : q_I := q_upI (q_upI I a (nI b) (nI 1)) a (nI (b + 1)) x
theorem c_Cells_writeNumber {c N k : Nat} (hL : q_L 1 (t_Cells N) c T R) (hN : N < 2 ^ 31) (hk : k * 7 + 7 ≤ N) (x : Int32) : q_Cv g M_Cells_writeNumber [.ref c, .int (nI k), .int x] (sz, T, I, R, J) 0 0 (fun h' => h' = (sz, T, k_wn I (c + 1) (k * 7) x, R, J)) := by
  refine q_C.of (ls0 := [some (.ref c), some (.int (nI k)), some (.int x)]) (by decide) rfl (by decide) (Nat.le_of_ble_eq_true rfl) rfl ?_
  refine q_aload_n d_Cells_writeNumber_0 rfl rfl ?_
  refine q_getR (ci := 1) (fk := 0) d_Cells_writeNumber_1 rfl (Nat.le_of_ble_eq_true rfl) w_187 (fun _ _ => rfl) hL.1 (hL.2 0 _ _ _ rfl).1 ?_
  refine q_iload_n d_Cells_writeNumber_4 rfl rfl ?_
  refine q_bipush (v := nI 7) d_Cells_writeNumber_5 (by decide) ?_
  first | refine q_imulN d_Cells_writeNumber_7 ?_ | refine q_imul d_Cells_writeNumber_7 ?_
  refine q_iconst (v := nI 1) d_Cells_writeNumber_8 (by decide) ?_
  refine q_iast d_Cells_writeNumber_9 (hL.2 0 _ _ _ rfl).2 (by first | assumption | exact vp_in_nI (by omega) (by omega)) ?_
  refine q_aload_n d_Cells_writeNumber_10 rfl rfl ?_
  refine q_getR (ci := 1) (fk := 0) d_Cells_writeNumber_11 rfl (Nat.le_of_ble_eq_true rfl) w_187 (fun _ _ => rfl) hL.1 (hL.2 0 _ _ _ rfl).1 ?_
  refine q_iload_n d_Cells_writeNumber_14 rfl rfl ?_
  refine q_bipush (v := nI 7) d_Cells_writeNumber_15 (by decide) ?_
  first | refine q_imulN d_Cells_writeNumber_17 ?_ | refine q_imul d_Cells_writeNumber_17 ?_
  refine q_iconst (v := nI 1) d_Cells_writeNumber_18 (by decide) ?_
  first | refine q_iaddN d_Cells_writeNumber_19 ?_ | refine q_iadd d_Cells_writeNumber_19 ?_
  refine q_iload_n d_Cells_writeNumber_20 rfl rfl ?_
  refine q_iast d_Cells_writeNumber_21 (hL.2 0 _ _ _ rfl).2 (by first | assumption | exact vp_in_nI (by omega) (by omega)) ?_
  refine q_vret d_Cells_writeNumber_22 rfl (by omega) (by omega) ?_
  exact ⟨rfl, rfl⟩
theorem c_Lens_nearestToZero (a b : Int32) : q_Ci g M_Lens_nearestToZero [.int a, .int b] (sz, T, I, R, J) 0 0 (fun r h' => r = p_near a b ∧ h' = (sz, T, I, R, J)) := by
  refine q_C.of (ls0 := [some (.int a), some (.int b)]) (by decide) rfl (by decide) (Nat.le_of_ble_eq_true rfl) rfl ?_
  refine q_iload_n d_Lens_nearestToZero_0 rfl rfl ?_
  refine q_if_le (tgt := 8) d_Lens_nearestToZero_1 rfl (fun hc => ?_) (fun hc => ?_)
  · have h0 : ¬ 0 < a := by rw [Int32.lt_iff_toInt_lt]; rw [Int32.le_iff_toInt_le] at hc; omega
    refine q_iload_n d_Lens_nearestToZero_8 rfl rfl ?_
    refine q_if_ge (tgt := 16) d_Lens_nearestToZero_9 rfl (fun hc => ?_) (fun hc => ?_)
    · refine q_iconst (v := nI 0) d_Lens_nearestToZero_16 (by decide) ?_
      refine q_iret d_Lens_nearestToZero_17 rfl (by omega) (by omega) ?_
      refine ⟨_, rfl, ?_, rfl⟩
      have h1 : ¬ b < 0 := by rw [Int32.lt_iff_toInt_lt]; rw [Int32.le_iff_toInt_le] at hc; omega
      rw [p_near, if_neg h0, if_neg h1]
      rfl
    · refine q_iload_n d_Lens_nearestToZero_12 rfl rfl ?_
      refine q_goto (tgt := 17) d_Lens_nearestToZero_13 rfl ?_
      refine q_iret d_Lens_nearestToZero_17 rfl (by omega) (by omega) ?_
      refine ⟨_, rfl, ?_, rfl⟩
      have h1 : b < 0 := by rw [Int32.lt_iff_toInt_lt]; rw [Int32.le_iff_toInt_le] at hc; omega
      rw [p_near, if_neg h0, if_pos h1]
  · refine q_iload_n d_Lens_nearestToZero_4 rfl rfl ?_
    refine q_goto (tgt := 17) d_Lens_nearestToZero_5 rfl ?_
    refine q_iret d_Lens_nearestToZero_17 rfl (by omega) (by omega) ?_
    have h0 : 0 < a := by rw [Int32.lt_iff_toInt_lt]; rw [Int32.le_iff_toInt_le] at hc; omega
    exact ⟨_, rfl, by rw [p_near, if_pos h0], rfl⟩
/-- what a field of this sort holds when it comes -/
def k_dfl (so lo hi : Int32) : List Int32 := if so = 0 then [p_near lo hi] else []
theorem k_rw_wn (I : q_I) (a b : Nat) (x : Int32) (hb : b + 1 < 2 ^ 31) : k_rw (k_wn I a b x a) b [x] := by
  refine ⟨by simp, ?_, fun i y hy => ?_⟩
  · unfold k_wn
    rw [q_upI_nei (fun z => by have := (nI_eq (by omega) (by omega)).mp z; omega), q_upI_self]; rfl
  · cases i with
    | zero => cases hy; exact q_upI_self
    | succ i => cases hy
theorem c_Cells_writeDefault {c N k : Nat} (hL : q_L 1 (t_Cells N) c T R) (hN : N < 2 ^ 31) (hk : k * 7 + 7 ≤ N) (so lo hi : Int32) : q_Cv g M_Cells_writeDefault [.ref c, .int (nI k), .int so, .int lo, .int hi] (sz, T, I, R, J) 0 0 (fun h' => ∃ I' : q_I, h' = (sz, T, I', R, J) ∧ (∀ b, b ≠ c + 1 → I' b = I b) ∧ (∀ j, j < k * 7 ∨ k * 7 + 7 ≤ j → j < 2 ^ 31 → I' (c + 1) (nI j) = I (c + 1) (nI j)) ∧ k_rw (I' (c + 1)) (k * 7) (k_dfl so lo hi)) := by
  refine q_C.of (ls0 := [some (.ref c), some (.int (nI k)), some (.int so), some (.int lo), some (.int hi)]) (by decide) rfl (by decide) (Nat.le_of_ble_eq_true rfl) rfl ?_
  refine q_iload_n d_Cells_writeDefault_0 rfl rfl ?_
  refine q_if_ne (tgt := 18) d_Cells_writeDefault_1 rfl (fun hc => ?_) (fun hc => ?_)
  · refine q_aload_n d_Cells_writeDefault_18 rfl rfl ?_
    refine q_iload_n d_Cells_writeDefault_19 rfl rfl ?_
    refine q_iconst (v := nI 0) d_Cells_writeDefault_20 (by decide) ?_
    refine q_callVv (M2 := M_Cells_resize) d_Cells_writeDefault_21 ⟨(Nat.le_of_ble_eq_true rfl), (Nat.le_of_ble_eq_true rfl), w_736, w_7, ⟨by decide, by decide⟩, show _ = some 2 by decide +kernel⟩ w_733 w_734 (ci := 1) rfl w_735 hL.1 rfl (Nat.le_of_ble_eq_true rfl) (by omega) (by omega) (c_Cells_resize hL hN hk (nI 0)) ?_
    rintro _ rfl
    refine q_vret d_Cells_writeDefault_24 rfl (by omega) (by omega) ?_
    refine ⟨rfl, _, rfl, fun b hb => ?_, fun j hj hj2 => ?_, ?_⟩
    · funext q
      rw [q_upI_nea hb]
    · rw [q_upI_nei (fun z => by have := (nI_eq hj2 (by omega)).mp z; omega)]
    · rw [k_dfl, if_neg hc]
      exact ⟨by simp, q_upI_self, fun i y hy => by cases hy⟩
  · refine q_aload_n d_Cells_writeDefault_4 rfl rfl ?_
    refine q_iload_n d_Cells_writeDefault_5 rfl rfl ?_
    refine q_iload_n d_Cells_writeDefault_6 rfl rfl ?_
    refine q_iload d_Cells_writeDefault_7 rfl ?_
    refine q_callSNi (M2 := M_Lens_nearestToZero) d_Cells_writeDefault_9 ⟨(Nat.le_of_ble_eq_true rfl), (Nat.le_of_ble_eq_true rfl), w_728, w_1, ⟨by decide, by decide⟩, show _ = some 2 by decide +kernel⟩ w_726 w_727 rfl (Nat.le_of_ble_eq_true rfl) (by omega) (by omega) (c_Lens_nearestToZero lo hi) ?_
    rintro _ _ ⟨rfl, rfl⟩
    refine q_callVv (M2 := M_Cells_writeNumber) d_Cells_writeDefault_12 ⟨(Nat.le_of_ble_eq_true rfl), (Nat.le_of_ble_eq_true rfl), w_732, w_7, ⟨by decide, by decide⟩, show _ = some 2 by decide +kernel⟩ w_729 w_730 (ci := 1) rfl w_731 hL.1 rfl (Nat.le_of_ble_eq_true rfl) (by omega) (by omega) (c_Cells_writeNumber hL hN hk (p_near lo hi)) ?_
    rintro _ rfl
    refine q_goto (tgt := 24) d_Cells_writeDefault_15 rfl ?_
    refine q_vret d_Cells_writeDefault_24 rfl (by omega) (by omega) ?_
    refine ⟨rfl, _, rfl, fun b hb => ?_, fun j hj hj2 => ?_, ?_⟩
    · funext q
      unfold k_wn
      rw [q_upI_nea hb, q_upI_nea hb]
    · unfold k_wn
      rw [q_upI_nei (fun z => by have := (nI_eq hj2 (by omega)).mp z; omega), q_upI_nei (fun z => by have := (nI_eq hj2 (by omega)).mp z; omega)]
    · rw [k_dfl, if_pos hc]
      exact k_rw_wn _ _ _ _ (by omega)
theorem c_Cells_matches {c c2 N N2 k k2 : Nat} (hL : q_L 1 (t_Cells N) c T R) (hL2 : q_L 1 (t_Cells N2) c2 T R) (hN : N < 2 ^ 31) (hN2 : N2 < 2 ^ 31) (hk : k * 7 + 7 ≤ N) (hk2 : k2 * 7 + 7 ≤ N2) {u v : List Int32} (hu : k_rw (I (c + 1)) (k * 7) u) (hv : k_rw (I (c2 + 1)) (k2 * 7) v) :
    q_Ci g M_Cells_matches [.ref c, .int (nI k), .ref c2, .int (nI k2)] (sz, T, I, R, J) 0 0 (fun r h' => r = p_b (decide (u = v)) ∧ h' = (sz, T, I, R, J)) := by
  have t2 := hL2.1
  have hu1 := hu.1
  have hv1 := hv.1
  refine q_C.of (ls0 := [some (.ref c), some (.int (nI k)), some (.ref c2), some (.int (nI k2)), none]) (by decide) rfl (by decide) (Nat.le_of_ble_eq_true rfl) rfl ?_
  refine q_aload_n d_Cells_matches_0 rfl rfl ?_
  refine q_iload_n d_Cells_matches_1 rfl rfl ?_
  refine q_callVi (M2 := M_Cells_lengthOf) d_Cells_matches_2 ⟨(Nat.le_of_ble_eq_true rfl), (Nat.le_of_ble_eq_true rfl), w_794, w_7, ⟨by decide, by decide⟩, show _ = some 1 by decide +kernel⟩ w_865 w_792 (ci := 1) rfl w_793 hL.1 rfl (Nat.le_of_ble_eq_true rfl) (by omega) (by omega) (c_Cells_lengthOf hL hN hk) ?_
  rintro _ _ ⟨rfl, rfl⟩
  rw [hu.2.1]
  refine q_aload_n d_Cells_matches_5 rfl rfl ?_
  refine q_iload_n d_Cells_matches_6 rfl rfl ?_
  refine q_callVi (M2 := M_Cells_lengthOf) d_Cells_matches_7 ⟨(Nat.le_of_ble_eq_true rfl), (Nat.le_of_ble_eq_true rfl), w_794, w_7, ⟨by decide, by decide⟩, show _ = some 1 by decide +kernel⟩ w_865 w_792 (ci := 1) rfl w_793 (by first | assumption | rfl | (simp (disch := omega) only [q_upT_self, q_upT_ne, q_upR_self, q_upR_nea, q_upR_nk, q_upT_at, *]; done) | (simp (disch := omega) only [q_upT_self, q_upT_ne, q_upR_self, q_upR_nea, q_upR_nk, q_upT_at, *]; rfl)) rfl (Nat.le_of_ble_eq_true rfl) (by omega) (by omega) (c_Cells_lengthOf hL2 hN2 hk2) ?_
  rintro _ _ ⟨rfl, rfl⟩
  rw [hv.2.1]
  refine q_icmp_eq (tgt := 15) d_Cells_matches_10 rfl (fun hc => ?_) (fun hc => ?_)
  · have hlen := (nI_eq (by omega) (by omega)).mp hc
    have loop : ∀ (t t2 : List Int32) (i mcc msc : Nat), mcc = 0 → msc = 0 → u.drop i = t → v.drop i = t2 → i ≤ u.length → q_V g M_Cells_matches 0 0 mcc msc (sz, T, I, R, J) (fun o h' => ∃ r : Int32, o = .inl (some (.int r)) ∧ (r = p_b (decide (t = t2)) ∧ h' = (sz, T, I, R, J))) 18 [some (.ref c), some (.int (nI k)), some (.ref c2), some (.int (nI k2)), some (.int (nI i))] [] := by
      intro t
      induction t with
      | nil =>
        intro t2 i mcc msc e1 e2 ht ht2 hi
        subst e1; subst e2
        have h1 := k_drop0 ht
        have e : t2 = [] := by rw [← ht2]; exact List.drop_of_length_le (by omega)
        refine q_iload d_Cells_matches_18 rfl ?_
        refine q_aload_n d_Cells_matches_20 rfl rfl ?_
        refine q_iload_n d_Cells_matches_21 rfl rfl ?_
        refine q_callVi (M2 := M_Cells_lengthOf) d_Cells_matches_22 ⟨(Nat.le_of_ble_eq_true rfl), (Nat.le_of_ble_eq_true rfl), w_794, w_7, ⟨by decide, by decide⟩, show _ = some 1 by decide +kernel⟩ w_865 w_792 (ci := 1) rfl w_793 hL.1 rfl (Nat.le_of_ble_eq_true rfl) (by omega) (by omega) (c_Cells_lengthOf hL hN hk) ?_
        rintro _ _ ⟨rfl, rfl⟩
        rw [hu.2.1]
        refine q_icmp_ge (tgt := 53) d_Cells_matches_25 rfl (fun hc => ?_) (fun hc => ?_)
        · refine q_iconst (v := nI 1) d_Cells_matches_53 (by decide) ?_
          refine q_zret d_Cells_matches_54 rfl (by first | exact Or.inl rfl | exact Or.inr rfl | assumption) (by omega) (by omega) ?_
          exact ⟨_, rfl, by rw [e]; rfl, rfl⟩
        · rw [nI_leI (by omega) (by omega)] at hc
          omega
      | cons x t ih =>
        intro t2 i mcc msc e1 e2 ht ht2 hi
        subst e1; subst e2
        obtain ⟨h1, h2, h3⟩ := k_drop1 ht
        obtain ⟨y, u2, rfl⟩ : ∃ y u2, t2 = y :: u2 := ⟨_, _, by rw [← ht2]; exact List.drop_eq_getElem_cons (by omega)⟩
        obtain ⟨h4, h5, h6⟩ := k_drop1 ht2
        refine q_iload d_Cells_matches_18 rfl ?_
        refine q_aload_n d_Cells_matches_20 rfl rfl ?_
        refine q_iload_n d_Cells_matches_21 rfl rfl ?_
        refine q_callVi (M2 := M_Cells_lengthOf) d_Cells_matches_22 ⟨(Nat.le_of_ble_eq_true rfl), (Nat.le_of_ble_eq_true rfl), w_794, w_7, ⟨by decide, by decide⟩, show _ = some 1 by decide +kernel⟩ w_865 w_792 (ci := 1) rfl w_793 hL.1 rfl (Nat.le_of_ble_eq_true rfl) (by omega) (by omega) (c_Cells_lengthOf hL hN hk) ?_
        rintro _ _ ⟨rfl, rfl⟩
        rw [hu.2.1]
        refine q_icmp_ge (tgt := 53) d_Cells_matches_25 rfl (fun hc => ?_) (fun hc => ?_)
        · rw [nI_leI (by omega) (by omega)] at hc
          omega
        · refine q_aload_n d_Cells_matches_28 rfl rfl ?_
          refine q_iload_n d_Cells_matches_29 rfl rfl ?_
          refine q_iload d_Cells_matches_30 rfl ?_
          refine q_callVi (M2 := M_Cells_read) d_Cells_matches_32 ⟨(Nat.le_of_ble_eq_true rfl), (Nat.le_of_ble_eq_true rfl), w_817, w_7, ⟨by decide, by decide⟩, show _ = some 2 by decide +kernel⟩ w_866 w_815 (ci := 1) rfl w_816 hL.1 rfl (Nat.le_of_ble_eq_true rfl) (by omega) (by omega) (c_Cells_read hL hN (i := i) (by omega)) ?_
          rintro _ _ ⟨rfl, rfl⟩
          rw [hu.2.2 i x h2]
          refine q_aload_n d_Cells_matches_35 rfl rfl ?_
          refine q_iload_n d_Cells_matches_36 rfl rfl ?_
          refine q_iload d_Cells_matches_37 rfl ?_
          refine q_callVi (M2 := M_Cells_read) d_Cells_matches_39 ⟨(Nat.le_of_ble_eq_true rfl), (Nat.le_of_ble_eq_true rfl), w_817, w_7, ⟨by decide, by decide⟩, show _ = some 2 by decide +kernel⟩ w_866 w_815 (ci := 1) rfl w_816 (by first | assumption | rfl | (simp (disch := omega) only [q_upT_self, q_upT_ne, q_upR_self, q_upR_nea, q_upR_nk, q_upT_at, *]; done) | (simp (disch := omega) only [q_upT_self, q_upT_ne, q_upR_self, q_upR_nea, q_upR_nk, q_upT_at, *]; rfl)) rfl (Nat.le_of_ble_eq_true rfl) (by omega) (by omega) (c_Cells_read hL2 hN2 (i := i) (by omega)) ?_
          rintro _ _ ⟨rfl, rfl⟩
          rw [hv.2.2 i y h5]
          refine q_icmp_eq (tgt := 47) d_Cells_matches_42 rfl (fun hc => ?_) (fun hc => ?_)
          · first | refine q_iincN d_Cells_matches_47 rfl (Nat.le_of_ble_eq_true rfl) (by first | exact q_ok0 | exact q_okI rfl | exact q_okR rfl | exact q_okN rfl) rfl ?_ | refine q_iinc d_Cells_matches_47 rfl rfl (Nat.le_of_ble_eq_true rfl) (by first | exact q_ok0 | exact q_okI rfl | exact q_okR rfl | exact q_okN rfl) rfl ?_
            refine q_goto (tgt := 18) d_Cells_matches_50 rfl ?_
            subst hc
            have ed : decide (x :: t = x :: u2) = decide (t = u2) := by simp
            rw [ed]
            exact ih u2 (i + 1) _ _ rfl rfl h3 h6 (by omega)
          · refine q_iconst (v := nI 0) d_Cells_matches_45 (by decide) ?_
            refine q_zret d_Cells_matches_46 rfl (by first | exact Or.inl rfl | exact Or.inr rfl | assumption) (by omega) (by omega) ?_
            have z2 : ¬ (x :: t = y :: u2) := fun q => hc (List.cons.inj q).1
            exact ⟨_, rfl, by rw [decide_eq_false z2]; rfl, rfl⟩
    refine q_iconst (v := nI 0) d_Cells_matches_15 (by decide) ?_
    refine q_istore d_Cells_matches_16 (Nat.le_of_ble_eq_true rfl) (by first | exact q_ok0 | exact q_okI rfl | exact q_okR rfl | exact q_okN rfl) rfl ?_
    exact loop u v 0 _ _ rfl rfl rfl rfl (by omega)
  · refine q_iconst (v := nI 0) d_Cells_matches_13 (by decide) ?_
    refine q_zret d_Cells_matches_14 rfl (by first | exact Or.inl rfl | exact Or.inr rfl | assumption) (by omega) (by omega) ?_
    have z2 : ¬ (u = v) := fun q => hc (by rw [q])
    exact ⟨_, rfl, by rw [decide_eq_false z2]; rfl, rfl⟩
end CellsC
