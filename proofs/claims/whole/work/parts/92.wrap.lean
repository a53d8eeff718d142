/-! the law's own methods: one call, its exceptions as numbers -/
abbrev M_Law_field : q_M := (⟨"LensPathsLaw", "field", "(LLensPaths;IIII[J)I"⟩, method_3_code, 7, (some .int), "LensPathsLaw", [(0, 14, 17, 13), (0, 14, 21, 15)], false, 7, 116)
theorem d_Law_field_0 : decode method_3_code 0 = .ok (.aload 5, 2) := by decide +kernel
theorem d_Law_field_2 : decode method_3_code 2 = .ok (.iconst 0, 1) := by decide +kernel
theorem d_Law_field_3 : decode method_3_code 3 = .ok (.aload_n 0, 1) := by decide +kernel
theorem d_Law_field_4 : decode method_3_code 4 = .ok (.iload_n 1, 1) := by decide +kernel
theorem d_Law_field_5 : decode method_3_code 5 = .ok (.iload_n 2, 1) := by decide +kernel
theorem d_Law_field_6 : decode method_3_code 6 = .ok (.iload_n 3, 1) := by decide +kernel
theorem d_Law_field_7 : decode method_3_code 7 = .ok (.iload 4, 2) := by decide +kernel
theorem d_Law_field_9 : decode method_3_code 9 = .ok (.invokevirtual 7, 3) := by decide +kernel
theorem d_Law_field_12 : decode method_3_code 12 = .ok (.i2l, 1) := by decide +kernel
theorem d_Law_field_13 : decode method_3_code 13 = .ok (.lastore, 1) := by decide +kernel
theorem d_Law_field_14 : decode method_3_code 14 = .ok (.goto 11, 3) := by decide +kernel
theorem d_Law_field_17 : decode method_3_code 17 = .ok (.astore 6, 2) := by decide +kernel
theorem d_Law_field_19 : decode method_3_code 19 = .ok (.iconst 1, 1) := by decide +kernel
theorem d_Law_field_20 : decode method_3_code 20 = .ok (.ireturn, 1) := by decide +kernel
theorem d_Law_field_21 : decode method_3_code 21 = .ok (.astore 6, 2) := by decide +kernel
theorem d_Law_field_23 : decode method_3_code 23 = .ok (.iconst 2, 1) := by decide +kernel
theorem d_Law_field_24 : decode method_3_code 24 = .ok (.ireturn, 1) := by decide +kernel
theorem d_Law_field_25 : decode method_3_code 25 = .ok (.iconst 0, 1) := by decide +kernel
theorem d_Law_field_26 : decode method_3_code 26 = .ok (.ireturn, 1) := by decide +kernel
abbrev M_Law_begin : q_M := (⟨"LensPathsLaw", "begin", "(LLensPaths;I)I"⟩, method_4_code, 3, (some .int), "LensPathsLaw", [(0, 5, 8, 21), (0, 5, 11, 13)], false, 8, 132)
theorem d_Law_begin_0 : decode method_4_code 0 = .ok (.aload_n 0, 1) := by decide +kernel
theorem d_Law_begin_1 : decode method_4_code 1 = .ok (.iload_n 1, 1) := by decide +kernel
theorem d_Law_begin_2 : decode method_4_code 2 = .ok (.invokevirtual 17, 3) := by decide +kernel
theorem d_Law_begin_5 : decode method_4_code 5 = .ok (.goto 9, 3) := by decide +kernel
theorem d_Law_begin_8 : decode method_4_code 8 = .ok (.astore_n 2, 1) := by decide +kernel
theorem d_Law_begin_9 : decode method_4_code 9 = .ok (.iconst 1, 1) := by decide +kernel
theorem d_Law_begin_10 : decode method_4_code 10 = .ok (.ireturn, 1) := by decide +kernel
theorem d_Law_begin_11 : decode method_4_code 11 = .ok (.astore_n 2, 1) := by decide +kernel
theorem d_Law_begin_12 : decode method_4_code 12 = .ok (.iconst 2, 1) := by decide +kernel
theorem d_Law_begin_13 : decode method_4_code 13 = .ok (.ireturn, 1) := by decide +kernel
theorem d_Law_begin_14 : decode method_4_code 14 = .ok (.iconst 0, 1) := by decide +kernel
theorem d_Law_begin_15 : decode method_4_code 15 = .ok (.ireturn, 1) := by decide +kernel
abbrev M_Law_primitive : q_M := (⟨"LensPathsLaw", "primitive", "(LLensPaths;IIIII[J)I"⟩, method_5_code, 8, (some .int), "LensPathsLaw", [(0, 16, 19, 13), (0, 16, 23, 15)], false, 7, 170)
theorem d_Law_primitive_0 : decode method_5_code 0 = .ok (.aload 6, 2) := by decide +kernel
theorem d_Law_primitive_2 : decode method_5_code 2 = .ok (.iconst 0, 1) := by decide +kernel
theorem d_Law_primitive_3 : decode method_5_code 3 = .ok (.aload_n 0, 1) := by decide +kernel
theorem d_Law_primitive_4 : decode method_5_code 4 = .ok (.iload_n 1, 1) := by decide +kernel
theorem d_Law_primitive_5 : decode method_5_code 5 = .ok (.iload_n 2, 1) := by decide +kernel
theorem d_Law_primitive_6 : decode method_5_code 6 = .ok (.iload_n 3, 1) := by decide +kernel
theorem d_Law_primitive_7 : decode method_5_code 7 = .ok (.iload 4, 2) := by decide +kernel
theorem d_Law_primitive_9 : decode method_5_code 9 = .ok (.iload 5, 2) := by decide +kernel
theorem d_Law_primitive_11 : decode method_5_code 11 = .ok (.invokevirtual 23, 3) := by decide +kernel
theorem d_Law_primitive_14 : decode method_5_code 14 = .ok (.i2l, 1) := by decide +kernel
theorem d_Law_primitive_15 : decode method_5_code 15 = .ok (.lastore, 1) := by decide +kernel
theorem d_Law_primitive_16 : decode method_5_code 16 = .ok (.goto 11, 3) := by decide +kernel
theorem d_Law_primitive_19 : decode method_5_code 19 = .ok (.astore 7, 2) := by decide +kernel
theorem d_Law_primitive_21 : decode method_5_code 21 = .ok (.iconst 1, 1) := by decide +kernel
theorem d_Law_primitive_22 : decode method_5_code 22 = .ok (.ireturn, 1) := by decide +kernel
theorem d_Law_primitive_23 : decode method_5_code 23 = .ok (.astore 7, 2) := by decide +kernel
theorem d_Law_primitive_25 : decode method_5_code 25 = .ok (.iconst 2, 1) := by decide +kernel
theorem d_Law_primitive_26 : decode method_5_code 26 = .ok (.ireturn, 1) := by decide +kernel
theorem d_Law_primitive_27 : decode method_5_code 27 = .ok (.iconst 0, 1) := by decide +kernel
theorem d_Law_primitive_28 : decode method_5_code 28 = .ok (.ireturn, 1) := by decide +kernel
abbrev M_Law_end : q_M := (⟨"LensPathsLaw", "end", "(LLensPaths;I[J)I"⟩, method_6_code, 4, (some .int), "LensPathsLaw", [(0, 9, 12, 13), (0, 9, 15, 21), (0, 9, 18, 15), (0, 9, 21, 31)], false, 8, 133)
theorem d_Law_end_0 : decode method_6_code 0 = .ok (.aload_n 2, 1) := by decide +kernel
theorem d_Law_end_1 : decode method_6_code 1 = .ok (.iconst 0, 1) := by decide +kernel
theorem d_Law_end_2 : decode method_6_code 2 = .ok (.aload_n 0, 1) := by decide +kernel
theorem d_Law_end_3 : decode method_6_code 3 = .ok (.iload_n 1, 1) := by decide +kernel
theorem d_Law_end_4 : decode method_6_code 4 = .ok (.invokevirtual 27, 3) := by decide +kernel
theorem d_Law_end_7 : decode method_6_code 7 = .ok (.i2l, 1) := by decide +kernel
theorem d_Law_end_8 : decode method_6_code 8 = .ok (.lastore, 1) := by decide +kernel
theorem d_Law_end_9 : decode method_6_code 9 = .ok (.goto 15, 3) := by decide +kernel
theorem d_Law_end_12 : decode method_6_code 12 = .ok (.astore_n 3, 1) := by decide +kernel
theorem d_Law_end_13 : decode method_6_code 13 = .ok (.iconst 1, 1) := by decide +kernel
theorem d_Law_end_14 : decode method_6_code 14 = .ok (.ireturn, 1) := by decide +kernel
theorem d_Law_end_15 : decode method_6_code 15 = .ok (.astore_n 3, 1) := by decide +kernel
theorem d_Law_end_16 : decode method_6_code 16 = .ok (.iconst 2, 1) := by decide +kernel
theorem d_Law_end_17 : decode method_6_code 17 = .ok (.ireturn, 1) := by decide +kernel
theorem d_Law_end_18 : decode method_6_code 18 = .ok (.astore_n 3, 1) := by decide +kernel
theorem d_Law_end_19 : decode method_6_code 19 = .ok (.iconst 3, 1) := by decide +kernel
theorem d_Law_end_20 : decode method_6_code 20 = .ok (.ireturn, 1) := by decide +kernel
theorem d_Law_end_21 : decode method_6_code 21 = .ok (.astore_n 3, 1) := by decide +kernel
theorem d_Law_end_22 : decode method_6_code 22 = .ok (.iconst 4, 1) := by decide +kernel
theorem d_Law_end_23 : decode method_6_code 23 = .ok (.ireturn, 1) := by decide +kernel
theorem d_Law_end_24 : decode method_6_code 24 = .ok (.iconst 0, 1) := by decide +kernel
theorem d_Law_end_25 : decode method_6_code 25 = .ok (.ireturn, 1) := by decide +kernel
abbrev M_Law_about : q_M := (⟨"LensPathsLaw", "about", "(LLensPaths;III[J)I"⟩, method_7_code, 6, (some .int), "LensPathsLaw", [(0, 12, 15, 21), (0, 12, 19, 15)], false, 8, 138)
theorem d_Law_about_0 : decode method_7_code 0 = .ok (.aload 4, 2) := by decide +kernel
theorem d_Law_about_2 : decode method_7_code 2 = .ok (.iconst 0, 1) := by decide +kernel
theorem d_Law_about_3 : decode method_7_code 3 = .ok (.aload_n 0, 1) := by decide +kernel
theorem d_Law_about_4 : decode method_7_code 4 = .ok (.iload_n 1, 1) := by decide +kernel
theorem d_Law_about_5 : decode method_7_code 5 = .ok (.iload_n 2, 1) := by decide +kernel
theorem d_Law_about_6 : decode method_7_code 6 = .ok (.iload_n 3, 1) := by decide +kernel
theorem d_Law_about_7 : decode method_7_code 7 = .ok (.invokevirtual 33, 3) := by decide +kernel
theorem d_Law_about_10 : decode method_7_code 10 = .ok (.i2l, 1) := by decide +kernel
theorem d_Law_about_11 : decode method_7_code 11 = .ok (.lastore, 1) := by decide +kernel
theorem d_Law_about_12 : decode method_7_code 12 = .ok (.goto 11, 3) := by decide +kernel
theorem d_Law_about_15 : decode method_7_code 15 = .ok (.astore 5, 2) := by decide +kernel
theorem d_Law_about_17 : decode method_7_code 17 = .ok (.iconst 1, 1) := by decide +kernel
theorem d_Law_about_18 : decode method_7_code 18 = .ok (.ireturn, 1) := by decide +kernel
theorem d_Law_about_19 : decode method_7_code 19 = .ok (.astore 5, 2) := by decide +kernel
theorem d_Law_about_21 : decode method_7_code 21 = .ok (.iconst 2, 1) := by decide +kernel
theorem d_Law_about_22 : decode method_7_code 22 = .ok (.ireturn, 1) := by decide +kernel
theorem d_Law_about_23 : decode method_7_code 23 = .ok (.iconst 0, 1) := by decide +kernel
theorem d_Law_about_24 : decode method_7_code 24 = .ok (.ireturn, 1) := by decide +kernel
abbrev M_Law_count : q_M := (⟨"LensPathsLaw", "count", "(LLensPaths;I[J)I"⟩, method_8_code, 4, (some .int), "LensPathsLaw", [(0, 9, 12, 15)], false, 7, 111)
theorem d_Law_count_0 : decode method_8_code 0 = .ok (.aload_n 2, 1) := by decide +kernel
theorem d_Law_count_1 : decode method_8_code 1 = .ok (.iconst 0, 1) := by decide +kernel
theorem d_Law_count_2 : decode method_8_code 2 = .ok (.aload_n 0, 1) := by decide +kernel
theorem d_Law_count_3 : decode method_8_code 3 = .ok (.iload_n 1, 1) := by decide +kernel
theorem d_Law_count_4 : decode method_8_code 4 = .ok (.invokevirtual 37, 3) := by decide +kernel
theorem d_Law_count_7 : decode method_8_code 7 = .ok (.i2l, 1) := by decide +kernel
theorem d_Law_count_8 : decode method_8_code 8 = .ok (.lastore, 1) := by decide +kernel
theorem d_Law_count_9 : decode method_8_code 9 = .ok (.goto 6, 3) := by decide +kernel
theorem d_Law_count_12 : decode method_8_code 12 = .ok (.astore_n 3, 1) := by decide +kernel
theorem d_Law_count_13 : decode method_8_code 13 = .ok (.iconst 1, 1) := by decide +kernel
theorem d_Law_count_14 : decode method_8_code 14 = .ok (.ireturn, 1) := by decide +kernel
theorem d_Law_count_15 : decode method_8_code 15 = .ok (.iconst 0, 1) := by decide +kernel
theorem d_Law_count_16 : decode method_8_code 16 = .ok (.ireturn, 1) := by decide +kernel
abbrev M_Law_record : q_M := (⟨"LensPathsLaw", "record", "(LLensPaths;I[J)I"⟩, method_9_code, 4, (some .int), "LensPathsLaw", [(0, 9, 12, 21), (0, 9, 15, 31)], false, 8, 133)
theorem d_Law_record_0 : decode method_9_code 0 = .ok (.aload_n 2, 1) := by decide +kernel
theorem d_Law_record_1 : decode method_9_code 1 = .ok (.iconst 0, 1) := by decide +kernel
theorem d_Law_record_2 : decode method_9_code 2 = .ok (.aload_n 0, 1) := by decide +kernel
theorem d_Law_record_3 : decode method_9_code 3 = .ok (.iload_n 1, 1) := by decide +kernel
theorem d_Law_record_4 : decode method_9_code 4 = .ok (.invokevirtual 40, 3) := by decide +kernel
theorem d_Law_record_7 : decode method_9_code 7 = .ok (.i2l, 1) := by decide +kernel
theorem d_Law_record_8 : decode method_9_code 8 = .ok (.lastore, 1) := by decide +kernel
theorem d_Law_record_9 : decode method_9_code 9 = .ok (.goto 9, 3) := by decide +kernel
theorem d_Law_record_12 : decode method_9_code 12 = .ok (.astore_n 3, 1) := by decide +kernel
theorem d_Law_record_13 : decode method_9_code 13 = .ok (.iconst 1, 1) := by decide +kernel
theorem d_Law_record_14 : decode method_9_code 14 = .ok (.ireturn, 1) := by decide +kernel
theorem d_Law_record_15 : decode method_9_code 15 = .ok (.astore_n 3, 1) := by decide +kernel
theorem d_Law_record_16 : decode method_9_code 16 = .ok (.iconst 2, 1) := by decide +kernel
theorem d_Law_record_17 : decode method_9_code 17 = .ok (.ireturn, 1) := by decide +kernel
theorem d_Law_record_18 : decode method_9_code 18 = .ok (.iconst 0, 1) := by decide +kernel
theorem d_Law_record_19 : decode method_9_code 19 = .ok (.ireturn, 1) := by decide +kernel
abbrev M_Law_copy : q_M := (⟨"LensPathsLaw", "copy", "(LLensPaths;I[J)I"⟩, method_10_code, 4, (some .int), "LensPathsLaw", [(0, 9, 12, 21), (0, 9, 15, 31)], false, 8, 133)
theorem d_Law_copy_0 : decode method_10_code 0 = .ok (.aload_n 2, 1) := by decide +kernel
theorem d_Law_copy_1 : decode method_10_code 1 = .ok (.iconst 0, 1) := by decide +kernel
theorem d_Law_copy_2 : decode method_10_code 2 = .ok (.aload_n 0, 1) := by decide +kernel
theorem d_Law_copy_3 : decode method_10_code 3 = .ok (.iload_n 1, 1) := by decide +kernel
theorem d_Law_copy_4 : decode method_10_code 4 = .ok (.invokevirtual 43, 3) := by decide +kernel
theorem d_Law_copy_7 : decode method_10_code 7 = .ok (.i2l, 1) := by decide +kernel
theorem d_Law_copy_8 : decode method_10_code 8 = .ok (.lastore, 1) := by decide +kernel
theorem d_Law_copy_9 : decode method_10_code 9 = .ok (.goto 9, 3) := by decide +kernel
theorem d_Law_copy_12 : decode method_10_code 12 = .ok (.astore_n 3, 1) := by decide +kernel
theorem d_Law_copy_13 : decode method_10_code 13 = .ok (.iconst 1, 1) := by decide +kernel
theorem d_Law_copy_14 : decode method_10_code 14 = .ok (.ireturn, 1) := by decide +kernel
theorem d_Law_copy_15 : decode method_10_code 15 = .ok (.astore_n 3, 1) := by decide +kernel
theorem d_Law_copy_16 : decode method_10_code 16 = .ok (.iconst 2, 1) := by decide +kernel
theorem d_Law_copy_17 : decode method_10_code 17 = .ok (.ireturn, 1) := by decide +kernel
theorem d_Law_copy_18 : decode method_10_code 18 = .ok (.iconst 0, 1) := by decide +kernel
theorem d_Law_copy_19 : decode method_10_code 19 = .ok (.ireturn, 1) := by decide +kernel
abbrev M_Law_drop : q_M := (⟨"LensPathsLaw", "drop", "(LLensPaths;I)I"⟩, method_11_code, 3, (some .int), "LensPathsLaw", [(0, 5, 8, 21)], false, 8, 132)
theorem d_Law_drop_0 : decode method_11_code 0 = .ok (.aload_n 0, 1) := by decide +kernel
theorem d_Law_drop_1 : decode method_11_code 1 = .ok (.iload_n 1, 1) := by decide +kernel
theorem d_Law_drop_2 : decode method_11_code 2 = .ok (.invokevirtual 46, 3) := by decide +kernel
theorem d_Law_drop_5 : decode method_11_code 5 = .ok (.goto 6, 3) := by decide +kernel
theorem d_Law_drop_8 : decode method_11_code 8 = .ok (.astore_n 2, 1) := by decide +kernel
theorem d_Law_drop_9 : decode method_11_code 9 = .ok (.iconst 1, 1) := by decide +kernel
theorem d_Law_drop_10 : decode method_11_code 10 = .ok (.ireturn, 1) := by decide +kernel
theorem d_Law_drop_11 : decode method_11_code 11 = .ok (.iconst 0, 1) := by decide +kernel
theorem d_Law_drop_12 : decode method_11_code 12 = .ok (.ireturn, 1) := by decide +kernel
abbrev M_Law_set : q_M := (⟨"LensPathsLaw", "set", "(LLensPaths;III)I"⟩, method_12_code, 5, (some .int), "LensPathsLaw", [(0, 7, 10, 21), (0, 7, 14, 15)], false, 8, 139)
theorem d_Law_set_0 : decode method_12_code 0 = .ok (.aload_n 0, 1) := by decide +kernel
theorem d_Law_set_1 : decode method_12_code 1 = .ok (.iload_n 1, 1) := by decide +kernel
theorem d_Law_set_2 : decode method_12_code 2 = .ok (.iload_n 2, 1) := by decide +kernel
theorem d_Law_set_3 : decode method_12_code 3 = .ok (.iload_n 3, 1) := by decide +kernel
theorem d_Law_set_4 : decode method_12_code 4 = .ok (.invokevirtual 49, 3) := by decide +kernel
theorem d_Law_set_7 : decode method_12_code 7 = .ok (.goto 11, 3) := by decide +kernel
theorem d_Law_set_10 : decode method_12_code 10 = .ok (.astore 4, 2) := by decide +kernel
theorem d_Law_set_12 : decode method_12_code 12 = .ok (.iconst 1, 1) := by decide +kernel
theorem d_Law_set_13 : decode method_12_code 13 = .ok (.ireturn, 1) := by decide +kernel
theorem d_Law_set_14 : decode method_12_code 14 = .ok (.astore 4, 2) := by decide +kernel
theorem d_Law_set_16 : decode method_12_code 16 = .ok (.iconst 2, 1) := by decide +kernel
theorem d_Law_set_17 : decode method_12_code 17 = .ok (.ireturn, 1) := by decide +kernel
theorem d_Law_set_18 : decode method_12_code 18 = .ok (.iconst 0, 1) := by decide +kernel
theorem d_Law_set_19 : decode method_12_code 19 = .ok (.ireturn, 1) := by decide +kernel
abbrev M_Law_put : q_M := (⟨"LensPathsLaw", "put", "(LLensPaths;IIII[J)I"⟩, method_13_code, 7, (some .int), "LensPathsLaw", [(0, 14, 17, 21), (0, 14, 21, 15)], false, 8, 142)
theorem d_Law_put_0 : decode method_13_code 0 = .ok (.aload 5, 2) := by decide +kernel
theorem d_Law_put_2 : decode method_13_code 2 = .ok (.iconst 0, 1) := by decide +kernel
theorem d_Law_put_3 : decode method_13_code 3 = .ok (.aload_n 0, 1) := by decide +kernel
theorem d_Law_put_4 : decode method_13_code 4 = .ok (.iload_n 1, 1) := by decide +kernel
theorem d_Law_put_5 : decode method_13_code 5 = .ok (.iload_n 2, 1) := by decide +kernel
theorem d_Law_put_6 : decode method_13_code 6 = .ok (.iload_n 3, 1) := by decide +kernel
theorem d_Law_put_7 : decode method_13_code 7 = .ok (.iload 4, 2) := by decide +kernel
theorem d_Law_put_9 : decode method_13_code 9 = .ok (.invokevirtual 53, 3) := by decide +kernel
theorem d_Law_put_12 : decode method_13_code 12 = .ok (.i2l, 1) := by decide +kernel
theorem d_Law_put_13 : decode method_13_code 13 = .ok (.lastore, 1) := by decide +kernel
theorem d_Law_put_14 : decode method_13_code 14 = .ok (.goto 11, 3) := by decide +kernel
theorem d_Law_put_17 : decode method_13_code 17 = .ok (.astore 6, 2) := by decide +kernel
theorem d_Law_put_19 : decode method_13_code 19 = .ok (.iconst 1, 1) := by decide +kernel
theorem d_Law_put_20 : decode method_13_code 20 = .ok (.ireturn, 1) := by decide +kernel
theorem d_Law_put_21 : decode method_13_code 21 = .ok (.astore 6, 2) := by decide +kernel
theorem d_Law_put_23 : decode method_13_code 23 = .ok (.iconst 2, 1) := by decide +kernel
theorem d_Law_put_24 : decode method_13_code 24 = .ok (.ireturn, 1) := by decide +kernel
theorem d_Law_put_25 : decode method_13_code 25 = .ok (.iconst 0, 1) := by decide +kernel
theorem d_Law_put_26 : decode method_13_code 26 = .ok (.ireturn, 1) := by decide +kernel
abbrev M_Law_cut : q_M := (⟨"LensPathsLaw", "cut", "(LLensPaths;III)I"⟩, method_14_code, 5, (some .int), "LensPathsLaw", [(0, 7, 10, 21), (0, 7, 14, 15)], false, 8, 139)
theorem d_Law_cut_0 : decode method_14_code 0 = .ok (.aload_n 0, 1) := by decide +kernel
theorem d_Law_cut_1 : decode method_14_code 1 = .ok (.iload_n 1, 1) := by decide +kernel
theorem d_Law_cut_2 : decode method_14_code 2 = .ok (.iload_n 2, 1) := by decide +kernel
theorem d_Law_cut_3 : decode method_14_code 3 = .ok (.iload_n 3, 1) := by decide +kernel
theorem d_Law_cut_4 : decode method_14_code 4 = .ok (.invokevirtual 56, 3) := by decide +kernel
theorem d_Law_cut_7 : decode method_14_code 7 = .ok (.goto 11, 3) := by decide +kernel
theorem d_Law_cut_10 : decode method_14_code 10 = .ok (.astore 4, 2) := by decide +kernel
theorem d_Law_cut_12 : decode method_14_code 12 = .ok (.iconst 1, 1) := by decide +kernel
theorem d_Law_cut_13 : decode method_14_code 13 = .ok (.ireturn, 1) := by decide +kernel
theorem d_Law_cut_14 : decode method_14_code 14 = .ok (.astore 4, 2) := by decide +kernel
theorem d_Law_cut_16 : decode method_14_code 16 = .ok (.iconst 2, 1) := by decide +kernel
theorem d_Law_cut_17 : decode method_14_code 17 = .ok (.ireturn, 1) := by decide +kernel
theorem d_Law_cut_18 : decode method_14_code 18 = .ok (.iconst 0, 1) := by decide +kernel
theorem d_Law_cut_19 : decode method_14_code 19 = .ok (.ireturn, 1) := by decide +kernel
abbrev M_Law_get : q_M := (⟨"LensPathsLaw", "get", "(LLensPaths;II[J)I"⟩, method_15_code, 5, (some .int), "LensPathsLaw", [(0, 10, 13, 21), (0, 10, 17, 15)], false, 8, 137)
theorem d_Law_get_0 : decode method_15_code 0 = .ok (.aload_n 3, 1) := by decide +kernel
theorem d_Law_get_1 : decode method_15_code 1 = .ok (.iconst 0, 1) := by decide +kernel
theorem d_Law_get_2 : decode method_15_code 2 = .ok (.aload_n 0, 1) := by decide +kernel
theorem d_Law_get_3 : decode method_15_code 3 = .ok (.iload_n 1, 1) := by decide +kernel
theorem d_Law_get_4 : decode method_15_code 4 = .ok (.iload_n 2, 1) := by decide +kernel
theorem d_Law_get_5 : decode method_15_code 5 = .ok (.invokevirtual 59, 3) := by decide +kernel
theorem d_Law_get_8 : decode method_15_code 8 = .ok (.i2l, 1) := by decide +kernel
theorem d_Law_get_9 : decode method_15_code 9 = .ok (.lastore, 1) := by decide +kernel
theorem d_Law_get_10 : decode method_15_code 10 = .ok (.goto 11, 3) := by decide +kernel
theorem d_Law_get_13 : decode method_15_code 13 = .ok (.astore 4, 2) := by decide +kernel
theorem d_Law_get_15 : decode method_15_code 15 = .ok (.iconst 1, 1) := by decide +kernel
theorem d_Law_get_16 : decode method_15_code 16 = .ok (.ireturn, 1) := by decide +kernel
theorem d_Law_get_17 : decode method_15_code 17 = .ok (.astore 4, 2) := by decide +kernel
theorem d_Law_get_19 : decode method_15_code 19 = .ok (.iconst 2, 1) := by decide +kernel
theorem d_Law_get_20 : decode method_15_code 20 = .ok (.ireturn, 1) := by decide +kernel
theorem d_Law_get_21 : decode method_15_code 21 = .ok (.iconst 0, 1) := by decide +kernel
theorem d_Law_get_22 : decode method_15_code 22 = .ok (.ireturn, 1) := by decide +kernel
abbrev M_Law_size : q_M := (⟨"LensPathsLaw", "size", "(LLensPaths;II[J)I"⟩, method_16_code, 5, (some .int), "LensPathsLaw", [(0, 10, 13, 21), (0, 10, 17, 15)], false, 8, 137)
theorem d_Law_size_0 : decode method_16_code 0 = .ok (.aload_n 3, 1) := by decide +kernel
theorem d_Law_size_1 : decode method_16_code 1 = .ok (.iconst 0, 1) := by decide +kernel
theorem d_Law_size_2 : decode method_16_code 2 = .ok (.aload_n 0, 1) := by decide +kernel
theorem d_Law_size_3 : decode method_16_code 3 = .ok (.iload_n 1, 1) := by decide +kernel
theorem d_Law_size_4 : decode method_16_code 4 = .ok (.iload_n 2, 1) := by decide +kernel
theorem d_Law_size_5 : decode method_16_code 5 = .ok (.invokevirtual 63, 3) := by decide +kernel
theorem d_Law_size_8 : decode method_16_code 8 = .ok (.i2l, 1) := by decide +kernel
theorem d_Law_size_9 : decode method_16_code 9 = .ok (.lastore, 1) := by decide +kernel
theorem d_Law_size_10 : decode method_16_code 10 = .ok (.goto 11, 3) := by decide +kernel
theorem d_Law_size_13 : decode method_16_code 13 = .ok (.astore 4, 2) := by decide +kernel
theorem d_Law_size_15 : decode method_16_code 15 = .ok (.iconst 1, 1) := by decide +kernel
theorem d_Law_size_16 : decode method_16_code 16 = .ok (.ireturn, 1) := by decide +kernel
theorem d_Law_size_17 : decode method_16_code 17 = .ok (.astore 4, 2) := by decide +kernel
theorem d_Law_size_19 : decode method_16_code 19 = .ok (.iconst 2, 1) := by decide +kernel
theorem d_Law_size_20 : decode method_16_code 20 = .ok (.ireturn, 1) := by decide +kernel
theorem d_Law_size_21 : decode method_16_code 21 = .ok (.iconst 0, 1) := by decide +kernel
theorem d_Law_size_22 : decode method_16_code 22 = .ok (.ireturn, 1) := by decide +kernel
abbrev M_Law_item : q_M := (⟨"LensPathsLaw", "item", "(LLensPaths;III[J)I"⟩, method_17_code, 6, (some .int), "LensPathsLaw", [(0, 12, 15, 21), (0, 12, 19, 15)], false, 8, 139)
theorem d_Law_item_0 : decode method_17_code 0 = .ok (.aload 4, 2) := by decide +kernel
theorem d_Law_item_2 : decode method_17_code 2 = .ok (.iconst 0, 1) := by decide +kernel
theorem d_Law_item_3 : decode method_17_code 3 = .ok (.aload_n 0, 1) := by decide +kernel
theorem d_Law_item_4 : decode method_17_code 4 = .ok (.iload_n 1, 1) := by decide +kernel
theorem d_Law_item_5 : decode method_17_code 5 = .ok (.iload_n 2, 1) := by decide +kernel
theorem d_Law_item_6 : decode method_17_code 6 = .ok (.iload_n 3, 1) := by decide +kernel
theorem d_Law_item_7 : decode method_17_code 7 = .ok (.invokevirtual 66, 3) := by decide +kernel
theorem d_Law_item_10 : decode method_17_code 10 = .ok (.i2l, 1) := by decide +kernel
theorem d_Law_item_11 : decode method_17_code 11 = .ok (.lastore, 1) := by decide +kernel
theorem d_Law_item_12 : decode method_17_code 12 = .ok (.goto 11, 3) := by decide +kernel
theorem d_Law_item_15 : decode method_17_code 15 = .ok (.astore 5, 2) := by decide +kernel
theorem d_Law_item_17 : decode method_17_code 17 = .ok (.iconst 1, 1) := by decide +kernel
theorem d_Law_item_18 : decode method_17_code 18 = .ok (.ireturn, 1) := by decide +kernel
theorem d_Law_item_19 : decode method_17_code 19 = .ok (.astore 5, 2) := by decide +kernel
theorem d_Law_item_21 : decode method_17_code 21 = .ok (.iconst 2, 1) := by decide +kernel
theorem d_Law_item_22 : decode method_17_code 22 = .ok (.ireturn, 1) := by decide +kernel
theorem d_Law_item_23 : decode method_17_code 23 = .ok (.iconst 0, 1) := by decide +kernel
theorem d_Law_item_24 : decode method_17_code 24 = .ok (.ireturn, 1) := by decide +kernel
abbrev M_Law_version : q_M := (⟨"LensPathsLaw", "version", "(LLensPaths;I[J)I"⟩, method_18_code, 4, (some .int), "LensPathsLaw", [(0, 9, 12, 21)], false, 8, 132)
theorem d_Law_version_0 : decode method_18_code 0 = .ok (.aload_n 2, 1) := by decide +kernel
theorem d_Law_version_1 : decode method_18_code 1 = .ok (.iconst 0, 1) := by decide +kernel
theorem d_Law_version_2 : decode method_18_code 2 = .ok (.aload_n 0, 1) := by decide +kernel
theorem d_Law_version_3 : decode method_18_code 3 = .ok (.iload_n 1, 1) := by decide +kernel
theorem d_Law_version_4 : decode method_18_code 4 = .ok (.invokevirtual 69, 3) := by decide +kernel
theorem d_Law_version_7 : decode method_18_code 7 = .ok (.i2l, 1) := by decide +kernel
theorem d_Law_version_8 : decode method_18_code 8 = .ok (.lastore, 1) := by decide +kernel
theorem d_Law_version_9 : decode method_18_code 9 = .ok (.goto 6, 3) := by decide +kernel
theorem d_Law_version_12 : decode method_18_code 12 = .ok (.astore_n 3, 1) := by decide +kernel
theorem d_Law_version_13 : decode method_18_code 13 = .ok (.iconst 1, 1) := by decide +kernel
theorem d_Law_version_14 : decode method_18_code 14 = .ok (.ireturn, 1) := by decide +kernel
theorem d_Law_version_15 : decode method_18_code 15 = .ok (.iconst 0, 1) := by decide +kernel
theorem d_Law_version_16 : decode method_18_code 16 = .ok (.ireturn, 1) := by decide +kernel
abbrev M_Law_kept : q_M := (⟨"LensPathsLaw", "kept", "(LLensPaths;I[J)I"⟩, method_19_code, 4, (some .int), "LensPathsLaw", [(0, 9, 12, 21)], false, 8, 132)
theorem d_Law_kept_0 : decode method_19_code 0 = .ok (.aload_n 2, 1) := by decide +kernel
theorem d_Law_kept_1 : decode method_19_code 1 = .ok (.iconst 0, 1) := by decide +kernel
theorem d_Law_kept_2 : decode method_19_code 2 = .ok (.aload_n 0, 1) := by decide +kernel
theorem d_Law_kept_3 : decode method_19_code 3 = .ok (.iload_n 1, 1) := by decide +kernel
theorem d_Law_kept_4 : decode method_19_code 4 = .ok (.invokevirtual 72, 3) := by decide +kernel
theorem d_Law_kept_7 : decode method_19_code 7 = .ok (.i2l, 1) := by decide +kernel
theorem d_Law_kept_8 : decode method_19_code 8 = .ok (.lastore, 1) := by decide +kernel
theorem d_Law_kept_9 : decode method_19_code 9 = .ok (.goto 6, 3) := by decide +kernel
theorem d_Law_kept_12 : decode method_19_code 12 = .ok (.astore_n 3, 1) := by decide +kernel
theorem d_Law_kept_13 : decode method_19_code 13 = .ok (.iconst 1, 1) := by decide +kernel
theorem d_Law_kept_14 : decode method_19_code 14 = .ok (.ireturn, 1) := by decide +kernel
theorem d_Law_kept_15 : decode method_19_code 15 = .ok (.iconst 0, 1) := by decide +kernel
theorem d_Law_kept_16 : decode method_19_code 16 = .ok (.ireturn, 1) := by decide +kernel
abbrev M_Law_same : q_M := (⟨"LensPathsLaw", "same", "(LLensPaths;II[J)I"⟩, method_20_code, 5, (some .int), "LensPathsLaw", [(0, 17, 20, 21)], false, 8, 133)
theorem d_Law_same_0 : decode method_20_code 0 = .ok (.aload_n 3, 1) := by decide +kernel
theorem d_Law_same_1 : decode method_20_code 1 = .ok (.iconst 0, 1) := by decide +kernel
theorem d_Law_same_2 : decode method_20_code 2 = .ok (.aload_n 0, 1) := by decide +kernel
theorem d_Law_same_3 : decode method_20_code 3 = .ok (.iload_n 1, 1) := by decide +kernel
theorem d_Law_same_4 : decode method_20_code 4 = .ok (.iload_n 2, 1) := by decide +kernel
theorem d_Law_same_5 : decode method_20_code 5 = .ok (.invokevirtual 75, 3) := by decide +kernel
theorem d_Law_same_8 : decode method_20_code 8 = .ok (.ifCond .eq 7, 3) := by decide +kernel
theorem d_Law_same_11 : decode method_20_code 11 = .ok (.lconst 1, 1) := by decide +kernel
theorem d_Law_same_12 : decode method_20_code 12 = .ok (.goto 4, 3) := by decide +kernel
theorem d_Law_same_15 : decode method_20_code 15 = .ok (.lconst 0, 1) := by decide +kernel
theorem d_Law_same_16 : decode method_20_code 16 = .ok (.lastore, 1) := by decide +kernel
theorem d_Law_same_17 : decode method_20_code 17 = .ok (.goto 7, 3) := by decide +kernel
theorem d_Law_same_20 : decode method_20_code 20 = .ok (.astore 4, 2) := by decide +kernel
theorem d_Law_same_22 : decode method_20_code 22 = .ok (.iconst 1, 1) := by decide +kernel
theorem d_Law_same_23 : decode method_20_code 23 = .ok (.ireturn, 1) := by decide +kernel
theorem d_Law_same_24 : decode method_20_code 24 = .ok (.iconst 0, 1) := by decide +kernel
theorem d_Law_same_25 : decode method_20_code 25 = .ok (.ireturn, 1) := by decide +kernel
abbrev M_Law_translate : q_M := (⟨"LensPathsLaw", "translate", "(LLensPaths;II[J)I"⟩, method_21_code, 5, (some .int), "LensPathsLaw", [(0, 10, 13, 21), (0, 10, 17, 13), (0, 10, 21, 82)], false, 9, 208)
theorem d_Law_translate_0 : decode method_21_code 0 = .ok (.aload_n 3, 1) := by decide +kernel
theorem d_Law_translate_1 : decode method_21_code 1 = .ok (.iconst 0, 1) := by decide +kernel
theorem d_Law_translate_2 : decode method_21_code 2 = .ok (.aload_n 0, 1) := by decide +kernel
theorem d_Law_translate_3 : decode method_21_code 3 = .ok (.iload_n 1, 1) := by decide +kernel
theorem d_Law_translate_4 : decode method_21_code 4 = .ok (.iload_n 2, 1) := by decide +kernel
theorem d_Law_translate_5 : decode method_21_code 5 = .ok (.invokevirtual 79, 3) := by decide +kernel
theorem d_Law_translate_8 : decode method_21_code 8 = .ok (.i2l, 1) := by decide +kernel
theorem d_Law_translate_9 : decode method_21_code 9 = .ok (.lastore, 1) := by decide +kernel
theorem d_Law_translate_10 : decode method_21_code 10 = .ok (.goto 15, 3) := by decide +kernel
theorem d_Law_translate_13 : decode method_21_code 13 = .ok (.astore 4, 2) := by decide +kernel
theorem d_Law_translate_15 : decode method_21_code 15 = .ok (.iconst 1, 1) := by decide +kernel
theorem d_Law_translate_16 : decode method_21_code 16 = .ok (.ireturn, 1) := by decide +kernel
theorem d_Law_translate_17 : decode method_21_code 17 = .ok (.astore 4, 2) := by decide +kernel
theorem d_Law_translate_19 : decode method_21_code 19 = .ok (.iconst 2, 1) := by decide +kernel
theorem d_Law_translate_20 : decode method_21_code 20 = .ok (.ireturn, 1) := by decide +kernel
theorem d_Law_translate_21 : decode method_21_code 21 = .ok (.astore 4, 2) := by decide +kernel
theorem d_Law_translate_23 : decode method_21_code 23 = .ok (.iconst 3, 1) := by decide +kernel
theorem d_Law_translate_24 : decode method_21_code 24 = .ok (.ireturn, 1) := by decide +kernel
theorem d_Law_translate_25 : decode method_21_code 25 = .ok (.iconst 0, 1) := by decide +kernel
theorem d_Law_translate_26 : decode method_21_code 26 = .ok (.ireturn, 1) := by decide +kernel
abbrev M_Law_route : q_M := (⟨"LensPathsLaw", "route", "(LLensPaths;III[J)I"⟩, method_22_code, 6, (some .int), "LensPathsLaw", [(0, 12, 15, 21)], false, 8, 135)
theorem d_Law_route_0 : decode method_22_code 0 = .ok (.aload 4, 2) := by decide +kernel
theorem d_Law_route_2 : decode method_22_code 2 = .ok (.iconst 0, 1) := by decide +kernel
theorem d_Law_route_3 : decode method_22_code 3 = .ok (.aload_n 0, 1) := by decide +kernel
theorem d_Law_route_4 : decode method_22_code 4 = .ok (.iload_n 1, 1) := by decide +kernel
theorem d_Law_route_5 : decode method_22_code 5 = .ok (.iload_n 2, 1) := by decide +kernel
theorem d_Law_route_6 : decode method_22_code 6 = .ok (.iload_n 3, 1) := by decide +kernel
theorem d_Law_route_7 : decode method_22_code 7 = .ok (.invokevirtual 84, 3) := by decide +kernel
theorem d_Law_route_10 : decode method_22_code 10 = .ok (.i2l, 1) := by decide +kernel
theorem d_Law_route_11 : decode method_22_code 11 = .ok (.lastore, 1) := by decide +kernel
theorem d_Law_route_12 : decode method_22_code 12 = .ok (.goto 7, 3) := by decide +kernel
theorem d_Law_route_15 : decode method_22_code 15 = .ok (.astore 5, 2) := by decide +kernel
theorem d_Law_route_17 : decode method_22_code 17 = .ok (.iconst 1, 1) := by decide +kernel
theorem d_Law_route_18 : decode method_22_code 18 = .ok (.ireturn, 1) := by decide +kernel
theorem d_Law_route_19 : decode method_22_code 19 = .ok (.iconst 0, 1) := by decide +kernel
theorem d_Law_route_20 : decode method_22_code 20 = .ok (.ireturn, 1) := by decide +kernel
abbrev M_Law_clash : q_M := (⟨"LensPathsLaw", "clash", "(LLensPaths;I[J)I"⟩, method_23_code, 4, (some .int), "LensPathsLaw", [(0, 9, 12, 21)], false, 7, 148)
theorem d_Law_clash_0 : decode method_23_code 0 = .ok (.aload_n 2, 1) := by decide +kernel
theorem d_Law_clash_1 : decode method_23_code 1 = .ok (.iconst 0, 1) := by decide +kernel
theorem d_Law_clash_2 : decode method_23_code 2 = .ok (.aload_n 0, 1) := by decide +kernel
theorem d_Law_clash_3 : decode method_23_code 3 = .ok (.iload_n 1, 1) := by decide +kernel
theorem d_Law_clash_4 : decode method_23_code 4 = .ok (.invokevirtual 87, 3) := by decide +kernel
theorem d_Law_clash_7 : decode method_23_code 7 = .ok (.i2l, 1) := by decide +kernel
theorem d_Law_clash_8 : decode method_23_code 8 = .ok (.lastore, 1) := by decide +kernel
theorem d_Law_clash_9 : decode method_23_code 9 = .ok (.goto 6, 3) := by decide +kernel
theorem d_Law_clash_12 : decode method_23_code 12 = .ok (.astore_n 3, 1) := by decide +kernel
theorem d_Law_clash_13 : decode method_23_code 13 = .ok (.iconst 1, 1) := by decide +kernel
theorem d_Law_clash_14 : decode method_23_code 14 = .ok (.ireturn, 1) := by decide +kernel
theorem d_Law_clash_15 : decode method_23_code 15 = .ok (.iconst 0, 1) := by decide +kernel
theorem d_Law_clash_16 : decode method_23_code 16 = .ok (.ireturn, 1) := by decide +kernel
section LWrap
variable {g : q_G} {sz : Nat} {T : q_T} {I : q_I} {R : q_R} {J : q_J}
def q_oJ (out : Nat) (v : Int64) (h : q_H) : q_H := (h.1, h.2.1, h.2.2.1, h.2.2.2.1, q_upJ h.2.2.2.2 out (nI 0) v)
def q_Wi (out : Nat) (P : Int32 → Int32 → q_H → Prop) : Int32 → q_H → Prop := fun k h' => (k = 0 ∧ ∃ r h1, P 0 r h1 ∧ h' = q_oJ out r.toInt64 h1) ∨ (k ≠ 0 ∧ P k 0 h')
def q_Wz (out : Nat) (P : Int32 → Int32 → q_H → Prop) : Int32 → q_H → Prop := fun k h' => (k = 0 ∧ ∃ r h1, P 0 r h1 ∧ h' = q_oJ out (if r = 0 then lN 0 else lN 1) h1) ∨ (k ≠ 0 ∧ P k 0 h')
theorem w_field {P : Int32 → Int32 → q_H → Prop} (hNC : q_NC g) {x out : Nat} {p0 p1 p2 p3 : Int32} {mc ms : Nat} (hx : T x = some (110, 0)) (hK : q_C g M_Lens_field [.ref x, .int p0, .int p1, .int p2, .int p3] (sz, T, I, R, J) mc ms (q_Xi [0, 1] P)) (hO : ∀ r h', P 0 r h' → h'.2.1 out = some (1, 1)) : q_Ci g M_Law_field [.ref x, .int p0, .int p1, .int p2, .int p3, .ref out] (sz, T, I, R, J) mc ms (q_Wi out P) := by
  refine q_C.of (ls0 := [some (.ref x), some (.int p0), some (.int p1), some (.int p2), some (.int p3), some (.ref out), none]) (by decide) rfl (by decide) (Nat.le_of_ble_eq_true rfl) rfl ?_
  refine q_aload d_Law_field_0 rfl ?_
  refine q_iconst (v := nI 0) d_Law_field_2 (by decide) ?_
  refine q_aload_n d_Law_field_3 rfl rfl ?_
  refine q_iload_n d_Law_field_4 rfl rfl ?_
  refine q_iload_n d_Law_field_5 rfl rfl ?_
  refine q_iload_n d_Law_field_6 rfl rfl ?_
  refine q_iload d_Law_field_7 rfl ?_
  refine q_callV (M2 := M_Lens_field) d_Law_field_9 ⟨(Nat.le_of_ble_eq_true rfl), (Nat.le_of_ble_eq_true rfl), w_306, w_1, ⟨by decide, by decide⟩, show _ = some 4 by decide +kernel⟩ w_303 w_304 (ci := 10) rfl w_305 (by first | assumption | rfl | (simp (disch := omega) only [q_upT_self, q_upT_ne, q_upR_self, q_upR_nea, q_upR_nk, s_T_lo, s_T_hi, s_R_ne, *]; done) | (simp (disch := omega) only [q_upT_self, q_upT_ne, q_upR_self, q_upR_nea, q_upR_nk, s_T_lo, s_T_hi, s_R_ne, *]; rfl)) rfl (Nat.le_of_ble_eq_true rfl) (by omega) (by omega) (hK) (fun v h' z => ?_) (fun z9 h' z => ?_)
  · rcases z with ⟨r, e, hp⟩ | ⟨j, e, i, hj, e2, hp⟩
    · cases e
      obtain ⟨sz1, T1, I1, R1, J1⟩ := h'
      have hO1 : T1 out = some (1, 1) := hO _ _ hp
      refine q_i2l d_Law_field_12 rfl ?_
      refine q_last d_Law_field_13 (by first | assumption | rfl | (simp (disch := omega) only [q_upT_self, q_upT_ne, q_upR_self, q_upR_nea, q_upR_nk, s_T_lo, s_T_hi, s_R_ne, *]; done) | (simp (disch := omega) only [q_upT_self, q_upT_ne, q_upR_self, q_upR_nea, q_upR_nk, s_T_lo, s_T_hi, s_R_ne, *]; rfl)) (by first | assumption | exact vp_in_nI (by omega) (by omega)) ?_
      refine q_goto (tgt := 25) d_Law_field_14 rfl ?_
      refine q_iconst (v := nI 0) d_Law_field_25 (by decide) ?_
      refine q_iret d_Law_field_26 rfl (by omega) (by omega) ?_
      exact ⟨_, rfl, Or.inl ⟨rfl, r, _, hp, rfl⟩⟩
    · cases e2
  · rcases z with ⟨r, e, hp⟩ | ⟨j, e, i, hj, e2, hp⟩
    · cases e
    · cases e2
      obtain ⟨sz1, T1, I1, R1, J1⟩ := h'
      rcases j with _ | j
      · cases hj
        refine q_VX.catch (pre := []) (y := ⟨0, 14, 17, 13⟩) (suf := [⟨0, 14, 21, 15⟩]) (name := "java/lang/IllegalStateException") rfl (by decide) (by decide) w_301 w_309 (fun z hz => nomatch hz) ?_
        refine q_astore d_Law_field_17 (Nat.le_of_ble_eq_true rfl) (by first | exact q_ok0 | exact q_okI rfl | exact q_okR rfl | exact q_okN rfl) rfl ?_
        refine q_iconst (v := nI 1) d_Law_field_19 (by decide) ?_
        refine q_iret d_Law_field_20 rfl (by omega) (by omega) ?_
        exact ⟨_, rfl, Or.inr ⟨by decide, hp⟩⟩
      rcases j with _ | j
      · cases hj
        refine q_VX.catch (pre := [⟨0, 14, 17, 13⟩]) (y := ⟨0, 14, 21, 15⟩) (suf := []) (name := "java/lang/IllegalArgumentException") rfl (by decide) (by decide) w_302 w_398 (fun z hz => by
          rcases List.mem_cons.mp hz with rfl | hz
          · exact Or.inr ⟨by decide, _, w_301, hNC 1 0 (by decide) (by decide) (by decide)⟩
          cases hz) ?_
        refine q_astore d_Law_field_21 (Nat.le_of_ble_eq_true rfl) (by first | exact q_ok0 | exact q_okI rfl | exact q_okR rfl | exact q_okN rfl) rfl ?_
        refine q_iconst (v := nI 2) d_Law_field_23 (by decide) ?_
        refine q_iret d_Law_field_24 rfl (by omega) (by omega) ?_
        exact ⟨_, rfl, Or.inr ⟨by decide, hp⟩⟩
      · cases hj
theorem w_begin {P : Int32 → q_H → Prop} (hNC : q_NC g) {x : Nat} {p0 : Int32} {mc ms : Nat} (hx : T x = some (110, 0)) (hK : q_C g M_Lens_begin [.ref x, .int p0] (sz, T, I, R, J) mc ms (q_Xv [2, 0] P)) : q_Ci g M_Law_begin [.ref x, .int p0] (sz, T, I, R, J) mc ms (P) := by
  refine q_C.of (ls0 := [some (.ref x), some (.int p0), none]) (by decide) rfl (by decide) (Nat.le_of_ble_eq_true rfl) rfl ?_
  refine q_aload_n d_Law_begin_0 rfl rfl ?_
  refine q_iload_n d_Law_begin_1 rfl rfl ?_
  refine q_callV (M2 := M_Lens_begin) d_Law_begin_2 ⟨(Nat.le_of_ble_eq_true rfl), (Nat.le_of_ble_eq_true rfl), w_426, w_1, ⟨by decide, by decide⟩, show _ = some 1 by decide +kernel⟩ w_423 w_424 (ci := 10) rfl w_425 (by first | assumption | rfl | (simp (disch := omega) only [q_upT_self, q_upT_ne, q_upR_self, q_upR_nea, q_upR_nk, s_T_lo, s_T_hi, s_R_ne, *]; done) | (simp (disch := omega) only [q_upT_self, q_upT_ne, q_upR_self, q_upR_nea, q_upR_nk, s_T_lo, s_T_hi, s_R_ne, *]; rfl)) rfl (Nat.le_of_ble_eq_true rfl) (by omega) (by omega) (hK) (fun v h' z => ?_) (fun z9 h' z => ?_)
  · rcases z with ⟨e, hp⟩ | ⟨j, e, i, hj, e2, hp⟩
    · cases e
      obtain ⟨sz1, T1, I1, R1, J1⟩ := h'
      refine q_goto (tgt := 14) d_Law_begin_5 rfl ?_
      refine q_iconst (v := nI 0) d_Law_begin_14 (by decide) ?_
      refine q_iret d_Law_begin_15 rfl (by omega) (by omega) ?_
      exact ⟨_, rfl, hp⟩
    · cases e2
  · rcases z with ⟨e, hp⟩ | ⟨j, e, i, hj, e2, hp⟩
    · cases e
    · cases e2
      obtain ⟨sz1, T1, I1, R1, J1⟩ := h'
      rcases j with _ | j
      · cases hj
        refine q_VX.catch (pre := []) (y := ⟨0, 5, 8, 21⟩) (suf := [⟨0, 5, 11, 13⟩]) (name := "java/lang/IndexOutOfBoundsException") rfl (by decide) (by decide) w_422 w_437 (fun z hz => nomatch hz) ?_
        refine q_astore_n d_Law_begin_8 rfl (Nat.le_of_ble_eq_true rfl) (by first | exact q_ok0 | exact q_okI rfl | exact q_okR rfl | exact q_okN rfl) rfl ?_
        refine q_iconst (v := nI 1) d_Law_begin_9 (by decide) ?_
        refine q_iret d_Law_begin_10 rfl (by omega) (by omega) ?_
        exact ⟨_, rfl, hp⟩
      rcases j with _ | j
      · cases hj
        refine q_VX.catch (pre := [⟨0, 5, 8, 21⟩]) (y := ⟨0, 5, 11, 13⟩) (suf := []) (name := "java/lang/IllegalStateException") rfl (by decide) (by decide) w_301 w_309 (fun z hz => by
          rcases List.mem_cons.mp hz with rfl | hz
          · exact Or.inr ⟨by decide, _, w_422, hNC 0 2 (by decide) (by decide) (by decide)⟩
          cases hz) ?_
        refine q_astore_n d_Law_begin_11 rfl (Nat.le_of_ble_eq_true rfl) (by first | exact q_ok0 | exact q_okI rfl | exact q_okR rfl | exact q_okN rfl) rfl ?_
        refine q_iconst (v := nI 2) d_Law_begin_12 (by decide) ?_
        refine q_iret d_Law_begin_13 rfl (by omega) (by omega) ?_
        exact ⟨_, rfl, hp⟩
      · cases hj
theorem w_primitive {P : Int32 → Int32 → q_H → Prop} (hNC : q_NC g) {x out : Nat} {p0 p1 p2 p3 p4 : Int32} {mc ms : Nat} (hx : T x = some (110, 0)) (hK : q_C g M_Lens_primitive [.ref x, .int p0, .int p1, .int p2, .int p3, .int p4] (sz, T, I, R, J) mc ms (q_Xi [0, 1] P)) (hO : ∀ r h', P 0 r h' → h'.2.1 out = some (1, 1)) : q_Ci g M_Law_primitive [.ref x, .int p0, .int p1, .int p2, .int p3, .int p4, .ref out] (sz, T, I, R, J) mc ms (q_Wi out P) := by
  refine q_C.of (ls0 := [some (.ref x), some (.int p0), some (.int p1), some (.int p2), some (.int p3), some (.int p4), some (.ref out), none]) (by decide) rfl (by decide) (Nat.le_of_ble_eq_true rfl) rfl ?_
  refine q_aload d_Law_primitive_0 rfl ?_
  refine q_iconst (v := nI 0) d_Law_primitive_2 (by decide) ?_
  refine q_aload_n d_Law_primitive_3 rfl rfl ?_
  refine q_iload_n d_Law_primitive_4 rfl rfl ?_
  refine q_iload_n d_Law_primitive_5 rfl rfl ?_
  refine q_iload_n d_Law_primitive_6 rfl rfl ?_
  refine q_iload d_Law_primitive_7 rfl ?_
  refine q_iload d_Law_primitive_9 rfl ?_
  refine q_callV (M2 := M_Lens_primitive) d_Law_primitive_11 ⟨(Nat.le_of_ble_eq_true rfl), (Nat.le_of_ble_eq_true rfl), w_468, w_1, ⟨by decide, by decide⟩, show _ = some 5 by decide +kernel⟩ w_465 w_466 (ci := 10) rfl w_467 (by first | assumption | rfl | (simp (disch := omega) only [q_upT_self, q_upT_ne, q_upR_self, q_upR_nea, q_upR_nk, s_T_lo, s_T_hi, s_R_ne, *]; done) | (simp (disch := omega) only [q_upT_self, q_upT_ne, q_upR_self, q_upR_nea, q_upR_nk, s_T_lo, s_T_hi, s_R_ne, *]; rfl)) rfl (Nat.le_of_ble_eq_true rfl) (by omega) (by omega) (hK) (fun v h' z => ?_) (fun z9 h' z => ?_)
  · rcases z with ⟨r, e, hp⟩ | ⟨j, e, i, hj, e2, hp⟩
    · cases e
      obtain ⟨sz1, T1, I1, R1, J1⟩ := h'
      have hO1 : T1 out = some (1, 1) := hO _ _ hp
      refine q_i2l d_Law_primitive_14 rfl ?_
      refine q_last d_Law_primitive_15 (by first | assumption | rfl | (simp (disch := omega) only [q_upT_self, q_upT_ne, q_upR_self, q_upR_nea, q_upR_nk, s_T_lo, s_T_hi, s_R_ne, *]; done) | (simp (disch := omega) only [q_upT_self, q_upT_ne, q_upR_self, q_upR_nea, q_upR_nk, s_T_lo, s_T_hi, s_R_ne, *]; rfl)) (by first | assumption | exact vp_in_nI (by omega) (by omega)) ?_
      refine q_goto (tgt := 27) d_Law_primitive_16 rfl ?_
      refine q_iconst (v := nI 0) d_Law_primitive_27 (by decide) ?_
      refine q_iret d_Law_primitive_28 rfl (by omega) (by omega) ?_
      exact ⟨_, rfl, Or.inl ⟨rfl, r, _, hp, rfl⟩⟩
    · cases e2
  · rcases z with ⟨r, e, hp⟩ | ⟨j, e, i, hj, e2, hp⟩
    · cases e
    · cases e2
      obtain ⟨sz1, T1, I1, R1, J1⟩ := h'
      rcases j with _ | j
      · cases hj
        refine q_VX.catch (pre := []) (y := ⟨0, 16, 19, 13⟩) (suf := [⟨0, 16, 23, 15⟩]) (name := "java/lang/IllegalStateException") rfl (by decide) (by decide) w_301 w_309 (fun z hz => nomatch hz) ?_
        refine q_astore d_Law_primitive_19 (Nat.le_of_ble_eq_true rfl) (by first | exact q_ok0 | exact q_okI rfl | exact q_okR rfl | exact q_okN rfl) rfl ?_
        refine q_iconst (v := nI 1) d_Law_primitive_21 (by decide) ?_
        refine q_iret d_Law_primitive_22 rfl (by omega) (by omega) ?_
        exact ⟨_, rfl, Or.inr ⟨by decide, hp⟩⟩
      rcases j with _ | j
      · cases hj
        refine q_VX.catch (pre := [⟨0, 16, 19, 13⟩]) (y := ⟨0, 16, 23, 15⟩) (suf := []) (name := "java/lang/IllegalArgumentException") rfl (by decide) (by decide) w_302 w_398 (fun z hz => by
          rcases List.mem_cons.mp hz with rfl | hz
          · exact Or.inr ⟨by decide, _, w_301, hNC 1 0 (by decide) (by decide) (by decide)⟩
          cases hz) ?_
        refine q_astore d_Law_primitive_23 (Nat.le_of_ble_eq_true rfl) (by first | exact q_ok0 | exact q_okI rfl | exact q_okR rfl | exact q_okN rfl) rfl ?_
        refine q_iconst (v := nI 2) d_Law_primitive_25 (by decide) ?_
        refine q_iret d_Law_primitive_26 rfl (by omega) (by omega) ?_
        exact ⟨_, rfl, Or.inr ⟨by decide, hp⟩⟩
      · cases hj
theorem w_end {P : Int32 → Int32 → q_H → Prop} (hNC : q_NC g) {x out : Nat} {p0 : Int32} {mc ms : Nat} (hx : T x = some (110, 0)) (hK : q_C g M_Lens_end [.ref x, .int p0] (sz, T, I, R, J) mc ms (q_Xi [0, 2, 1, 3] P)) (hO : ∀ r h', P 0 r h' → h'.2.1 out = some (1, 1)) : q_Ci g M_Law_end [.ref x, .int p0, .ref out] (sz, T, I, R, J) mc ms (q_Wi out P) := by
  refine q_C.of (ls0 := [some (.ref x), some (.int p0), some (.ref out), none]) (by decide) rfl (by decide) (Nat.le_of_ble_eq_true rfl) rfl ?_
  refine q_aload_n d_Law_end_0 rfl rfl ?_
  refine q_iconst (v := nI 0) d_Law_end_1 (by decide) ?_
  refine q_aload_n d_Law_end_2 rfl rfl ?_
  refine q_iload_n d_Law_end_3 rfl rfl ?_
  refine q_callV (M2 := M_Lens_end) d_Law_end_4 ⟨(Nat.le_of_ble_eq_true rfl), (Nat.le_of_ble_eq_true rfl), w_607, w_1, ⟨by decide, by decide⟩, show _ = some 1 by decide +kernel⟩ w_604 w_605 (ci := 10) rfl w_606 (by first | assumption | rfl | (simp (disch := omega) only [q_upT_self, q_upT_ne, q_upR_self, q_upR_nea, q_upR_nk, s_T_lo, s_T_hi, s_R_ne, *]; done) | (simp (disch := omega) only [q_upT_self, q_upT_ne, q_upR_self, q_upR_nea, q_upR_nk, s_T_lo, s_T_hi, s_R_ne, *]; rfl)) rfl (Nat.le_of_ble_eq_true rfl) (by omega) (by omega) (hK) (fun v h' z => ?_) (fun z9 h' z => ?_)
  · rcases z with ⟨r, e, hp⟩ | ⟨j, e, i, hj, e2, hp⟩
    · cases e
      obtain ⟨sz1, T1, I1, R1, J1⟩ := h'
      have hO1 : T1 out = some (1, 1) := hO _ _ hp
      refine q_i2l d_Law_end_7 rfl ?_
      refine q_last d_Law_end_8 (by first | assumption | rfl | (simp (disch := omega) only [q_upT_self, q_upT_ne, q_upR_self, q_upR_nea, q_upR_nk, s_T_lo, s_T_hi, s_R_ne, *]; done) | (simp (disch := omega) only [q_upT_self, q_upT_ne, q_upR_self, q_upR_nea, q_upR_nk, s_T_lo, s_T_hi, s_R_ne, *]; rfl)) (by first | assumption | exact vp_in_nI (by omega) (by omega)) ?_
      refine q_goto (tgt := 24) d_Law_end_9 rfl ?_
      refine q_iconst (v := nI 0) d_Law_end_24 (by decide) ?_
      refine q_iret d_Law_end_25 rfl (by omega) (by omega) ?_
      exact ⟨_, rfl, Or.inl ⟨rfl, r, _, hp, rfl⟩⟩
    · cases e2
  · rcases z with ⟨r, e, hp⟩ | ⟨j, e, i, hj, e2, hp⟩
    · cases e
    · cases e2
      obtain ⟨sz1, T1, I1, R1, J1⟩ := h'
      rcases j with _ | j
      · cases hj
        refine q_VX.catch (pre := []) (y := ⟨0, 9, 12, 13⟩) (suf := [⟨0, 9, 15, 21⟩, ⟨0, 9, 18, 15⟩, ⟨0, 9, 21, 31⟩]) (name := "java/lang/IllegalStateException") rfl (by decide) (by decide) w_301 w_309 (fun z hz => nomatch hz) ?_
        refine q_astore_n d_Law_end_12 rfl (Nat.le_of_ble_eq_true rfl) (by first | exact q_ok0 | exact q_okI rfl | exact q_okR rfl | exact q_okN rfl) rfl ?_
        refine q_iconst (v := nI 1) d_Law_end_13 (by decide) ?_
        refine q_iret d_Law_end_14 rfl (by omega) (by omega) ?_
        exact ⟨_, rfl, Or.inr ⟨by decide, hp⟩⟩
      rcases j with _ | j
      · cases hj
        refine q_VX.catch (pre := [⟨0, 9, 12, 13⟩]) (y := ⟨0, 9, 15, 21⟩) (suf := [⟨0, 9, 18, 15⟩, ⟨0, 9, 21, 31⟩]) (name := "java/lang/IndexOutOfBoundsException") rfl (by decide) (by decide) w_422 w_437 (fun z hz => by
          rcases List.mem_cons.mp hz with rfl | hz
          · exact Or.inr ⟨by decide, _, w_301, hNC 2 0 (by decide) (by decide) (by decide)⟩
          cases hz) ?_
        refine q_astore_n d_Law_end_15 rfl (Nat.le_of_ble_eq_true rfl) (by first | exact q_ok0 | exact q_okI rfl | exact q_okR rfl | exact q_okN rfl) rfl ?_
        refine q_iconst (v := nI 2) d_Law_end_16 (by decide) ?_
        refine q_iret d_Law_end_17 rfl (by omega) (by omega) ?_
        exact ⟨_, rfl, Or.inr ⟨by decide, hp⟩⟩
      rcases j with _ | j
      · cases hj
        refine q_VX.catch (pre := [⟨0, 9, 12, 13⟩, ⟨0, 9, 15, 21⟩]) (y := ⟨0, 9, 18, 15⟩) (suf := [⟨0, 9, 21, 31⟩]) (name := "java/lang/IllegalArgumentException") rfl (by decide) (by decide) w_302 w_398 (fun z hz => by
          rcases List.mem_cons.mp hz with rfl | hz
          · exact Or.inr ⟨by decide, _, w_301, hNC 1 0 (by decide) (by decide) (by decide)⟩
          rcases List.mem_cons.mp hz with rfl | hz
          · exact Or.inr ⟨by decide, _, w_422, hNC 1 2 (by decide) (by decide) (by decide)⟩
          cases hz) ?_
        refine q_astore_n d_Law_end_18 rfl (Nat.le_of_ble_eq_true rfl) (by first | exact q_ok0 | exact q_okI rfl | exact q_okR rfl | exact q_okN rfl) rfl ?_
        refine q_iconst (v := nI 3) d_Law_end_19 (by decide) ?_
        refine q_iret d_Law_end_20 rfl (by omega) (by omega) ?_
        exact ⟨_, rfl, Or.inr ⟨by decide, hp⟩⟩
      rcases j with _ | j
      · cases hj
        refine q_VX.catch (pre := [⟨0, 9, 12, 13⟩, ⟨0, 9, 15, 21⟩, ⟨0, 9, 18, 15⟩]) (y := ⟨0, 9, 21, 31⟩) (suf := []) (name := "java/lang/UnsupportedOperationException") rfl (by decide) (by decide) w_603 w_614 (fun z hz => by
          rcases List.mem_cons.mp hz with rfl | hz
          · exact Or.inr ⟨by decide, _, w_301, hNC 3 0 (by decide) (by decide) (by decide)⟩
          rcases List.mem_cons.mp hz with rfl | hz
          · exact Or.inr ⟨by decide, _, w_422, hNC 3 2 (by decide) (by decide) (by decide)⟩
          rcases List.mem_cons.mp hz with rfl | hz
          · exact Or.inr ⟨by decide, _, w_302, hNC 3 1 (by decide) (by decide) (by decide)⟩
          cases hz) ?_
        refine q_astore_n d_Law_end_21 rfl (Nat.le_of_ble_eq_true rfl) (by first | exact q_ok0 | exact q_okI rfl | exact q_okR rfl | exact q_okN rfl) rfl ?_
        refine q_iconst (v := nI 4) d_Law_end_22 (by decide) ?_
        refine q_iret d_Law_end_23 rfl (by omega) (by omega) ?_
        exact ⟨_, rfl, Or.inr ⟨by decide, hp⟩⟩
      · cases hj
theorem w_about {P : Int32 → Int32 → q_H → Prop} (hNC : q_NC g) {x out : Nat} {p0 p1 p2 : Int32} {mc ms : Nat} (hx : T x = some (110, 0)) (hK : q_C g M_Lens_about [.ref x, .int p0, .int p1, .int p2] (sz, T, I, R, J) mc ms (q_Xi [2, 1] P)) (hO : ∀ r h', P 0 r h' → h'.2.1 out = some (1, 1)) : q_Ci g M_Law_about [.ref x, .int p0, .int p1, .int p2, .ref out] (sz, T, I, R, J) mc ms (q_Wi out P) := by
  refine q_C.of (ls0 := [some (.ref x), some (.int p0), some (.int p1), some (.int p2), some (.ref out), none]) (by decide) rfl (by decide) (Nat.le_of_ble_eq_true rfl) rfl ?_
  refine q_aload d_Law_about_0 rfl ?_
  refine q_iconst (v := nI 0) d_Law_about_2 (by decide) ?_
  refine q_aload_n d_Law_about_3 rfl rfl ?_
  refine q_iload_n d_Law_about_4 rfl rfl ?_
  refine q_iload_n d_Law_about_5 rfl rfl ?_
  refine q_iload_n d_Law_about_6 rfl rfl ?_
  refine q_callV (M2 := M_Lens_about) d_Law_about_7 ⟨(Nat.le_of_ble_eq_true rfl), (Nat.le_of_ble_eq_true rfl), w_685, w_1, ⟨by decide, by decide⟩, show _ = some 3 by decide +kernel⟩ w_682 w_683 (ci := 10) rfl w_684 (by first | assumption | rfl | (simp (disch := omega) only [q_upT_self, q_upT_ne, q_upR_self, q_upR_nea, q_upR_nk, s_T_lo, s_T_hi, s_R_ne, *]; done) | (simp (disch := omega) only [q_upT_self, q_upT_ne, q_upR_self, q_upR_nea, q_upR_nk, s_T_lo, s_T_hi, s_R_ne, *]; rfl)) rfl (Nat.le_of_ble_eq_true rfl) (by omega) (by omega) (hK) (fun v h' z => ?_) (fun z9 h' z => ?_)
  · rcases z with ⟨r, e, hp⟩ | ⟨j, e, i, hj, e2, hp⟩
    · cases e
      obtain ⟨sz1, T1, I1, R1, J1⟩ := h'
      have hO1 : T1 out = some (1, 1) := hO _ _ hp
      refine q_i2l d_Law_about_10 rfl ?_
      refine q_last d_Law_about_11 (by first | assumption | rfl | (simp (disch := omega) only [q_upT_self, q_upT_ne, q_upR_self, q_upR_nea, q_upR_nk, s_T_lo, s_T_hi, s_R_ne, *]; done) | (simp (disch := omega) only [q_upT_self, q_upT_ne, q_upR_self, q_upR_nea, q_upR_nk, s_T_lo, s_T_hi, s_R_ne, *]; rfl)) (by first | assumption | exact vp_in_nI (by omega) (by omega)) ?_
      refine q_goto (tgt := 23) d_Law_about_12 rfl ?_
      refine q_iconst (v := nI 0) d_Law_about_23 (by decide) ?_
      refine q_iret d_Law_about_24 rfl (by omega) (by omega) ?_
      exact ⟨_, rfl, Or.inl ⟨rfl, r, _, hp, rfl⟩⟩
    · cases e2
  · rcases z with ⟨r, e, hp⟩ | ⟨j, e, i, hj, e2, hp⟩
    · cases e
    · cases e2
      obtain ⟨sz1, T1, I1, R1, J1⟩ := h'
      rcases j with _ | j
      · cases hj
        refine q_VX.catch (pre := []) (y := ⟨0, 12, 15, 21⟩) (suf := [⟨0, 12, 19, 15⟩]) (name := "java/lang/IndexOutOfBoundsException") rfl (by decide) (by decide) w_422 w_437 (fun z hz => nomatch hz) ?_
        refine q_astore d_Law_about_15 (Nat.le_of_ble_eq_true rfl) (by first | exact q_ok0 | exact q_okI rfl | exact q_okR rfl | exact q_okN rfl) rfl ?_
        refine q_iconst (v := nI 1) d_Law_about_17 (by decide) ?_
        refine q_iret d_Law_about_18 rfl (by omega) (by omega) ?_
        exact ⟨_, rfl, Or.inr ⟨by decide, hp⟩⟩
      rcases j with _ | j
      · cases hj
        refine q_VX.catch (pre := [⟨0, 12, 15, 21⟩]) (y := ⟨0, 12, 19, 15⟩) (suf := []) (name := "java/lang/IllegalArgumentException") rfl (by decide) (by decide) w_302 w_398 (fun z hz => by
          rcases List.mem_cons.mp hz with rfl | hz
          · exact Or.inr ⟨by decide, _, w_422, hNC 1 2 (by decide) (by decide) (by decide)⟩
          cases hz) ?_
        refine q_astore d_Law_about_19 (Nat.le_of_ble_eq_true rfl) (by first | exact q_ok0 | exact q_okI rfl | exact q_okR rfl | exact q_okN rfl) rfl ?_
        refine q_iconst (v := nI 2) d_Law_about_21 (by decide) ?_
        refine q_iret d_Law_about_22 rfl (by omega) (by omega) ?_
        exact ⟨_, rfl, Or.inr ⟨by decide, hp⟩⟩
      · cases hj
theorem w_count {P : Int32 → Int32 → q_H → Prop} (hNC : q_NC g) {x out : Nat} {p0 : Int32} {mc ms : Nat} (hx : T x = some (110, 0)) (hK : q_C g M_Lens_count [.ref x, .int p0] (sz, T, I, R, J) mc ms (q_Xi [1] P)) (hO : ∀ r h', P 0 r h' → h'.2.1 out = some (1, 1)) : q_Ci g M_Law_count [.ref x, .int p0, .ref out] (sz, T, I, R, J) mc ms (q_Wi out P) := by
  refine q_C.of (ls0 := [some (.ref x), some (.int p0), some (.ref out), none]) (by decide) rfl (by decide) (Nat.le_of_ble_eq_true rfl) rfl ?_
  refine q_aload_n d_Law_count_0 rfl rfl ?_
  refine q_iconst (v := nI 0) d_Law_count_1 (by decide) ?_
  refine q_aload_n d_Law_count_2 rfl rfl ?_
  refine q_iload_n d_Law_count_3 rfl rfl ?_
  refine q_callV (M2 := M_Lens_count) d_Law_count_4 ⟨(Nat.le_of_ble_eq_true rfl), (Nat.le_of_ble_eq_true rfl), w_694, w_1, ⟨by decide, by decide⟩, show _ = some 1 by decide +kernel⟩ w_691 w_692 (ci := 10) rfl w_693 (by first | assumption | rfl | (simp (disch := omega) only [q_upT_self, q_upT_ne, q_upR_self, q_upR_nea, q_upR_nk, s_T_lo, s_T_hi, s_R_ne, *]; done) | (simp (disch := omega) only [q_upT_self, q_upT_ne, q_upR_self, q_upR_nea, q_upR_nk, s_T_lo, s_T_hi, s_R_ne, *]; rfl)) rfl (Nat.le_of_ble_eq_true rfl) (by omega) (by omega) (hK) (fun v h' z => ?_) (fun z9 h' z => ?_)
  · rcases z with ⟨r, e, hp⟩ | ⟨j, e, i, hj, e2, hp⟩
    · cases e
      obtain ⟨sz1, T1, I1, R1, J1⟩ := h'
      have hO1 : T1 out = some (1, 1) := hO _ _ hp
      refine q_i2l d_Law_count_7 rfl ?_
      refine q_last d_Law_count_8 (by first | assumption | rfl | (simp (disch := omega) only [q_upT_self, q_upT_ne, q_upR_self, q_upR_nea, q_upR_nk, s_T_lo, s_T_hi, s_R_ne, *]; done) | (simp (disch := omega) only [q_upT_self, q_upT_ne, q_upR_self, q_upR_nea, q_upR_nk, s_T_lo, s_T_hi, s_R_ne, *]; rfl)) (by first | assumption | exact vp_in_nI (by omega) (by omega)) ?_
      refine q_goto (tgt := 15) d_Law_count_9 rfl ?_
      refine q_iconst (v := nI 0) d_Law_count_15 (by decide) ?_
      refine q_iret d_Law_count_16 rfl (by omega) (by omega) ?_
      exact ⟨_, rfl, Or.inl ⟨rfl, r, _, hp, rfl⟩⟩
    · cases e2
  · rcases z with ⟨r, e, hp⟩ | ⟨j, e, i, hj, e2, hp⟩
    · cases e
    · cases e2
      obtain ⟨sz1, T1, I1, R1, J1⟩ := h'
      rcases j with _ | j
      · cases hj
        refine q_VX.catch (pre := []) (y := ⟨0, 9, 12, 15⟩) (suf := []) (name := "java/lang/IllegalArgumentException") rfl (by decide) (by decide) w_302 w_398 (fun z hz => nomatch hz) ?_
        refine q_astore_n d_Law_count_12 rfl (Nat.le_of_ble_eq_true rfl) (by first | exact q_ok0 | exact q_okI rfl | exact q_okR rfl | exact q_okN rfl) rfl ?_
        refine q_iconst (v := nI 1) d_Law_count_13 (by decide) ?_
        refine q_iret d_Law_count_14 rfl (by omega) (by omega) ?_
        exact ⟨_, rfl, Or.inr ⟨by decide, hp⟩⟩
      · cases hj
theorem w_record {P : Int32 → Int32 → q_H → Prop} (hNC : q_NC g) {x out : Nat} {p0 : Int32} {mc ms : Nat} (hx : T x = some (110, 0)) (hK : q_C g M_Lens_record [.ref x, .int p0] (sz, T, I, R, J) mc ms (q_Xi [2, 3] P)) (hO : ∀ r h', P 0 r h' → h'.2.1 out = some (1, 1)) : q_Ci g M_Law_record [.ref x, .int p0, .ref out] (sz, T, I, R, J) mc ms (q_Wi out P) := by
  refine q_C.of (ls0 := [some (.ref x), some (.int p0), some (.ref out), none]) (by decide) rfl (by decide) (Nat.le_of_ble_eq_true rfl) rfl ?_
  refine q_aload_n d_Law_record_0 rfl rfl ?_
  refine q_iconst (v := nI 0) d_Law_record_1 (by decide) ?_
  refine q_aload_n d_Law_record_2 rfl rfl ?_
  refine q_iload_n d_Law_record_3 rfl rfl ?_
  refine q_callV (M2 := M_Lens_record) d_Law_record_4 ⟨(Nat.le_of_ble_eq_true rfl), (Nat.le_of_ble_eq_true rfl), w_709, w_1, ⟨by decide, by decide⟩, show _ = some 1 by decide +kernel⟩ w_706 w_707 (ci := 10) rfl w_708 (by first | assumption | rfl | (simp (disch := omega) only [q_upT_self, q_upT_ne, q_upR_self, q_upR_nea, q_upR_nk, s_T_lo, s_T_hi, s_R_ne, *]; done) | (simp (disch := omega) only [q_upT_self, q_upT_ne, q_upR_self, q_upR_nea, q_upR_nk, s_T_lo, s_T_hi, s_R_ne, *]; rfl)) rfl (Nat.le_of_ble_eq_true rfl) (by omega) (by omega) (hK) (fun v h' z => ?_) (fun z9 h' z => ?_)
  · rcases z with ⟨r, e, hp⟩ | ⟨j, e, i, hj, e2, hp⟩
    · cases e
      obtain ⟨sz1, T1, I1, R1, J1⟩ := h'
      have hO1 : T1 out = some (1, 1) := hO _ _ hp
      refine q_i2l d_Law_record_7 rfl ?_
      refine q_last d_Law_record_8 (by first | assumption | rfl | (simp (disch := omega) only [q_upT_self, q_upT_ne, q_upR_self, q_upR_nea, q_upR_nk, s_T_lo, s_T_hi, s_R_ne, *]; done) | (simp (disch := omega) only [q_upT_self, q_upT_ne, q_upR_self, q_upR_nea, q_upR_nk, s_T_lo, s_T_hi, s_R_ne, *]; rfl)) (by first | assumption | exact vp_in_nI (by omega) (by omega)) ?_
      refine q_goto (tgt := 18) d_Law_record_9 rfl ?_
      refine q_iconst (v := nI 0) d_Law_record_18 (by decide) ?_
      refine q_iret d_Law_record_19 rfl (by omega) (by omega) ?_
      exact ⟨_, rfl, Or.inl ⟨rfl, r, _, hp, rfl⟩⟩
    · cases e2
  · rcases z with ⟨r, e, hp⟩ | ⟨j, e, i, hj, e2, hp⟩
    · cases e
    · cases e2
      obtain ⟨sz1, T1, I1, R1, J1⟩ := h'
      rcases j with _ | j
      · cases hj
        refine q_VX.catch (pre := []) (y := ⟨0, 9, 12, 21⟩) (suf := [⟨0, 9, 15, 31⟩]) (name := "java/lang/IndexOutOfBoundsException") rfl (by decide) (by decide) w_422 w_437 (fun z hz => nomatch hz) ?_
        refine q_astore_n d_Law_record_12 rfl (Nat.le_of_ble_eq_true rfl) (by first | exact q_ok0 | exact q_okI rfl | exact q_okR rfl | exact q_okN rfl) rfl ?_
        refine q_iconst (v := nI 1) d_Law_record_13 (by decide) ?_
        refine q_iret d_Law_record_14 rfl (by omega) (by omega) ?_
        exact ⟨_, rfl, Or.inr ⟨by decide, hp⟩⟩
      rcases j with _ | j
      · cases hj
        refine q_VX.catch (pre := [⟨0, 9, 12, 21⟩]) (y := ⟨0, 9, 15, 31⟩) (suf := []) (name := "java/lang/UnsupportedOperationException") rfl (by decide) (by decide) w_603 w_614 (fun z hz => by
          rcases List.mem_cons.mp hz with rfl | hz
          · exact Or.inr ⟨by decide, _, w_422, hNC 3 2 (by decide) (by decide) (by decide)⟩
          cases hz) ?_
        refine q_astore_n d_Law_record_15 rfl (Nat.le_of_ble_eq_true rfl) (by first | exact q_ok0 | exact q_okI rfl | exact q_okR rfl | exact q_okN rfl) rfl ?_
        refine q_iconst (v := nI 2) d_Law_record_16 (by decide) ?_
        refine q_iret d_Law_record_17 rfl (by omega) (by omega) ?_
        exact ⟨_, rfl, Or.inr ⟨by decide, hp⟩⟩
      · cases hj
theorem w_copy {P : Int32 → Int32 → q_H → Prop} (hNC : q_NC g) {x out : Nat} {p0 : Int32} {mc ms : Nat} (hx : T x = some (110, 0)) (hK : q_C g M_Lens_copy [.ref x, .int p0] (sz, T, I, R, J) mc ms (q_Xi [2, 3] P)) (hO : ∀ r h', P 0 r h' → h'.2.1 out = some (1, 1)) : q_Ci g M_Law_copy [.ref x, .int p0, .ref out] (sz, T, I, R, J) mc ms (q_Wi out P) := by
  refine q_C.of (ls0 := [some (.ref x), some (.int p0), some (.ref out), none]) (by decide) rfl (by decide) (Nat.le_of_ble_eq_true rfl) rfl ?_
  refine q_aload_n d_Law_copy_0 rfl rfl ?_
  refine q_iconst (v := nI 0) d_Law_copy_1 (by decide) ?_
  refine q_aload_n d_Law_copy_2 rfl rfl ?_
  refine q_iload_n d_Law_copy_3 rfl rfl ?_
  refine q_callV (M2 := M_Lens_copy) d_Law_copy_4 ⟨(Nat.le_of_ble_eq_true rfl), (Nat.le_of_ble_eq_true rfl), w_743, w_1, ⟨by decide, by decide⟩, show _ = some 1 by decide +kernel⟩ w_740 w_741 (ci := 10) rfl w_742 (by first | assumption | rfl | (simp (disch := omega) only [q_upT_self, q_upT_ne, q_upR_self, q_upR_nea, q_upR_nk, s_T_lo, s_T_hi, s_R_ne, *]; done) | (simp (disch := omega) only [q_upT_self, q_upT_ne, q_upR_self, q_upR_nea, q_upR_nk, s_T_lo, s_T_hi, s_R_ne, *]; rfl)) rfl (Nat.le_of_ble_eq_true rfl) (by omega) (by omega) (hK) (fun v h' z => ?_) (fun z9 h' z => ?_)
  · rcases z with ⟨r, e, hp⟩ | ⟨j, e, i, hj, e2, hp⟩
    · cases e
      obtain ⟨sz1, T1, I1, R1, J1⟩ := h'
      have hO1 : T1 out = some (1, 1) := hO _ _ hp
      refine q_i2l d_Law_copy_7 rfl ?_
      refine q_last d_Law_copy_8 (by first | assumption | rfl | (simp (disch := omega) only [q_upT_self, q_upT_ne, q_upR_self, q_upR_nea, q_upR_nk, s_T_lo, s_T_hi, s_R_ne, *]; done) | (simp (disch := omega) only [q_upT_self, q_upT_ne, q_upR_self, q_upR_nea, q_upR_nk, s_T_lo, s_T_hi, s_R_ne, *]; rfl)) (by first | assumption | exact vp_in_nI (by omega) (by omega)) ?_
      refine q_goto (tgt := 18) d_Law_copy_9 rfl ?_
      refine q_iconst (v := nI 0) d_Law_copy_18 (by decide) ?_
      refine q_iret d_Law_copy_19 rfl (by omega) (by omega) ?_
      exact ⟨_, rfl, Or.inl ⟨rfl, r, _, hp, rfl⟩⟩
    · cases e2
  · rcases z with ⟨r, e, hp⟩ | ⟨j, e, i, hj, e2, hp⟩
    · cases e
    · cases e2
      obtain ⟨sz1, T1, I1, R1, J1⟩ := h'
      rcases j with _ | j
      · cases hj
        refine q_VX.catch (pre := []) (y := ⟨0, 9, 12, 21⟩) (suf := [⟨0, 9, 15, 31⟩]) (name := "java/lang/IndexOutOfBoundsException") rfl (by decide) (by decide) w_422 w_437 (fun z hz => nomatch hz) ?_
        refine q_astore_n d_Law_copy_12 rfl (Nat.le_of_ble_eq_true rfl) (by first | exact q_ok0 | exact q_okI rfl | exact q_okR rfl | exact q_okN rfl) rfl ?_
        refine q_iconst (v := nI 1) d_Law_copy_13 (by decide) ?_
        refine q_iret d_Law_copy_14 rfl (by omega) (by omega) ?_
        exact ⟨_, rfl, Or.inr ⟨by decide, hp⟩⟩
      rcases j with _ | j
      · cases hj
        refine q_VX.catch (pre := [⟨0, 9, 12, 21⟩]) (y := ⟨0, 9, 15, 31⟩) (suf := []) (name := "java/lang/UnsupportedOperationException") rfl (by decide) (by decide) w_603 w_614 (fun z hz => by
          rcases List.mem_cons.mp hz with rfl | hz
          · exact Or.inr ⟨by decide, _, w_422, hNC 3 2 (by decide) (by decide) (by decide)⟩
          cases hz) ?_
        refine q_astore_n d_Law_copy_15 rfl (Nat.le_of_ble_eq_true rfl) (by first | exact q_ok0 | exact q_okI rfl | exact q_okR rfl | exact q_okN rfl) rfl ?_
        refine q_iconst (v := nI 2) d_Law_copy_16 (by decide) ?_
        refine q_iret d_Law_copy_17 rfl (by omega) (by omega) ?_
        exact ⟨_, rfl, Or.inr ⟨by decide, hp⟩⟩
      · cases hj
theorem w_drop {P : Int32 → q_H → Prop} (hNC : q_NC g) {x : Nat} {p0 : Int32} {mc ms : Nat} (hx : T x = some (110, 0)) (hK : q_C g M_Lens_drop [.ref x, .int p0] (sz, T, I, R, J) mc ms (q_Xv [2] P)) : q_Ci g M_Law_drop [.ref x, .int p0] (sz, T, I, R, J) mc ms (P) := by
  refine q_C.of (ls0 := [some (.ref x), some (.int p0), none]) (by decide) rfl (by decide) (Nat.le_of_ble_eq_true rfl) rfl ?_
  refine q_aload_n d_Law_drop_0 rfl rfl ?_
  refine q_iload_n d_Law_drop_1 rfl rfl ?_
  refine q_callV (M2 := M_Lens_drop) d_Law_drop_2 ⟨(Nat.le_of_ble_eq_true rfl), (Nat.le_of_ble_eq_true rfl), w_766, w_1, ⟨by decide, by decide⟩, show _ = some 1 by decide +kernel⟩ w_763 w_764 (ci := 10) rfl w_765 (by first | assumption | rfl | (simp (disch := omega) only [q_upT_self, q_upT_ne, q_upR_self, q_upR_nea, q_upR_nk, s_T_lo, s_T_hi, s_R_ne, *]; done) | (simp (disch := omega) only [q_upT_self, q_upT_ne, q_upR_self, q_upR_nea, q_upR_nk, s_T_lo, s_T_hi, s_R_ne, *]; rfl)) rfl (Nat.le_of_ble_eq_true rfl) (by omega) (by omega) (hK) (fun v h' z => ?_) (fun z9 h' z => ?_)
  · rcases z with ⟨e, hp⟩ | ⟨j, e, i, hj, e2, hp⟩
    · cases e
      obtain ⟨sz1, T1, I1, R1, J1⟩ := h'
      refine q_goto (tgt := 11) d_Law_drop_5 rfl ?_
      refine q_iconst (v := nI 0) d_Law_drop_11 (by decide) ?_
      refine q_iret d_Law_drop_12 rfl (by omega) (by omega) ?_
      exact ⟨_, rfl, hp⟩
    · cases e2
  · rcases z with ⟨e, hp⟩ | ⟨j, e, i, hj, e2, hp⟩
    · cases e
    · cases e2
      obtain ⟨sz1, T1, I1, R1, J1⟩ := h'
      rcases j with _ | j
      · cases hj
        refine q_VX.catch (pre := []) (y := ⟨0, 5, 8, 21⟩) (suf := []) (name := "java/lang/IndexOutOfBoundsException") rfl (by decide) (by decide) w_422 w_437 (fun z hz => nomatch hz) ?_
        refine q_astore_n d_Law_drop_8 rfl (Nat.le_of_ble_eq_true rfl) (by first | exact q_ok0 | exact q_okI rfl | exact q_okR rfl | exact q_okN rfl) rfl ?_
        refine q_iconst (v := nI 1) d_Law_drop_9 (by decide) ?_
        refine q_iret d_Law_drop_10 rfl (by omega) (by omega) ?_
        exact ⟨_, rfl, hp⟩
      · cases hj
theorem w_set {P : Int32 → q_H → Prop} (hNC : q_NC g) {x : Nat} {p0 p1 p2 : Int32} {mc ms : Nat} (hx : T x = some (110, 0)) (hK : q_C g M_Lens_set [.ref x, .int p0, .int p1, .int p2] (sz, T, I, R, J) mc ms (q_Xv [2, 1] P)) : q_Ci g M_Law_set [.ref x, .int p0, .int p1, .int p2] (sz, T, I, R, J) mc ms (P) := by
  refine q_C.of (ls0 := [some (.ref x), some (.int p0), some (.int p1), some (.int p2), none]) (by decide) rfl (by decide) (Nat.le_of_ble_eq_true rfl) rfl ?_
  refine q_aload_n d_Law_set_0 rfl rfl ?_
  refine q_iload_n d_Law_set_1 rfl rfl ?_
  refine q_iload_n d_Law_set_2 rfl rfl ?_
  refine q_iload_n d_Law_set_3 rfl rfl ?_
  refine q_callV (M2 := M_Lens_set) d_Law_set_4 ⟨(Nat.le_of_ble_eq_true rfl), (Nat.le_of_ble_eq_true rfl), w_773, w_1, ⟨by decide, by decide⟩, show _ = some 3 by decide +kernel⟩ w_770 w_771 (ci := 10) rfl w_772 (by first | assumption | rfl | (simp (disch := omega) only [q_upT_self, q_upT_ne, q_upR_self, q_upR_nea, q_upR_nk, s_T_lo, s_T_hi, s_R_ne, *]; done) | (simp (disch := omega) only [q_upT_self, q_upT_ne, q_upR_self, q_upR_nea, q_upR_nk, s_T_lo, s_T_hi, s_R_ne, *]; rfl)) rfl (Nat.le_of_ble_eq_true rfl) (by omega) (by omega) (hK) (fun v h' z => ?_) (fun z9 h' z => ?_)
  · rcases z with ⟨e, hp⟩ | ⟨j, e, i, hj, e2, hp⟩
    · cases e
      obtain ⟨sz1, T1, I1, R1, J1⟩ := h'
      refine q_goto (tgt := 18) d_Law_set_7 rfl ?_
      refine q_iconst (v := nI 0) d_Law_set_18 (by decide) ?_
      refine q_iret d_Law_set_19 rfl (by omega) (by omega) ?_
      exact ⟨_, rfl, hp⟩
    · cases e2
  · rcases z with ⟨e, hp⟩ | ⟨j, e, i, hj, e2, hp⟩
    · cases e
    · cases e2
      obtain ⟨sz1, T1, I1, R1, J1⟩ := h'
      rcases j with _ | j
      · cases hj
        refine q_VX.catch (pre := []) (y := ⟨0, 7, 10, 21⟩) (suf := [⟨0, 7, 14, 15⟩]) (name := "java/lang/IndexOutOfBoundsException") rfl (by decide) (by decide) w_422 w_437 (fun z hz => nomatch hz) ?_
        refine q_astore d_Law_set_10 (Nat.le_of_ble_eq_true rfl) (by first | exact q_ok0 | exact q_okI rfl | exact q_okR rfl | exact q_okN rfl) rfl ?_
        refine q_iconst (v := nI 1) d_Law_set_12 (by decide) ?_
        refine q_iret d_Law_set_13 rfl (by omega) (by omega) ?_
        exact ⟨_, rfl, hp⟩
      rcases j with _ | j
      · cases hj
        refine q_VX.catch (pre := [⟨0, 7, 10, 21⟩]) (y := ⟨0, 7, 14, 15⟩) (suf := []) (name := "java/lang/IllegalArgumentException") rfl (by decide) (by decide) w_302 w_398 (fun z hz => by
          rcases List.mem_cons.mp hz with rfl | hz
          · exact Or.inr ⟨by decide, _, w_422, hNC 1 2 (by decide) (by decide) (by decide)⟩
          cases hz) ?_
        refine q_astore d_Law_set_14 (Nat.le_of_ble_eq_true rfl) (by first | exact q_ok0 | exact q_okI rfl | exact q_okR rfl | exact q_okN rfl) rfl ?_
        refine q_iconst (v := nI 2) d_Law_set_16 (by decide) ?_
        refine q_iret d_Law_set_17 rfl (by omega) (by omega) ?_
        exact ⟨_, rfl, hp⟩
      · cases hj
theorem w_put {P : Int32 → Int32 → q_H → Prop} (hNC : q_NC g) {x out : Nat} {p0 p1 p2 p3 : Int32} {mc ms : Nat} (hx : T x = some (110, 0)) (hK : q_C g M_Lens_put [.ref x, .int p0, .int p1, .int p2, .int p3] (sz, T, I, R, J) mc ms (q_Xi [2, 1] P)) (hO : ∀ r h', P 0 r h' → h'.2.1 out = some (1, 1)) : q_Ci g M_Law_put [.ref x, .int p0, .int p1, .int p2, .int p3, .ref out] (sz, T, I, R, J) mc ms (q_Wi out P) := by
  refine q_C.of (ls0 := [some (.ref x), some (.int p0), some (.int p1), some (.int p2), some (.int p3), some (.ref out), none]) (by decide) rfl (by decide) (Nat.le_of_ble_eq_true rfl) rfl ?_
  refine q_aload d_Law_put_0 rfl ?_
  refine q_iconst (v := nI 0) d_Law_put_2 (by decide) ?_
  refine q_aload_n d_Law_put_3 rfl rfl ?_
  refine q_iload_n d_Law_put_4 rfl rfl ?_
  refine q_iload_n d_Law_put_5 rfl rfl ?_
  refine q_iload_n d_Law_put_6 rfl rfl ?_
  refine q_iload d_Law_put_7 rfl ?_
  refine q_callV (M2 := M_Lens_put) d_Law_put_9 ⟨(Nat.le_of_ble_eq_true rfl), (Nat.le_of_ble_eq_true rfl), w_790, w_1, ⟨by decide, by decide⟩, show _ = some 4 by decide +kernel⟩ w_787 w_788 (ci := 10) rfl w_789 (by first | assumption | rfl | (simp (disch := omega) only [q_upT_self, q_upT_ne, q_upR_self, q_upR_nea, q_upR_nk, s_T_lo, s_T_hi, s_R_ne, *]; done) | (simp (disch := omega) only [q_upT_self, q_upT_ne, q_upR_self, q_upR_nea, q_upR_nk, s_T_lo, s_T_hi, s_R_ne, *]; rfl)) rfl (Nat.le_of_ble_eq_true rfl) (by omega) (by omega) (hK) (fun v h' z => ?_) (fun z9 h' z => ?_)
  · rcases z with ⟨r, e, hp⟩ | ⟨j, e, i, hj, e2, hp⟩
    · cases e
      obtain ⟨sz1, T1, I1, R1, J1⟩ := h'
      have hO1 : T1 out = some (1, 1) := hO _ _ hp
      refine q_i2l d_Law_put_12 rfl ?_
      refine q_last d_Law_put_13 (by first | assumption | rfl | (simp (disch := omega) only [q_upT_self, q_upT_ne, q_upR_self, q_upR_nea, q_upR_nk, s_T_lo, s_T_hi, s_R_ne, *]; done) | (simp (disch := omega) only [q_upT_self, q_upT_ne, q_upR_self, q_upR_nea, q_upR_nk, s_T_lo, s_T_hi, s_R_ne, *]; rfl)) (by first | assumption | exact vp_in_nI (by omega) (by omega)) ?_
      refine q_goto (tgt := 25) d_Law_put_14 rfl ?_
      refine q_iconst (v := nI 0) d_Law_put_25 (by decide) ?_
      refine q_iret d_Law_put_26 rfl (by omega) (by omega) ?_
      exact ⟨_, rfl, Or.inl ⟨rfl, r, _, hp, rfl⟩⟩
    · cases e2
  · rcases z with ⟨r, e, hp⟩ | ⟨j, e, i, hj, e2, hp⟩
    · cases e
    · cases e2
      obtain ⟨sz1, T1, I1, R1, J1⟩ := h'
      rcases j with _ | j
      · cases hj
        refine q_VX.catch (pre := []) (y := ⟨0, 14, 17, 21⟩) (suf := [⟨0, 14, 21, 15⟩]) (name := "java/lang/IndexOutOfBoundsException") rfl (by decide) (by decide) w_422 w_437 (fun z hz => nomatch hz) ?_
        refine q_astore d_Law_put_17 (Nat.le_of_ble_eq_true rfl) (by first | exact q_ok0 | exact q_okI rfl | exact q_okR rfl | exact q_okN rfl) rfl ?_
        refine q_iconst (v := nI 1) d_Law_put_19 (by decide) ?_
        refine q_iret d_Law_put_20 rfl (by omega) (by omega) ?_
        exact ⟨_, rfl, Or.inr ⟨by decide, hp⟩⟩
      rcases j with _ | j
      · cases hj
        refine q_VX.catch (pre := [⟨0, 14, 17, 21⟩]) (y := ⟨0, 14, 21, 15⟩) (suf := []) (name := "java/lang/IllegalArgumentException") rfl (by decide) (by decide) w_302 w_398 (fun z hz => by
          rcases List.mem_cons.mp hz with rfl | hz
          · exact Or.inr ⟨by decide, _, w_422, hNC 1 2 (by decide) (by decide) (by decide)⟩
          cases hz) ?_
        refine q_astore d_Law_put_21 (Nat.le_of_ble_eq_true rfl) (by first | exact q_ok0 | exact q_okI rfl | exact q_okR rfl | exact q_okN rfl) rfl ?_
        refine q_iconst (v := nI 2) d_Law_put_23 (by decide) ?_
        refine q_iret d_Law_put_24 rfl (by omega) (by omega) ?_
        exact ⟨_, rfl, Or.inr ⟨by decide, hp⟩⟩
      · cases hj
theorem w_cut {P : Int32 → q_H → Prop} (hNC : q_NC g) {x : Nat} {p0 p1 p2 : Int32} {mc ms : Nat} (hx : T x = some (110, 0)) (hK : q_C g M_Lens_cut [.ref x, .int p0, .int p1, .int p2] (sz, T, I, R, J) mc ms (q_Xv [2, 1] P)) : q_Ci g M_Law_cut [.ref x, .int p0, .int p1, .int p2] (sz, T, I, R, J) mc ms (P) := by
  refine q_C.of (ls0 := [some (.ref x), some (.int p0), some (.int p1), some (.int p2), none]) (by decide) rfl (by decide) (Nat.le_of_ble_eq_true rfl) rfl ?_
  refine q_aload_n d_Law_cut_0 rfl rfl ?_
  refine q_iload_n d_Law_cut_1 rfl rfl ?_
  refine q_iload_n d_Law_cut_2 rfl rfl ?_
  refine q_iload_n d_Law_cut_3 rfl rfl ?_
  refine q_callV (M2 := M_Lens_cut) d_Law_cut_4 ⟨(Nat.le_of_ble_eq_true rfl), (Nat.le_of_ble_eq_true rfl), w_806, w_1, ⟨by decide, by decide⟩, show _ = some 3 by decide +kernel⟩ w_803 w_804 (ci := 10) rfl w_805 (by first | assumption | rfl | (simp (disch := omega) only [q_upT_self, q_upT_ne, q_upR_self, q_upR_nea, q_upR_nk, s_T_lo, s_T_hi, s_R_ne, *]; done) | (simp (disch := omega) only [q_upT_self, q_upT_ne, q_upR_self, q_upR_nea, q_upR_nk, s_T_lo, s_T_hi, s_R_ne, *]; rfl)) rfl (Nat.le_of_ble_eq_true rfl) (by omega) (by omega) (hK) (fun v h' z => ?_) (fun z9 h' z => ?_)
  · rcases z with ⟨e, hp⟩ | ⟨j, e, i, hj, e2, hp⟩
    · cases e
      obtain ⟨sz1, T1, I1, R1, J1⟩ := h'
      refine q_goto (tgt := 18) d_Law_cut_7 rfl ?_
      refine q_iconst (v := nI 0) d_Law_cut_18 (by decide) ?_
      refine q_iret d_Law_cut_19 rfl (by omega) (by omega) ?_
      exact ⟨_, rfl, hp⟩
    · cases e2
  · rcases z with ⟨e, hp⟩ | ⟨j, e, i, hj, e2, hp⟩
    · cases e
    · cases e2
      obtain ⟨sz1, T1, I1, R1, J1⟩ := h'
      rcases j with _ | j
      · cases hj
        refine q_VX.catch (pre := []) (y := ⟨0, 7, 10, 21⟩) (suf := [⟨0, 7, 14, 15⟩]) (name := "java/lang/IndexOutOfBoundsException") rfl (by decide) (by decide) w_422 w_437 (fun z hz => nomatch hz) ?_
        refine q_astore d_Law_cut_10 (Nat.le_of_ble_eq_true rfl) (by first | exact q_ok0 | exact q_okI rfl | exact q_okR rfl | exact q_okN rfl) rfl ?_
        refine q_iconst (v := nI 1) d_Law_cut_12 (by decide) ?_
        refine q_iret d_Law_cut_13 rfl (by omega) (by omega) ?_
        exact ⟨_, rfl, hp⟩
      rcases j with _ | j
      · cases hj
        refine q_VX.catch (pre := [⟨0, 7, 10, 21⟩]) (y := ⟨0, 7, 14, 15⟩) (suf := []) (name := "java/lang/IllegalArgumentException") rfl (by decide) (by decide) w_302 w_398 (fun z hz => by
          rcases List.mem_cons.mp hz with rfl | hz
          · exact Or.inr ⟨by decide, _, w_422, hNC 1 2 (by decide) (by decide) (by decide)⟩
          cases hz) ?_
        refine q_astore d_Law_cut_14 (Nat.le_of_ble_eq_true rfl) (by first | exact q_ok0 | exact q_okI rfl | exact q_okR rfl | exact q_okN rfl) rfl ?_
        refine q_iconst (v := nI 2) d_Law_cut_16 (by decide) ?_
        refine q_iret d_Law_cut_17 rfl (by omega) (by omega) ?_
        exact ⟨_, rfl, hp⟩
      · cases hj
theorem w_get {P : Int32 → Int32 → q_H → Prop} (hNC : q_NC g) {x out : Nat} {p0 p1 : Int32} {mc ms : Nat} (hx : T x = some (110, 0)) (hK : q_C g M_Lens_get [.ref x, .int p0, .int p1] (sz, T, I, R, J) mc ms (q_Xi [2, 1] P)) (hO : ∀ r h', P 0 r h' → h'.2.1 out = some (1, 1)) : q_Ci g M_Law_get [.ref x, .int p0, .int p1, .ref out] (sz, T, I, R, J) mc ms (q_Wi out P) := by
  refine q_C.of (ls0 := [some (.ref x), some (.int p0), some (.int p1), some (.ref out), none]) (by decide) rfl (by decide) (Nat.le_of_ble_eq_true rfl) rfl ?_
  refine q_aload_n d_Law_get_0 rfl rfl ?_
  refine q_iconst (v := nI 0) d_Law_get_1 (by decide) ?_
  refine q_aload_n d_Law_get_2 rfl rfl ?_
  refine q_iload_n d_Law_get_3 rfl rfl ?_
  refine q_iload_n d_Law_get_4 rfl rfl ?_
  refine q_callV (M2 := M_Lens_get) d_Law_get_5 ⟨(Nat.le_of_ble_eq_true rfl), (Nat.le_of_ble_eq_true rfl), w_813, w_1, ⟨by decide, by decide⟩, show _ = some 2 by decide +kernel⟩ w_810 w_811 (ci := 10) rfl w_812 (by first | assumption | rfl | (simp (disch := omega) only [q_upT_self, q_upT_ne, q_upR_self, q_upR_nea, q_upR_nk, s_T_lo, s_T_hi, s_R_ne, *]; done) | (simp (disch := omega) only [q_upT_self, q_upT_ne, q_upR_self, q_upR_nea, q_upR_nk, s_T_lo, s_T_hi, s_R_ne, *]; rfl)) rfl (Nat.le_of_ble_eq_true rfl) (by omega) (by omega) (hK) (fun v h' z => ?_) (fun z9 h' z => ?_)
  · rcases z with ⟨r, e, hp⟩ | ⟨j, e, i, hj, e2, hp⟩
    · cases e
      obtain ⟨sz1, T1, I1, R1, J1⟩ := h'
      have hO1 : T1 out = some (1, 1) := hO _ _ hp
      refine q_i2l d_Law_get_8 rfl ?_
      refine q_last d_Law_get_9 (by first | assumption | rfl | (simp (disch := omega) only [q_upT_self, q_upT_ne, q_upR_self, q_upR_nea, q_upR_nk, s_T_lo, s_T_hi, s_R_ne, *]; done) | (simp (disch := omega) only [q_upT_self, q_upT_ne, q_upR_self, q_upR_nea, q_upR_nk, s_T_lo, s_T_hi, s_R_ne, *]; rfl)) (by first | assumption | exact vp_in_nI (by omega) (by omega)) ?_
      refine q_goto (tgt := 21) d_Law_get_10 rfl ?_
      refine q_iconst (v := nI 0) d_Law_get_21 (by decide) ?_
      refine q_iret d_Law_get_22 rfl (by omega) (by omega) ?_
      exact ⟨_, rfl, Or.inl ⟨rfl, r, _, hp, rfl⟩⟩
    · cases e2
  · rcases z with ⟨r, e, hp⟩ | ⟨j, e, i, hj, e2, hp⟩
    · cases e
    · cases e2
      obtain ⟨sz1, T1, I1, R1, J1⟩ := h'
      rcases j with _ | j
      · cases hj
        refine q_VX.catch (pre := []) (y := ⟨0, 10, 13, 21⟩) (suf := [⟨0, 10, 17, 15⟩]) (name := "java/lang/IndexOutOfBoundsException") rfl (by decide) (by decide) w_422 w_437 (fun z hz => nomatch hz) ?_
        refine q_astore d_Law_get_13 (Nat.le_of_ble_eq_true rfl) (by first | exact q_ok0 | exact q_okI rfl | exact q_okR rfl | exact q_okN rfl) rfl ?_
        refine q_iconst (v := nI 1) d_Law_get_15 (by decide) ?_
        refine q_iret d_Law_get_16 rfl (by omega) (by omega) ?_
        exact ⟨_, rfl, Or.inr ⟨by decide, hp⟩⟩
      rcases j with _ | j
      · cases hj
        refine q_VX.catch (pre := [⟨0, 10, 13, 21⟩]) (y := ⟨0, 10, 17, 15⟩) (suf := []) (name := "java/lang/IllegalArgumentException") rfl (by decide) (by decide) w_302 w_398 (fun z hz => by
          rcases List.mem_cons.mp hz with rfl | hz
          · exact Or.inr ⟨by decide, _, w_422, hNC 1 2 (by decide) (by decide) (by decide)⟩
          cases hz) ?_
        refine q_astore d_Law_get_17 (Nat.le_of_ble_eq_true rfl) (by first | exact q_ok0 | exact q_okI rfl | exact q_okR rfl | exact q_okN rfl) rfl ?_
        refine q_iconst (v := nI 2) d_Law_get_19 (by decide) ?_
        refine q_iret d_Law_get_20 rfl (by omega) (by omega) ?_
        exact ⟨_, rfl, Or.inr ⟨by decide, hp⟩⟩
      · cases hj
theorem w_size {P : Int32 → Int32 → q_H → Prop} (hNC : q_NC g) {x out : Nat} {p0 p1 : Int32} {mc ms : Nat} (hx : T x = some (110, 0)) (hK : q_C g M_Lens_size [.ref x, .int p0, .int p1] (sz, T, I, R, J) mc ms (q_Xi [2, 1] P)) (hO : ∀ r h', P 0 r h' → h'.2.1 out = some (1, 1)) : q_Ci g M_Law_size [.ref x, .int p0, .int p1, .ref out] (sz, T, I, R, J) mc ms (q_Wi out P) := by
  refine q_C.of (ls0 := [some (.ref x), some (.int p0), some (.int p1), some (.ref out), none]) (by decide) rfl (by decide) (Nat.le_of_ble_eq_true rfl) rfl ?_
  refine q_aload_n d_Law_size_0 rfl rfl ?_
  refine q_iconst (v := nI 0) d_Law_size_1 (by decide) ?_
  refine q_aload_n d_Law_size_2 rfl rfl ?_
  refine q_iload_n d_Law_size_3 rfl rfl ?_
  refine q_iload_n d_Law_size_4 rfl rfl ?_
  refine q_callV (M2 := M_Lens_size) d_Law_size_5 ⟨(Nat.le_of_ble_eq_true rfl), (Nat.le_of_ble_eq_true rfl), w_824, w_1, ⟨by decide, by decide⟩, show _ = some 2 by decide +kernel⟩ w_821 w_822 (ci := 10) rfl w_823 (by first | assumption | rfl | (simp (disch := omega) only [q_upT_self, q_upT_ne, q_upR_self, q_upR_nea, q_upR_nk, s_T_lo, s_T_hi, s_R_ne, *]; done) | (simp (disch := omega) only [q_upT_self, q_upT_ne, q_upR_self, q_upR_nea, q_upR_nk, s_T_lo, s_T_hi, s_R_ne, *]; rfl)) rfl (Nat.le_of_ble_eq_true rfl) (by omega) (by omega) (hK) (fun v h' z => ?_) (fun z9 h' z => ?_)
  · rcases z with ⟨r, e, hp⟩ | ⟨j, e, i, hj, e2, hp⟩
    · cases e
      obtain ⟨sz1, T1, I1, R1, J1⟩ := h'
      have hO1 : T1 out = some (1, 1) := hO _ _ hp
      refine q_i2l d_Law_size_8 rfl ?_
      refine q_last d_Law_size_9 (by first | assumption | rfl | (simp (disch := omega) only [q_upT_self, q_upT_ne, q_upR_self, q_upR_nea, q_upR_nk, s_T_lo, s_T_hi, s_R_ne, *]; done) | (simp (disch := omega) only [q_upT_self, q_upT_ne, q_upR_self, q_upR_nea, q_upR_nk, s_T_lo, s_T_hi, s_R_ne, *]; rfl)) (by first | assumption | exact vp_in_nI (by omega) (by omega)) ?_
      refine q_goto (tgt := 21) d_Law_size_10 rfl ?_
      refine q_iconst (v := nI 0) d_Law_size_21 (by decide) ?_
      refine q_iret d_Law_size_22 rfl (by omega) (by omega) ?_
      exact ⟨_, rfl, Or.inl ⟨rfl, r, _, hp, rfl⟩⟩
    · cases e2
  · rcases z with ⟨r, e, hp⟩ | ⟨j, e, i, hj, e2, hp⟩
    · cases e
    · cases e2
      obtain ⟨sz1, T1, I1, R1, J1⟩ := h'
      rcases j with _ | j
      · cases hj
        refine q_VX.catch (pre := []) (y := ⟨0, 10, 13, 21⟩) (suf := [⟨0, 10, 17, 15⟩]) (name := "java/lang/IndexOutOfBoundsException") rfl (by decide) (by decide) w_422 w_437 (fun z hz => nomatch hz) ?_
        refine q_astore d_Law_size_13 (Nat.le_of_ble_eq_true rfl) (by first | exact q_ok0 | exact q_okI rfl | exact q_okR rfl | exact q_okN rfl) rfl ?_
        refine q_iconst (v := nI 1) d_Law_size_15 (by decide) ?_
        refine q_iret d_Law_size_16 rfl (by omega) (by omega) ?_
        exact ⟨_, rfl, Or.inr ⟨by decide, hp⟩⟩
      rcases j with _ | j
      · cases hj
        refine q_VX.catch (pre := [⟨0, 10, 13, 21⟩]) (y := ⟨0, 10, 17, 15⟩) (suf := []) (name := "java/lang/IllegalArgumentException") rfl (by decide) (by decide) w_302 w_398 (fun z hz => by
          rcases List.mem_cons.mp hz with rfl | hz
          · exact Or.inr ⟨by decide, _, w_422, hNC 1 2 (by decide) (by decide) (by decide)⟩
          cases hz) ?_
        refine q_astore d_Law_size_17 (Nat.le_of_ble_eq_true rfl) (by first | exact q_ok0 | exact q_okI rfl | exact q_okR rfl | exact q_okN rfl) rfl ?_
        refine q_iconst (v := nI 2) d_Law_size_19 (by decide) ?_
        refine q_iret d_Law_size_20 rfl (by omega) (by omega) ?_
        exact ⟨_, rfl, Or.inr ⟨by decide, hp⟩⟩
      · cases hj
theorem w_item {P : Int32 → Int32 → q_H → Prop} (hNC : q_NC g) {x out : Nat} {p0 p1 p2 : Int32} {mc ms : Nat} (hx : T x = some (110, 0)) (hK : q_C g M_Lens_item [.ref x, .int p0, .int p1, .int p2] (sz, T, I, R, J) mc ms (q_Xi [2, 1] P)) (hO : ∀ r h', P 0 r h' → h'.2.1 out = some (1, 1)) : q_Ci g M_Law_item [.ref x, .int p0, .int p1, .int p2, .ref out] (sz, T, I, R, J) mc ms (q_Wi out P) := by
  refine q_C.of (ls0 := [some (.ref x), some (.int p0), some (.int p1), some (.int p2), some (.ref out), none]) (by decide) rfl (by decide) (Nat.le_of_ble_eq_true rfl) rfl ?_
  refine q_aload d_Law_item_0 rfl ?_
  refine q_iconst (v := nI 0) d_Law_item_2 (by decide) ?_
  refine q_aload_n d_Law_item_3 rfl rfl ?_
  refine q_iload_n d_Law_item_4 rfl rfl ?_
  refine q_iload_n d_Law_item_5 rfl rfl ?_
  refine q_iload_n d_Law_item_6 rfl rfl ?_
  refine q_callV (M2 := M_Lens_item) d_Law_item_7 ⟨(Nat.le_of_ble_eq_true rfl), (Nat.le_of_ble_eq_true rfl), w_831, w_1, ⟨by decide, by decide⟩, show _ = some 3 by decide +kernel⟩ w_828 w_829 (ci := 10) rfl w_830 (by first | assumption | rfl | (simp (disch := omega) only [q_upT_self, q_upT_ne, q_upR_self, q_upR_nea, q_upR_nk, s_T_lo, s_T_hi, s_R_ne, *]; done) | (simp (disch := omega) only [q_upT_self, q_upT_ne, q_upR_self, q_upR_nea, q_upR_nk, s_T_lo, s_T_hi, s_R_ne, *]; rfl)) rfl (Nat.le_of_ble_eq_true rfl) (by omega) (by omega) (hK) (fun v h' z => ?_) (fun z9 h' z => ?_)
  · rcases z with ⟨r, e, hp⟩ | ⟨j, e, i, hj, e2, hp⟩
    · cases e
      obtain ⟨sz1, T1, I1, R1, J1⟩ := h'
      have hO1 : T1 out = some (1, 1) := hO _ _ hp
      refine q_i2l d_Law_item_10 rfl ?_
      refine q_last d_Law_item_11 (by first | assumption | rfl | (simp (disch := omega) only [q_upT_self, q_upT_ne, q_upR_self, q_upR_nea, q_upR_nk, s_T_lo, s_T_hi, s_R_ne, *]; done) | (simp (disch := omega) only [q_upT_self, q_upT_ne, q_upR_self, q_upR_nea, q_upR_nk, s_T_lo, s_T_hi, s_R_ne, *]; rfl)) (by first | assumption | exact vp_in_nI (by omega) (by omega)) ?_
      refine q_goto (tgt := 23) d_Law_item_12 rfl ?_
      refine q_iconst (v := nI 0) d_Law_item_23 (by decide) ?_
      refine q_iret d_Law_item_24 rfl (by omega) (by omega) ?_
      exact ⟨_, rfl, Or.inl ⟨rfl, r, _, hp, rfl⟩⟩
    · cases e2
  · rcases z with ⟨r, e, hp⟩ | ⟨j, e, i, hj, e2, hp⟩
    · cases e
    · cases e2
      obtain ⟨sz1, T1, I1, R1, J1⟩ := h'
      rcases j with _ | j
      · cases hj
        refine q_VX.catch (pre := []) (y := ⟨0, 12, 15, 21⟩) (suf := [⟨0, 12, 19, 15⟩]) (name := "java/lang/IndexOutOfBoundsException") rfl (by decide) (by decide) w_422 w_437 (fun z hz => nomatch hz) ?_
        refine q_astore d_Law_item_15 (Nat.le_of_ble_eq_true rfl) (by first | exact q_ok0 | exact q_okI rfl | exact q_okR rfl | exact q_okN rfl) rfl ?_
        refine q_iconst (v := nI 1) d_Law_item_17 (by decide) ?_
        refine q_iret d_Law_item_18 rfl (by omega) (by omega) ?_
        exact ⟨_, rfl, Or.inr ⟨by decide, hp⟩⟩
      rcases j with _ | j
      · cases hj
        refine q_VX.catch (pre := [⟨0, 12, 15, 21⟩]) (y := ⟨0, 12, 19, 15⟩) (suf := []) (name := "java/lang/IllegalArgumentException") rfl (by decide) (by decide) w_302 w_398 (fun z hz => by
          rcases List.mem_cons.mp hz with rfl | hz
          · exact Or.inr ⟨by decide, _, w_422, hNC 1 2 (by decide) (by decide) (by decide)⟩
          cases hz) ?_
        refine q_astore d_Law_item_19 (Nat.le_of_ble_eq_true rfl) (by first | exact q_ok0 | exact q_okI rfl | exact q_okR rfl | exact q_okN rfl) rfl ?_
        refine q_iconst (v := nI 2) d_Law_item_21 (by decide) ?_
        refine q_iret d_Law_item_22 rfl (by omega) (by omega) ?_
        exact ⟨_, rfl, Or.inr ⟨by decide, hp⟩⟩
      · cases hj
theorem w_version {P : Int32 → Int32 → q_H → Prop} (hNC : q_NC g) {x out : Nat} {p0 : Int32} {mc ms : Nat} (hx : T x = some (110, 0)) (hK : q_C g M_Lens_version [.ref x, .int p0] (sz, T, I, R, J) mc ms (q_Xi [2] P)) (hO : ∀ r h', P 0 r h' → h'.2.1 out = some (1, 1)) : q_Ci g M_Law_version [.ref x, .int p0, .ref out] (sz, T, I, R, J) mc ms (q_Wi out P) := by
  refine q_C.of (ls0 := [some (.ref x), some (.int p0), some (.ref out), none]) (by decide) rfl (by decide) (Nat.le_of_ble_eq_true rfl) rfl ?_
  refine q_aload_n d_Law_version_0 rfl rfl ?_
  refine q_iconst (v := nI 0) d_Law_version_1 (by decide) ?_
  refine q_aload_n d_Law_version_2 rfl rfl ?_
  refine q_iload_n d_Law_version_3 rfl rfl ?_
  refine q_callV (M2 := M_Lens_version) d_Law_version_4 ⟨(Nat.le_of_ble_eq_true rfl), (Nat.le_of_ble_eq_true rfl), w_838, w_1, ⟨by decide, by decide⟩, show _ = some 1 by decide +kernel⟩ w_835 w_836 (ci := 10) rfl w_837 (by first | assumption | rfl | (simp (disch := omega) only [q_upT_self, q_upT_ne, q_upR_self, q_upR_nea, q_upR_nk, s_T_lo, s_T_hi, s_R_ne, *]; done) | (simp (disch := omega) only [q_upT_self, q_upT_ne, q_upR_self, q_upR_nea, q_upR_nk, s_T_lo, s_T_hi, s_R_ne, *]; rfl)) rfl (Nat.le_of_ble_eq_true rfl) (by omega) (by omega) (hK) (fun v h' z => ?_) (fun z9 h' z => ?_)
  · rcases z with ⟨r, e, hp⟩ | ⟨j, e, i, hj, e2, hp⟩
    · cases e
      obtain ⟨sz1, T1, I1, R1, J1⟩ := h'
      have hO1 : T1 out = some (1, 1) := hO _ _ hp
      refine q_i2l d_Law_version_7 rfl ?_
      refine q_last d_Law_version_8 (by first | assumption | rfl | (simp (disch := omega) only [q_upT_self, q_upT_ne, q_upR_self, q_upR_nea, q_upR_nk, s_T_lo, s_T_hi, s_R_ne, *]; done) | (simp (disch := omega) only [q_upT_self, q_upT_ne, q_upR_self, q_upR_nea, q_upR_nk, s_T_lo, s_T_hi, s_R_ne, *]; rfl)) (by first | assumption | exact vp_in_nI (by omega) (by omega)) ?_
      refine q_goto (tgt := 15) d_Law_version_9 rfl ?_
      refine q_iconst (v := nI 0) d_Law_version_15 (by decide) ?_
      refine q_iret d_Law_version_16 rfl (by omega) (by omega) ?_
      exact ⟨_, rfl, Or.inl ⟨rfl, r, _, hp, rfl⟩⟩
    · cases e2
  · rcases z with ⟨r, e, hp⟩ | ⟨j, e, i, hj, e2, hp⟩
    · cases e
    · cases e2
      obtain ⟨sz1, T1, I1, R1, J1⟩ := h'
      rcases j with _ | j
      · cases hj
        refine q_VX.catch (pre := []) (y := ⟨0, 9, 12, 21⟩) (suf := []) (name := "java/lang/IndexOutOfBoundsException") rfl (by decide) (by decide) w_422 w_437 (fun z hz => nomatch hz) ?_
        refine q_astore_n d_Law_version_12 rfl (Nat.le_of_ble_eq_true rfl) (by first | exact q_ok0 | exact q_okI rfl | exact q_okR rfl | exact q_okN rfl) rfl ?_
        refine q_iconst (v := nI 1) d_Law_version_13 (by decide) ?_
        refine q_iret d_Law_version_14 rfl (by omega) (by omega) ?_
        exact ⟨_, rfl, Or.inr ⟨by decide, hp⟩⟩
      · cases hj
theorem w_kept {P : Int32 → Int32 → q_H → Prop} (hNC : q_NC g) {x out : Nat} {p0 : Int32} {mc ms : Nat} (hx : T x = some (110, 0)) (hK : q_C g M_Lens_kept [.ref x, .int p0] (sz, T, I, R, J) mc ms (q_Xi [2] P)) (hO : ∀ r h', P 0 r h' → h'.2.1 out = some (1, 1)) : q_Ci g M_Law_kept [.ref x, .int p0, .ref out] (sz, T, I, R, J) mc ms (q_Wi out P) := by
  refine q_C.of (ls0 := [some (.ref x), some (.int p0), some (.ref out), none]) (by decide) rfl (by decide) (Nat.le_of_ble_eq_true rfl) rfl ?_
  refine q_aload_n d_Law_kept_0 rfl rfl ?_
  refine q_iconst (v := nI 0) d_Law_kept_1 (by decide) ?_
  refine q_aload_n d_Law_kept_2 rfl rfl ?_
  refine q_iload_n d_Law_kept_3 rfl rfl ?_
  refine q_callV (M2 := M_Lens_kept) d_Law_kept_4 ⟨(Nat.le_of_ble_eq_true rfl), (Nat.le_of_ble_eq_true rfl), w_845, w_1, ⟨by decide, by decide⟩, show _ = some 1 by decide +kernel⟩ w_842 w_843 (ci := 10) rfl w_844 (by first | assumption | rfl | (simp (disch := omega) only [q_upT_self, q_upT_ne, q_upR_self, q_upR_nea, q_upR_nk, s_T_lo, s_T_hi, s_R_ne, *]; done) | (simp (disch := omega) only [q_upT_self, q_upT_ne, q_upR_self, q_upR_nea, q_upR_nk, s_T_lo, s_T_hi, s_R_ne, *]; rfl)) rfl (Nat.le_of_ble_eq_true rfl) (by omega) (by omega) (hK) (fun v h' z => ?_) (fun z9 h' z => ?_)
  · rcases z with ⟨r, e, hp⟩ | ⟨j, e, i, hj, e2, hp⟩
    · cases e
      obtain ⟨sz1, T1, I1, R1, J1⟩ := h'
      have hO1 : T1 out = some (1, 1) := hO _ _ hp
      refine q_i2l d_Law_kept_7 rfl ?_
      refine q_last d_Law_kept_8 (by first | assumption | rfl | (simp (disch := omega) only [q_upT_self, q_upT_ne, q_upR_self, q_upR_nea, q_upR_nk, s_T_lo, s_T_hi, s_R_ne, *]; done) | (simp (disch := omega) only [q_upT_self, q_upT_ne, q_upR_self, q_upR_nea, q_upR_nk, s_T_lo, s_T_hi, s_R_ne, *]; rfl)) (by first | assumption | exact vp_in_nI (by omega) (by omega)) ?_
      refine q_goto (tgt := 15) d_Law_kept_9 rfl ?_
      refine q_iconst (v := nI 0) d_Law_kept_15 (by decide) ?_
      refine q_iret d_Law_kept_16 rfl (by omega) (by omega) ?_
      exact ⟨_, rfl, Or.inl ⟨rfl, r, _, hp, rfl⟩⟩
    · cases e2
  · rcases z with ⟨r, e, hp⟩ | ⟨j, e, i, hj, e2, hp⟩
    · cases e
    · cases e2
      obtain ⟨sz1, T1, I1, R1, J1⟩ := h'
      rcases j with _ | j
      · cases hj
        refine q_VX.catch (pre := []) (y := ⟨0, 9, 12, 21⟩) (suf := []) (name := "java/lang/IndexOutOfBoundsException") rfl (by decide) (by decide) w_422 w_437 (fun z hz => nomatch hz) ?_
        refine q_astore_n d_Law_kept_12 rfl (Nat.le_of_ble_eq_true rfl) (by first | exact q_ok0 | exact q_okI rfl | exact q_okR rfl | exact q_okN rfl) rfl ?_
        refine q_iconst (v := nI 1) d_Law_kept_13 (by decide) ?_
        refine q_iret d_Law_kept_14 rfl (by omega) (by omega) ?_
        exact ⟨_, rfl, Or.inr ⟨by decide, hp⟩⟩
      · cases hj
theorem w_same {P : Int32 → Int32 → q_H → Prop} (hNC : q_NC g) {x out : Nat} {p0 p1 : Int32} {mc ms : Nat} (hx : T x = some (110, 0)) (hK : q_C g M_Lens_same [.ref x, .int p0, .int p1] (sz, T, I, R, J) mc ms (q_Xi [2] P)) (hO : ∀ r h', P 0 r h' → h'.2.1 out = some (1, 1)) : q_Ci g M_Law_same [.ref x, .int p0, .int p1, .ref out] (sz, T, I, R, J) mc ms (q_Wz out P) := by
  refine q_C.of (ls0 := [some (.ref x), some (.int p0), some (.int p1), some (.ref out), none]) (by decide) rfl (by decide) (Nat.le_of_ble_eq_true rfl) rfl ?_
  refine q_aload_n d_Law_same_0 rfl rfl ?_
  refine q_iconst (v := nI 0) d_Law_same_1 (by decide) ?_
  refine q_aload_n d_Law_same_2 rfl rfl ?_
  refine q_iload_n d_Law_same_3 rfl rfl ?_
  refine q_iload_n d_Law_same_4 rfl rfl ?_
  refine q_callV (M2 := M_Lens_same) d_Law_same_5 ⟨(Nat.le_of_ble_eq_true rfl), (Nat.le_of_ble_eq_true rfl), w_856, w_1, ⟨by decide, by decide⟩, show _ = some 2 by decide +kernel⟩ w_853 w_854 (ci := 10) rfl w_855 (by first | assumption | rfl | (simp (disch := omega) only [q_upT_self, q_upT_ne, q_upR_self, q_upR_nea, q_upR_nk, s_T_lo, s_T_hi, s_R_ne, *]; done) | (simp (disch := omega) only [q_upT_self, q_upT_ne, q_upR_self, q_upR_nea, q_upR_nk, s_T_lo, s_T_hi, s_R_ne, *]; rfl)) rfl (Nat.le_of_ble_eq_true rfl) (by omega) (by omega) (hK) (fun v h' z => ?_) (fun z9 h' z => ?_)
  · rcases z with ⟨r, e, hp⟩ | ⟨j, e, i, hj, e2, hp⟩
    · cases e
      obtain ⟨sz1, T1, I1, R1, J1⟩ := h'
      have hO1 : T1 out = some (1, 1) := hO _ _ hp
      refine q_if_eq (tgt := 15) d_Law_same_8 rfl (fun hc => ?_) (fun hc => ?_)
      · refine q_lconst (v := lN 0) d_Law_same_15 (by decide) ?_
        refine q_last d_Law_same_16 (by first | assumption | rfl | (simp (disch := omega) only [q_upT_self, q_upT_ne, q_upR_self, q_upR_nea, q_upR_nk, s_T_lo, s_T_hi, s_R_ne, *]; done) | (simp (disch := omega) only [q_upT_self, q_upT_ne, q_upR_self, q_upR_nea, q_upR_nk, s_T_lo, s_T_hi, s_R_ne, *]; rfl)) (by first | assumption | exact vp_in_nI (by omega) (by omega)) ?_
        refine q_goto (tgt := 24) d_Law_same_17 rfl ?_
        refine q_iconst (v := nI 0) d_Law_same_24 (by decide) ?_
        refine q_iret d_Law_same_25 rfl (by omega) (by omega) ?_
        exact ⟨_, rfl, Or.inl ⟨rfl, r, _, hp, by rw [if_pos hc]; rfl⟩⟩
      · refine q_lconst (v := lN 1) d_Law_same_11 (by decide) ?_
        refine q_goto (tgt := 16) d_Law_same_12 rfl ?_
        refine q_last d_Law_same_16 (by first | assumption | rfl | (simp (disch := omega) only [q_upT_self, q_upT_ne, q_upR_self, q_upR_nea, q_upR_nk, s_T_lo, s_T_hi, s_R_ne, *]; done) | (simp (disch := omega) only [q_upT_self, q_upT_ne, q_upR_self, q_upR_nea, q_upR_nk, s_T_lo, s_T_hi, s_R_ne, *]; rfl)) (by first | assumption | exact vp_in_nI (by omega) (by omega)) ?_
        refine q_goto (tgt := 24) d_Law_same_17 rfl ?_
        refine q_iconst (v := nI 0) d_Law_same_24 (by decide) ?_
        refine q_iret d_Law_same_25 rfl (by omega) (by omega) ?_
        exact ⟨_, rfl, Or.inl ⟨rfl, r, _, hp, by rw [if_neg hc]; rfl⟩⟩
    · cases e2
  · rcases z with ⟨r, e, hp⟩ | ⟨j, e, i, hj, e2, hp⟩
    · cases e
    · cases e2
      obtain ⟨sz1, T1, I1, R1, J1⟩ := h'
      rcases j with _ | j
      · cases hj
        refine q_VX.catch (pre := []) (y := ⟨0, 17, 20, 21⟩) (suf := []) (name := "java/lang/IndexOutOfBoundsException") rfl (by decide) (by decide) w_422 w_437 (fun z hz => nomatch hz) ?_
        refine q_astore d_Law_same_20 (Nat.le_of_ble_eq_true rfl) (by first | exact q_ok0 | exact q_okI rfl | exact q_okR rfl | exact q_okN rfl) rfl ?_
        refine q_iconst (v := nI 1) d_Law_same_22 (by decide) ?_
        refine q_iret d_Law_same_23 rfl (by omega) (by omega) ?_
        exact ⟨_, rfl, Or.inr ⟨by decide, hp⟩⟩
      · cases hj
theorem w_translate {P : Int32 → Int32 → q_H → Prop} (hNC : q_NC g) {x out : Nat} {p0 p1 : Int32} {mc ms : Nat} (hx : T x = some (110, 0)) (hK : q_C g M_Lens_translate [.ref x, .int p0, .int p1] (sz, T, I, R, J) mc ms (q_Xi [2, 0, 4] P)) (hO : ∀ r h', P 0 r h' → h'.2.1 out = some (1, 1)) : q_Ci g M_Law_translate [.ref x, .int p0, .int p1, .ref out] (sz, T, I, R, J) mc ms (q_Wi out P) := by
  refine q_C.of (ls0 := [some (.ref x), some (.int p0), some (.int p1), some (.ref out), none]) (by decide) rfl (by decide) (Nat.le_of_ble_eq_true rfl) rfl ?_
  refine q_aload_n d_Law_translate_0 rfl rfl ?_
  refine q_iconst (v := nI 0) d_Law_translate_1 (by decide) ?_
  refine q_aload_n d_Law_translate_2 rfl rfl ?_
  refine q_iload_n d_Law_translate_3 rfl rfl ?_
  refine q_iload_n d_Law_translate_4 rfl rfl ?_
  refine q_callV (M2 := M_Lens_translate) d_Law_translate_5 ⟨(Nat.le_of_ble_eq_true rfl), (Nat.le_of_ble_eq_true rfl), w_874, w_1, ⟨by decide, by decide⟩, show _ = some 2 by decide +kernel⟩ w_871 w_872 (ci := 10) rfl w_873 (by first | assumption | rfl | (simp (disch := omega) only [q_upT_self, q_upT_ne, q_upR_self, q_upR_nea, q_upR_nk, s_T_lo, s_T_hi, s_R_ne, *]; done) | (simp (disch := omega) only [q_upT_self, q_upT_ne, q_upR_self, q_upR_nea, q_upR_nk, s_T_lo, s_T_hi, s_R_ne, *]; rfl)) rfl (Nat.le_of_ble_eq_true rfl) (by omega) (by omega) (hK) (fun v h' z => ?_) (fun z9 h' z => ?_)
  · rcases z with ⟨r, e, hp⟩ | ⟨j, e, i, hj, e2, hp⟩
    · cases e
      obtain ⟨sz1, T1, I1, R1, J1⟩ := h'
      have hO1 : T1 out = some (1, 1) := hO _ _ hp
      refine q_i2l d_Law_translate_8 rfl ?_
      refine q_last d_Law_translate_9 (by first | assumption | rfl | (simp (disch := omega) only [q_upT_self, q_upT_ne, q_upR_self, q_upR_nea, q_upR_nk, s_T_lo, s_T_hi, s_R_ne, *]; done) | (simp (disch := omega) only [q_upT_self, q_upT_ne, q_upR_self, q_upR_nea, q_upR_nk, s_T_lo, s_T_hi, s_R_ne, *]; rfl)) (by first | assumption | exact vp_in_nI (by omega) (by omega)) ?_
      refine q_goto (tgt := 25) d_Law_translate_10 rfl ?_
      refine q_iconst (v := nI 0) d_Law_translate_25 (by decide) ?_
      refine q_iret d_Law_translate_26 rfl (by omega) (by omega) ?_
      exact ⟨_, rfl, Or.inl ⟨rfl, r, _, hp, rfl⟩⟩
    · cases e2
  · rcases z with ⟨r, e, hp⟩ | ⟨j, e, i, hj, e2, hp⟩
    · cases e
    · cases e2
      obtain ⟨sz1, T1, I1, R1, J1⟩ := h'
      rcases j with _ | j
      · cases hj
        refine q_VX.catch (pre := []) (y := ⟨0, 10, 13, 21⟩) (suf := [⟨0, 10, 17, 13⟩, ⟨0, 10, 21, 82⟩]) (name := "java/lang/IndexOutOfBoundsException") rfl (by decide) (by decide) w_422 w_437 (fun z hz => nomatch hz) ?_
        refine q_astore d_Law_translate_13 (Nat.le_of_ble_eq_true rfl) (by first | exact q_ok0 | exact q_okI rfl | exact q_okR rfl | exact q_okN rfl) rfl ?_
        refine q_iconst (v := nI 1) d_Law_translate_15 (by decide) ?_
        refine q_iret d_Law_translate_16 rfl (by omega) (by omega) ?_
        exact ⟨_, rfl, Or.inr ⟨by decide, hp⟩⟩
      rcases j with _ | j
      · cases hj
        refine q_VX.catch (pre := [⟨0, 10, 13, 21⟩]) (y := ⟨0, 10, 17, 13⟩) (suf := [⟨0, 10, 21, 82⟩]) (name := "java/lang/IllegalStateException") rfl (by decide) (by decide) w_301 w_309 (fun z hz => by
          rcases List.mem_cons.mp hz with rfl | hz
          · exact Or.inr ⟨by decide, _, w_422, hNC 0 2 (by decide) (by decide) (by decide)⟩
          cases hz) ?_
        refine q_astore d_Law_translate_17 (Nat.le_of_ble_eq_true rfl) (by first | exact q_ok0 | exact q_okI rfl | exact q_okR rfl | exact q_okN rfl) rfl ?_
        refine q_iconst (v := nI 2) d_Law_translate_19 (by decide) ?_
        refine q_iret d_Law_translate_20 rfl (by omega) (by omega) ?_
        exact ⟨_, rfl, Or.inr ⟨by decide, hp⟩⟩
      rcases j with _ | j
      · cases hj
        refine q_VX.catch (pre := [⟨0, 10, 13, 21⟩, ⟨0, 10, 17, 13⟩]) (y := ⟨0, 10, 21, 82⟩) (suf := []) (name := "java/lang/ArithmeticException") rfl (by decide) (by decide) w_870 w_1005 (fun z hz => by
          rcases List.mem_cons.mp hz with rfl | hz
          · exact Or.inr ⟨by decide, _, w_422, hNC 4 2 (by decide) (by decide) (by decide)⟩
          rcases List.mem_cons.mp hz with rfl | hz
          · exact Or.inr ⟨by decide, _, w_301, hNC 4 0 (by decide) (by decide) (by decide)⟩
          cases hz) ?_
        refine q_astore d_Law_translate_21 (Nat.le_of_ble_eq_true rfl) (by first | exact q_ok0 | exact q_okI rfl | exact q_okR rfl | exact q_okN rfl) rfl ?_
        refine q_iconst (v := nI 3) d_Law_translate_23 (by decide) ?_
        refine q_iret d_Law_translate_24 rfl (by omega) (by omega) ?_
        exact ⟨_, rfl, Or.inr ⟨by decide, hp⟩⟩
      · cases hj
theorem w_route {P : Int32 → Int32 → q_H → Prop} (hNC : q_NC g) {x out : Nat} {p0 p1 p2 : Int32} {mc ms : Nat} (hx : T x = some (110, 0)) (hK : q_C g M_Lens_route [.ref x, .int p0, .int p1, .int p2] (sz, T, I, R, J) mc ms (q_Xi [2] P)) (hO : ∀ r h', P 0 r h' → h'.2.1 out = some (1, 1)) : q_Ci g M_Law_route [.ref x, .int p0, .int p1, .int p2, .ref out] (sz, T, I, R, J) mc ms (q_Wi out P) := by
  refine q_C.of (ls0 := [some (.ref x), some (.int p0), some (.int p1), some (.int p2), some (.ref out), none]) (by decide) rfl (by decide) (Nat.le_of_ble_eq_true rfl) rfl ?_
  refine q_aload d_Law_route_0 rfl ?_
  refine q_iconst (v := nI 0) d_Law_route_2 (by decide) ?_
  refine q_aload_n d_Law_route_3 rfl rfl ?_
  refine q_iload_n d_Law_route_4 rfl rfl ?_
  refine q_iload_n d_Law_route_5 rfl rfl ?_
  refine q_iload_n d_Law_route_6 rfl rfl ?_
  refine q_callV (M2 := M_Lens_route) d_Law_route_7 ⟨(Nat.le_of_ble_eq_true rfl), (Nat.le_of_ble_eq_true rfl), w_1024, w_1, ⟨by decide, by decide⟩, show _ = some 3 by decide +kernel⟩ w_1021 w_1022 (ci := 10) rfl w_1023 (by first | assumption | rfl | (simp (disch := omega) only [q_upT_self, q_upT_ne, q_upR_self, q_upR_nea, q_upR_nk, s_T_lo, s_T_hi, s_R_ne, *]; done) | (simp (disch := omega) only [q_upT_self, q_upT_ne, q_upR_self, q_upR_nea, q_upR_nk, s_T_lo, s_T_hi, s_R_ne, *]; rfl)) rfl (Nat.le_of_ble_eq_true rfl) (by omega) (by omega) (hK) (fun v h' z => ?_) (fun z9 h' z => ?_)
  · rcases z with ⟨r, e, hp⟩ | ⟨j, e, i, hj, e2, hp⟩
    · cases e
      obtain ⟨sz1, T1, I1, R1, J1⟩ := h'
      have hO1 : T1 out = some (1, 1) := hO _ _ hp
      refine q_i2l d_Law_route_10 rfl ?_
      refine q_last d_Law_route_11 (by first | assumption | rfl | (simp (disch := omega) only [q_upT_self, q_upT_ne, q_upR_self, q_upR_nea, q_upR_nk, s_T_lo, s_T_hi, s_R_ne, *]; done) | (simp (disch := omega) only [q_upT_self, q_upT_ne, q_upR_self, q_upR_nea, q_upR_nk, s_T_lo, s_T_hi, s_R_ne, *]; rfl)) (by first | assumption | exact vp_in_nI (by omega) (by omega)) ?_
      refine q_goto (tgt := 19) d_Law_route_12 rfl ?_
      refine q_iconst (v := nI 0) d_Law_route_19 (by decide) ?_
      refine q_iret d_Law_route_20 rfl (by omega) (by omega) ?_
      exact ⟨_, rfl, Or.inl ⟨rfl, r, _, hp, rfl⟩⟩
    · cases e2
  · rcases z with ⟨r, e, hp⟩ | ⟨j, e, i, hj, e2, hp⟩
    · cases e
    · cases e2
      obtain ⟨sz1, T1, I1, R1, J1⟩ := h'
      rcases j with _ | j
      · cases hj
        refine q_VX.catch (pre := []) (y := ⟨0, 12, 15, 21⟩) (suf := []) (name := "java/lang/IndexOutOfBoundsException") rfl (by decide) (by decide) w_422 w_437 (fun z hz => nomatch hz) ?_
        refine q_astore d_Law_route_15 (Nat.le_of_ble_eq_true rfl) (by first | exact q_ok0 | exact q_okI rfl | exact q_okR rfl | exact q_okN rfl) rfl ?_
        refine q_iconst (v := nI 1) d_Law_route_17 (by decide) ?_
        refine q_iret d_Law_route_18 rfl (by omega) (by omega) ?_
        exact ⟨_, rfl, Or.inr ⟨by decide, hp⟩⟩
      · cases hj
theorem w_clash {P : Int32 → Int32 → q_H → Prop} (hNC : q_NC g) {x out : Nat} {p0 : Int32} {mc ms : Nat} (hx : T x = some (110, 0)) (hK : q_C g M_Lens_clash [.ref x, .int p0] (sz, T, I, R, J) mc ms (q_Xi [2] P)) (hO : ∀ r h', P 0 r h' → h'.2.1 out = some (1, 1)) : q_Ci g M_Law_clash [.ref x, .int p0, .ref out] (sz, T, I, R, J) mc ms (q_Wi out P) := by
  refine q_C.of (ls0 := [some (.ref x), some (.int p0), some (.ref out), none]) (by decide) rfl (by decide) (Nat.le_of_ble_eq_true rfl) rfl ?_
  refine q_aload_n d_Law_clash_0 rfl rfl ?_
  refine q_iconst (v := nI 0) d_Law_clash_1 (by decide) ?_
  refine q_aload_n d_Law_clash_2 rfl rfl ?_
  refine q_iload_n d_Law_clash_3 rfl rfl ?_
  refine q_callV (M2 := M_Lens_clash) d_Law_clash_4 ⟨(Nat.le_of_ble_eq_true rfl), (Nat.le_of_ble_eq_true rfl), w_1031, w_1, ⟨by decide, by decide⟩, show _ = some 1 by decide +kernel⟩ w_1028 w_1029 (ci := 10) rfl w_1030 (by first | assumption | rfl | (simp (disch := omega) only [q_upT_self, q_upT_ne, q_upR_self, q_upR_nea, q_upR_nk, s_T_lo, s_T_hi, s_R_ne, *]; done) | (simp (disch := omega) only [q_upT_self, q_upT_ne, q_upR_self, q_upR_nea, q_upR_nk, s_T_lo, s_T_hi, s_R_ne, *]; rfl)) rfl (Nat.le_of_ble_eq_true rfl) (by omega) (by omega) (hK) (fun v h' z => ?_) (fun z9 h' z => ?_)
  · rcases z with ⟨r, e, hp⟩ | ⟨j, e, i, hj, e2, hp⟩
    · cases e
      obtain ⟨sz1, T1, I1, R1, J1⟩ := h'
      have hO1 : T1 out = some (1, 1) := hO _ _ hp
      refine q_i2l d_Law_clash_7 rfl ?_
      refine q_last d_Law_clash_8 (by first | assumption | rfl | (simp (disch := omega) only [q_upT_self, q_upT_ne, q_upR_self, q_upR_nea, q_upR_nk, s_T_lo, s_T_hi, s_R_ne, *]; done) | (simp (disch := omega) only [q_upT_self, q_upT_ne, q_upR_self, q_upR_nea, q_upR_nk, s_T_lo, s_T_hi, s_R_ne, *]; rfl)) (by first | assumption | exact vp_in_nI (by omega) (by omega)) ?_
      refine q_goto (tgt := 15) d_Law_clash_9 rfl ?_
      refine q_iconst (v := nI 0) d_Law_clash_15 (by decide) ?_
      refine q_iret d_Law_clash_16 rfl (by omega) (by omega) ?_
      exact ⟨_, rfl, Or.inl ⟨rfl, r, _, hp, rfl⟩⟩
    · cases e2
  · rcases z with ⟨r, e, hp⟩ | ⟨j, e, i, hj, e2, hp⟩
    · cases e
    · cases e2
      obtain ⟨sz1, T1, I1, R1, J1⟩ := h'
      rcases j with _ | j
      · cases hj
        refine q_VX.catch (pre := []) (y := ⟨0, 9, 12, 21⟩) (suf := []) (name := "java/lang/IndexOutOfBoundsException") rfl (by decide) (by decide) w_422 w_437 (fun z hz => nomatch hz) ?_
        refine q_astore_n d_Law_clash_12 rfl (Nat.le_of_ble_eq_true rfl) (by first | exact q_ok0 | exact q_okI rfl | exact q_okR rfl | exact q_okN rfl) rfl ?_
        refine q_iconst (v := nI 1) d_Law_clash_13 (by decide) ?_
        refine q_iret d_Law_clash_14 rfl (by omega) (by omega) ?_
        exact ⟨_, rfl, Or.inr ⟨by decide, hp⟩⟩
      · cases hj
end LWrap
