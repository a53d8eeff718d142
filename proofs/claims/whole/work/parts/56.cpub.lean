/-! the public methods that read or change one record: the object's side -/
abbrev M_Lens_schemaOf : q_M := (⟨"LensPaths", "schemaOf", "(I)LLensPaths$Schema;"⟩, prog_1_method_31_code, 2, (some (.object "LensPaths$Schema")), "LensPaths", [], false, 0, 0)
theorem d_Lens_schemaOf_0 : decode prog_1_method_31_code 0 = .ok (.aload_n 0, 1) := by decide +kernel
theorem d_Lens_schemaOf_1 : decode prog_1_method_31_code 1 = .ok (.getfield 12, 3) := by decide +kernel
theorem d_Lens_schemaOf_4 : decode prog_1_method_31_code 4 = .ok (.getfield 48, 3) := by decide +kernel
theorem d_Lens_schemaOf_7 : decode prog_1_method_31_code 7 = .ok (.aload_n 0, 1) := by decide +kernel
theorem d_Lens_schemaOf_8 : decode prog_1_method_31_code 8 = .ok (.getfield 25, 3) := by decide +kernel
theorem d_Lens_schemaOf_11 : decode prog_1_method_31_code 11 = .ok (.iload_n 1, 1) := by decide +kernel
theorem d_Lens_schemaOf_12 : decode prog_1_method_31_code 12 = .ok (.aaload, 1) := by decide +kernel
theorem d_Lens_schemaOf_13 : decode prog_1_method_31_code 13 = .ok (.getfield 207, 3) := by decide +kernel
theorem d_Lens_schemaOf_16 : decode prog_1_method_31_code 16 = .ok (.aaload, 1) := by decide +kernel
theorem d_Lens_schemaOf_17 : decode prog_1_method_31_code 17 = .ok (.areturn, 1) := by decide +kernel
abbrev M_Lens_placeOf : q_M := (⟨"LensPaths", "placeOf", "(III)I"⟩, prog_1_method_32_code, 6, (some .int), "LensPaths", [], false, 6, 90)
theorem d_Lens_placeOf_0 : decode prog_1_method_32_code 0 = .ok (.aload_n 0, 1) := by decide +kernel
theorem d_Lens_placeOf_1 : decode prog_1_method_32_code 1 = .ok (.iload_n 1, 1) := by decide +kernel
theorem d_Lens_placeOf_2 : decode prog_1_method_32_code 2 = .ok (.invokevirtual 177, 3) := by decide +kernel
theorem d_Lens_placeOf_5 : decode prog_1_method_32_code 5 = .ok (.astore 4, 2) := by decide +kernel
theorem d_Lens_placeOf_7 : decode prog_1_method_32_code 7 = .ok (.aload 4, 2) := by decide +kernel
theorem d_Lens_placeOf_9 : decode prog_1_method_32_code 9 = .ok (.iload_n 2, 1) := by decide +kernel
theorem d_Lens_placeOf_10 : decode prog_1_method_32_code 10 = .ok (.invokestatic 65, 3) := by decide +kernel
theorem d_Lens_placeOf_13 : decode prog_1_method_32_code 13 = .ok (.invokevirtual 131, 3) := by decide +kernel
theorem d_Lens_placeOf_16 : decode prog_1_method_32_code 16 = .ok (.istore 5, 2) := by decide +kernel
theorem d_Lens_placeOf_18 : decode prog_1_method_32_code 18 = .ok (.iload 5, 2) := by decide +kernel
theorem d_Lens_placeOf_20 : decode prog_1_method_32_code 20 = .ok (.iconst (-1), 1) := by decide +kernel
theorem d_Lens_placeOf_21 : decode prog_1_method_32_code 21 = .ok (.if_icmp .eq 18, 3) := by decide +kernel
theorem d_Lens_placeOf_24 : decode prog_1_method_32_code 24 = .ok (.aload 4, 2) := by decide +kernel
theorem d_Lens_placeOf_26 : decode prog_1_method_32_code 26 = .ok (.getfield 134, 3) := by decide +kernel
theorem d_Lens_placeOf_29 : decode prog_1_method_32_code 29 = .ok (.iload 5, 2) := by decide +kernel
theorem d_Lens_placeOf_31 : decode prog_1_method_32_code 31 = .ok (.aaload, 1) := by decide +kernel
theorem d_Lens_placeOf_32 : decode prog_1_method_32_code 32 = .ok (.getfield 138, 3) := by decide +kernel
theorem d_Lens_placeOf_35 : decode prog_1_method_32_code 35 = .ok (.iload_n 3, 1) := by decide +kernel
theorem d_Lens_placeOf_36 : decode prog_1_method_32_code 36 = .ok (.if_icmp .eq 11, 3) := by decide +kernel
theorem d_Lens_placeOf_39 : decode prog_1_method_32_code 39 = .ok (.new 79, 3) := by decide +kernel
theorem d_Lens_placeOf_42 : decode prog_1_method_32_code 42 = .ok (.dup, 1) := by decide +kernel
theorem d_Lens_placeOf_43 : decode prog_1_method_32_code 43 = .ok (.invokespecial 81, 3) := by decide +kernel
theorem d_Lens_placeOf_46 : decode prog_1_method_32_code 46 = .ok (.athrow, 1) := by decide +kernel
theorem d_Lens_placeOf_47 : decode prog_1_method_32_code 47 = .ok (.iload 5, 2) := by decide +kernel
theorem d_Lens_placeOf_49 : decode prog_1_method_32_code 49 = .ok (.ireturn, 1) := by decide +kernel
abbrev M_Lens_version : q_M := (⟨"LensPaths", "version", "(I)I"⟩, prog_1_method_18_code, 2, (some .int), "LensPaths", [], false, 7, 111)
theorem d_Lens_version_0 : decode prog_1_method_18_code 0 = .ok (.aload_n 0, 1) := by decide +kernel
theorem d_Lens_version_1 : decode prog_1_method_18_code 1 = .ok (.iload_n 1, 1) := by decide +kernel
theorem d_Lens_version_2 : decode prog_1_method_18_code 2 = .ok (.invokevirtual 163, 3) := by decide +kernel
theorem d_Lens_version_5 : decode prog_1_method_18_code 5 = .ok (.aload_n 0, 1) := by decide +kernel
theorem d_Lens_version_6 : decode prog_1_method_18_code 6 = .ok (.getfield 25, 3) := by decide +kernel
theorem d_Lens_version_9 : decode prog_1_method_18_code 9 = .ok (.iload_n 1, 1) := by decide +kernel
theorem d_Lens_version_10 : decode prog_1_method_18_code 10 = .ok (.aaload, 1) := by decide +kernel
theorem d_Lens_version_11 : decode prog_1_method_18_code 11 = .ok (.getfield 207, 3) := by decide +kernel
theorem d_Lens_version_14 : decode prog_1_method_18_code 14 = .ok (.ireturn, 1) := by decide +kernel
abbrev M_Lens_kept : q_M := (⟨"LensPaths", "kept", "(I)I"⟩, prog_1_method_19_code, 2, (some .int), "LensPaths", [], false, 7, 111)
theorem d_Lens_kept_0 : decode prog_1_method_19_code 0 = .ok (.aload_n 0, 1) := by decide +kernel
theorem d_Lens_kept_1 : decode prog_1_method_19_code 1 = .ok (.iload_n 1, 1) := by decide +kernel
theorem d_Lens_kept_2 : decode prog_1_method_19_code 2 = .ok (.invokevirtual 163, 3) := by decide +kernel
theorem d_Lens_kept_5 : decode prog_1_method_19_code 5 = .ok (.aload_n 0, 1) := by decide +kernel
theorem d_Lens_kept_6 : decode prog_1_method_19_code 6 = .ok (.getfield 25, 3) := by decide +kernel
theorem d_Lens_kept_9 : decode prog_1_method_19_code 9 = .ok (.iload_n 1, 1) := by decide +kernel
theorem d_Lens_kept_10 : decode prog_1_method_19_code 10 = .ok (.aaload, 1) := by decide +kernel
theorem d_Lens_kept_11 : decode prog_1_method_19_code 11 = .ok (.invokevirtual 210, 3) := by decide +kernel
theorem d_Lens_kept_14 : decode prog_1_method_19_code 14 = .ok (.ireturn, 1) := by decide +kernel
abbrev M_Lens_drop : q_M := (⟨"LensPaths", "drop", "(I)V"⟩, prog_1_method_11_code, 2, none, "LensPaths", [], false, 7, 111)
theorem d_Lens_drop_0 : decode prog_1_method_11_code 0 = .ok (.aload_n 0, 1) := by decide +kernel
theorem d_Lens_drop_1 : decode prog_1_method_11_code 1 = .ok (.iload_n 1, 1) := by decide +kernel
theorem d_Lens_drop_2 : decode prog_1_method_11_code 2 = .ok (.invokevirtual 163, 3) := by decide +kernel
theorem d_Lens_drop_5 : decode prog_1_method_11_code 5 = .ok (.aload_n 0, 1) := by decide +kernel
theorem d_Lens_drop_6 : decode prog_1_method_11_code 6 = .ok (.getfield 25, 3) := by decide +kernel
theorem d_Lens_drop_9 : decode prog_1_method_11_code 9 = .ok (.iload_n 1, 1) := by decide +kernel
theorem d_Lens_drop_10 : decode prog_1_method_11_code 10 = .ok (.aaload, 1) := by decide +kernel
theorem d_Lens_drop_11 : decode prog_1_method_11_code 11 = .ok (.iconst 0, 1) := by decide +kernel
theorem d_Lens_drop_12 : decode prog_1_method_11_code 12 = .ok (.putfield 170, 3) := by decide +kernel
theorem d_Lens_drop_15 : decode prog_1_method_11_code 15 = .ok (.return_, 1) := by decide +kernel
abbrev M_Lens_get : q_M := (⟨"LensPaths", "get", "(II)I"⟩, prog_1_method_15_code, 3, (some .int), "LensPaths", [], false, 7, 115)
theorem d_Lens_get_0 : decode prog_1_method_15_code 0 = .ok (.aload_n 0, 1) := by decide +kernel
theorem d_Lens_get_1 : decode prog_1_method_15_code 1 = .ok (.iload_n 1, 1) := by decide +kernel
theorem d_Lens_get_2 : decode prog_1_method_15_code 2 = .ok (.invokevirtual 163, 3) := by decide +kernel
theorem d_Lens_get_5 : decode prog_1_method_15_code 5 = .ok (.aload_n 0, 1) := by decide +kernel
theorem d_Lens_get_6 : decode prog_1_method_15_code 6 = .ok (.getfield 25, 3) := by decide +kernel
theorem d_Lens_get_9 : decode prog_1_method_15_code 9 = .ok (.iload_n 1, 1) := by decide +kernel
theorem d_Lens_get_10 : decode prog_1_method_15_code 10 = .ok (.aaload, 1) := by decide +kernel
theorem d_Lens_get_11 : decode prog_1_method_15_code 11 = .ok (.getfield 184, 3) := by decide +kernel
theorem d_Lens_get_14 : decode prog_1_method_15_code 14 = .ok (.aload_n 0, 1) := by decide +kernel
theorem d_Lens_get_15 : decode prog_1_method_15_code 15 = .ok (.iload_n 1, 1) := by decide +kernel
theorem d_Lens_get_16 : decode prog_1_method_15_code 16 = .ok (.iload_n 2, 1) := by decide +kernel
theorem d_Lens_get_17 : decode prog_1_method_15_code 17 = .ok (.iconst 0, 1) := by decide +kernel
theorem d_Lens_get_18 : decode prog_1_method_15_code 18 = .ok (.invokevirtual 173, 3) := by decide +kernel
theorem d_Lens_get_21 : decode prog_1_method_15_code 21 = .ok (.iconst 0, 1) := by decide +kernel
theorem d_Lens_get_22 : decode prog_1_method_15_code 22 = .ok (.invokevirtual 203, 3) := by decide +kernel
theorem d_Lens_get_25 : decode prog_1_method_15_code 25 = .ok (.ireturn, 1) := by decide +kernel
abbrev M_Lens_size : q_M := (⟨"LensPaths", "size", "(II)I"⟩, prog_1_method_16_code, 3, (some .int), "LensPaths", [], false, 7, 115)
theorem d_Lens_size_0 : decode prog_1_method_16_code 0 = .ok (.aload_n 0, 1) := by decide +kernel
theorem d_Lens_size_1 : decode prog_1_method_16_code 1 = .ok (.iload_n 1, 1) := by decide +kernel
theorem d_Lens_size_2 : decode prog_1_method_16_code 2 = .ok (.invokevirtual 163, 3) := by decide +kernel
theorem d_Lens_size_5 : decode prog_1_method_16_code 5 = .ok (.aload_n 0, 1) := by decide +kernel
theorem d_Lens_size_6 : decode prog_1_method_16_code 6 = .ok (.getfield 25, 3) := by decide +kernel
theorem d_Lens_size_9 : decode prog_1_method_16_code 9 = .ok (.iload_n 1, 1) := by decide +kernel
theorem d_Lens_size_10 : decode prog_1_method_16_code 10 = .ok (.aaload, 1) := by decide +kernel
theorem d_Lens_size_11 : decode prog_1_method_16_code 11 = .ok (.getfield 184, 3) := by decide +kernel
theorem d_Lens_size_14 : decode prog_1_method_16_code 14 = .ok (.aload_n 0, 1) := by decide +kernel
theorem d_Lens_size_15 : decode prog_1_method_16_code 15 = .ok (.iload_n 1, 1) := by decide +kernel
theorem d_Lens_size_16 : decode prog_1_method_16_code 16 = .ok (.iload_n 2, 1) := by decide +kernel
theorem d_Lens_size_17 : decode prog_1_method_16_code 17 = .ok (.iconst 1, 1) := by decide +kernel
theorem d_Lens_size_18 : decode prog_1_method_16_code 18 = .ok (.invokevirtual 173, 3) := by decide +kernel
theorem d_Lens_size_21 : decode prog_1_method_16_code 21 = .ok (.invokevirtual 193, 3) := by decide +kernel
theorem d_Lens_size_24 : decode prog_1_method_16_code 24 = .ok (.ireturn, 1) := by decide +kernel
abbrev M_Lens_item : q_M := (⟨"LensPaths", "item", "(III)I"⟩, prog_1_method_17_code, 5, (some .int), "LensPaths", [], false, 7, 115)
theorem d_Lens_item_0 : decode prog_1_method_17_code 0 = .ok (.aload_n 0, 1) := by decide +kernel
theorem d_Lens_item_1 : decode prog_1_method_17_code 1 = .ok (.iload_n 1, 1) := by decide +kernel
theorem d_Lens_item_2 : decode prog_1_method_17_code 2 = .ok (.invokevirtual 163, 3) := by decide +kernel
theorem d_Lens_item_5 : decode prog_1_method_17_code 5 = .ok (.aload_n 0, 1) := by decide +kernel
theorem d_Lens_item_6 : decode prog_1_method_17_code 6 = .ok (.iload_n 1, 1) := by decide +kernel
theorem d_Lens_item_7 : decode prog_1_method_17_code 7 = .ok (.iload_n 2, 1) := by decide +kernel
theorem d_Lens_item_8 : decode prog_1_method_17_code 8 = .ok (.iconst 1, 1) := by decide +kernel
theorem d_Lens_item_9 : decode prog_1_method_17_code 9 = .ok (.invokevirtual 173, 3) := by decide +kernel
theorem d_Lens_item_12 : decode prog_1_method_17_code 12 = .ok (.istore 4, 2) := by decide +kernel
theorem d_Lens_item_14 : decode prog_1_method_17_code 14 = .ok (.iload_n 3, 1) := by decide +kernel
theorem d_Lens_item_15 : decode prog_1_method_17_code 15 = .ok (.ifCond .lt 21, 3) := by decide +kernel
theorem d_Lens_item_18 : decode prog_1_method_17_code 18 = .ok (.iload_n 3, 1) := by decide +kernel
theorem d_Lens_item_19 : decode prog_1_method_17_code 19 = .ok (.aload_n 0, 1) := by decide +kernel
theorem d_Lens_item_20 : decode prog_1_method_17_code 20 = .ok (.getfield 25, 3) := by decide +kernel
theorem d_Lens_item_23 : decode prog_1_method_17_code 23 = .ok (.iload_n 1, 1) := by decide +kernel
theorem d_Lens_item_24 : decode prog_1_method_17_code 24 = .ok (.aaload, 1) := by decide +kernel
theorem d_Lens_item_25 : decode prog_1_method_17_code 25 = .ok (.getfield 184, 3) := by decide +kernel
theorem d_Lens_item_28 : decode prog_1_method_17_code 28 = .ok (.iload 4, 2) := by decide +kernel
theorem d_Lens_item_30 : decode prog_1_method_17_code 30 = .ok (.invokevirtual 193, 3) := by decide +kernel
theorem d_Lens_item_33 : decode prog_1_method_17_code 33 = .ok (.if_icmp .lt 11, 3) := by decide +kernel
theorem d_Lens_item_36 : decode prog_1_method_17_code 36 = .ok (.new 79, 3) := by decide +kernel
theorem d_Lens_item_39 : decode prog_1_method_17_code 39 = .ok (.dup, 1) := by decide +kernel
theorem d_Lens_item_40 : decode prog_1_method_17_code 40 = .ok (.invokespecial 81, 3) := by decide +kernel
theorem d_Lens_item_43 : decode prog_1_method_17_code 43 = .ok (.athrow, 1) := by decide +kernel
theorem d_Lens_item_44 : decode prog_1_method_17_code 44 = .ok (.aload_n 0, 1) := by decide +kernel
theorem d_Lens_item_45 : decode prog_1_method_17_code 45 = .ok (.getfield 25, 3) := by decide +kernel
theorem d_Lens_item_48 : decode prog_1_method_17_code 48 = .ok (.iload_n 1, 1) := by decide +kernel
theorem d_Lens_item_49 : decode prog_1_method_17_code 49 = .ok (.aaload, 1) := by decide +kernel
theorem d_Lens_item_50 : decode prog_1_method_17_code 50 = .ok (.getfield 184, 3) := by decide +kernel
theorem d_Lens_item_53 : decode prog_1_method_17_code 53 = .ok (.iload 4, 2) := by decide +kernel
theorem d_Lens_item_55 : decode prog_1_method_17_code 55 = .ok (.iload_n 3, 1) := by decide +kernel
theorem d_Lens_item_56 : decode prog_1_method_17_code 56 = .ok (.invokevirtual 203, 3) := by decide +kernel
theorem d_Lens_item_59 : decode prog_1_method_17_code 59 = .ok (.ireturn, 1) := by decide +kernel
abbrev M_Lens_set : q_M := (⟨"LensPaths", "set", "(III)V"⟩, prog_1_method_12_code, 5, none, "LensPaths", [], false, 7, 115)
theorem d_Lens_set_0 : decode prog_1_method_12_code 0 = .ok (.aload_n 0, 1) := by decide +kernel
theorem d_Lens_set_1 : decode prog_1_method_12_code 1 = .ok (.iload_n 1, 1) := by decide +kernel
theorem d_Lens_set_2 : decode prog_1_method_12_code 2 = .ok (.invokevirtual 163, 3) := by decide +kernel
theorem d_Lens_set_5 : decode prog_1_method_12_code 5 = .ok (.aload_n 0, 1) := by decide +kernel
theorem d_Lens_set_6 : decode prog_1_method_12_code 6 = .ok (.iload_n 1, 1) := by decide +kernel
theorem d_Lens_set_7 : decode prog_1_method_12_code 7 = .ok (.iload_n 2, 1) := by decide +kernel
theorem d_Lens_set_8 : decode prog_1_method_12_code 8 = .ok (.iconst 0, 1) := by decide +kernel
theorem d_Lens_set_9 : decode prog_1_method_12_code 9 = .ok (.invokevirtual 173, 3) := by decide +kernel
theorem d_Lens_set_12 : decode prog_1_method_12_code 12 = .ok (.istore 4, 2) := by decide +kernel
theorem d_Lens_set_14 : decode prog_1_method_12_code 14 = .ok (.aload_n 0, 1) := by decide +kernel
theorem d_Lens_set_15 : decode prog_1_method_12_code 15 = .ok (.iload_n 1, 1) := by decide +kernel
theorem d_Lens_set_16 : decode prog_1_method_12_code 16 = .ok (.invokevirtual 177, 3) := by decide +kernel
theorem d_Lens_set_19 : decode prog_1_method_12_code 19 = .ok (.getfield 134, 3) := by decide +kernel
theorem d_Lens_set_22 : decode prog_1_method_12_code 22 = .ok (.iload 4, 2) := by decide +kernel
theorem d_Lens_set_24 : decode prog_1_method_12_code 24 = .ok (.aaload, 1) := by decide +kernel
theorem d_Lens_set_25 : decode prog_1_method_12_code 25 = .ok (.iload_n 3, 1) := by decide +kernel
theorem d_Lens_set_26 : decode prog_1_method_12_code 26 = .ok (.invokevirtual 181, 3) := by decide +kernel
theorem d_Lens_set_29 : decode prog_1_method_12_code 29 = .ok (.ifCond .ne 11, 3) := by decide +kernel
theorem d_Lens_set_32 : decode prog_1_method_12_code 32 = .ok (.new 79, 3) := by decide +kernel
theorem d_Lens_set_35 : decode prog_1_method_12_code 35 = .ok (.dup, 1) := by decide +kernel
theorem d_Lens_set_36 : decode prog_1_method_12_code 36 = .ok (.invokespecial 81, 3) := by decide +kernel
theorem d_Lens_set_39 : decode prog_1_method_12_code 39 = .ok (.athrow, 1) := by decide +kernel
theorem d_Lens_set_40 : decode prog_1_method_12_code 40 = .ok (.aload_n 0, 1) := by decide +kernel
theorem d_Lens_set_41 : decode prog_1_method_12_code 41 = .ok (.getfield 25, 3) := by decide +kernel
theorem d_Lens_set_44 : decode prog_1_method_12_code 44 = .ok (.iload_n 1, 1) := by decide +kernel
theorem d_Lens_set_45 : decode prog_1_method_12_code 45 = .ok (.aaload, 1) := by decide +kernel
theorem d_Lens_set_46 : decode prog_1_method_12_code 46 = .ok (.getfield 184, 3) := by decide +kernel
theorem d_Lens_set_49 : decode prog_1_method_12_code 49 = .ok (.iload 4, 2) := by decide +kernel
theorem d_Lens_set_51 : decode prog_1_method_12_code 51 = .ok (.iload_n 3, 1) := by decide +kernel
theorem d_Lens_set_52 : decode prog_1_method_12_code 52 = .ok (.invokevirtual 187, 3) := by decide +kernel
theorem d_Lens_set_55 : decode prog_1_method_12_code 55 = .ok (.return_, 1) := by decide +kernel
abbrev M_Lens_cut : q_M := (⟨"LensPaths", "cut", "(III)V"⟩, prog_1_method_14_code, 5, none, "LensPaths", [], false, 7, 115)
theorem d_Lens_cut_0 : decode prog_1_method_14_code 0 = .ok (.aload_n 0, 1) := by decide +kernel
theorem d_Lens_cut_1 : decode prog_1_method_14_code 1 = .ok (.iload_n 1, 1) := by decide +kernel
theorem d_Lens_cut_2 : decode prog_1_method_14_code 2 = .ok (.invokevirtual 163, 3) := by decide +kernel
theorem d_Lens_cut_5 : decode prog_1_method_14_code 5 = .ok (.aload_n 0, 1) := by decide +kernel
theorem d_Lens_cut_6 : decode prog_1_method_14_code 6 = .ok (.iload_n 1, 1) := by decide +kernel
theorem d_Lens_cut_7 : decode prog_1_method_14_code 7 = .ok (.iload_n 2, 1) := by decide +kernel
theorem d_Lens_cut_8 : decode prog_1_method_14_code 8 = .ok (.iconst 1, 1) := by decide +kernel
theorem d_Lens_cut_9 : decode prog_1_method_14_code 9 = .ok (.invokevirtual 173, 3) := by decide +kernel
theorem d_Lens_cut_12 : decode prog_1_method_14_code 12 = .ok (.istore 4, 2) := by decide +kernel
theorem d_Lens_cut_14 : decode prog_1_method_14_code 14 = .ok (.iload_n 3, 1) := by decide +kernel
theorem d_Lens_cut_15 : decode prog_1_method_14_code 15 = .ok (.ifCond .lt 21, 3) := by decide +kernel
theorem d_Lens_cut_18 : decode prog_1_method_14_code 18 = .ok (.iload_n 3, 1) := by decide +kernel
theorem d_Lens_cut_19 : decode prog_1_method_14_code 19 = .ok (.aload_n 0, 1) := by decide +kernel
theorem d_Lens_cut_20 : decode prog_1_method_14_code 20 = .ok (.getfield 25, 3) := by decide +kernel
theorem d_Lens_cut_23 : decode prog_1_method_14_code 23 = .ok (.iload_n 1, 1) := by decide +kernel
theorem d_Lens_cut_24 : decode prog_1_method_14_code 24 = .ok (.aaload, 1) := by decide +kernel
theorem d_Lens_cut_25 : decode prog_1_method_14_code 25 = .ok (.getfield 184, 3) := by decide +kernel
theorem d_Lens_cut_28 : decode prog_1_method_14_code 28 = .ok (.iload 4, 2) := by decide +kernel
theorem d_Lens_cut_30 : decode prog_1_method_14_code 30 = .ok (.invokevirtual 193, 3) := by decide +kernel
theorem d_Lens_cut_33 : decode prog_1_method_14_code 33 = .ok (.if_icmp .le 11, 3) := by decide +kernel
theorem d_Lens_cut_36 : decode prog_1_method_14_code 36 = .ok (.new 79, 3) := by decide +kernel
theorem d_Lens_cut_39 : decode prog_1_method_14_code 39 = .ok (.dup, 1) := by decide +kernel
theorem d_Lens_cut_40 : decode prog_1_method_14_code 40 = .ok (.invokespecial 81, 3) := by decide +kernel
theorem d_Lens_cut_43 : decode prog_1_method_14_code 43 = .ok (.athrow, 1) := by decide +kernel
theorem d_Lens_cut_44 : decode prog_1_method_14_code 44 = .ok (.aload_n 0, 1) := by decide +kernel
theorem d_Lens_cut_45 : decode prog_1_method_14_code 45 = .ok (.getfield 25, 3) := by decide +kernel
theorem d_Lens_cut_48 : decode prog_1_method_14_code 48 = .ok (.iload_n 1, 1) := by decide +kernel
theorem d_Lens_cut_49 : decode prog_1_method_14_code 49 = .ok (.aaload, 1) := by decide +kernel
theorem d_Lens_cut_50 : decode prog_1_method_14_code 50 = .ok (.getfield 184, 3) := by decide +kernel
theorem d_Lens_cut_53 : decode prog_1_method_14_code 53 = .ok (.iload 4, 2) := by decide +kernel
theorem d_Lens_cut_55 : decode prog_1_method_14_code 55 = .ok (.iload_n 3, 1) := by decide +kernel
theorem d_Lens_cut_56 : decode prog_1_method_14_code 56 = .ok (.invokevirtual 196, 3) := by decide +kernel
theorem d_Lens_cut_59 : decode prog_1_method_14_code 59 = .ok (.return_, 1) := by decide +kernel
abbrev M_Lens_put : q_M := (⟨"LensPaths", "put", "(IIII)I"⟩, prog_1_method_13_code, 8, (some .int), "LensPaths", [], false, 7, 115)
theorem d_Lens_put_0 : decode prog_1_method_13_code 0 = .ok (.aload_n 0, 1) := by decide +kernel
theorem d_Lens_put_1 : decode prog_1_method_13_code 1 = .ok (.iload_n 1, 1) := by decide +kernel
theorem d_Lens_put_2 : decode prog_1_method_13_code 2 = .ok (.invokevirtual 163, 3) := by decide +kernel
theorem d_Lens_put_5 : decode prog_1_method_13_code 5 = .ok (.aload_n 0, 1) := by decide +kernel
theorem d_Lens_put_6 : decode prog_1_method_13_code 6 = .ok (.iload_n 1, 1) := by decide +kernel
theorem d_Lens_put_7 : decode prog_1_method_13_code 7 = .ok (.iload_n 2, 1) := by decide +kernel
theorem d_Lens_put_8 : decode prog_1_method_13_code 8 = .ok (.iconst 1, 1) := by decide +kernel
theorem d_Lens_put_9 : decode prog_1_method_13_code 9 = .ok (.invokevirtual 173, 3) := by decide +kernel
theorem d_Lens_put_12 : decode prog_1_method_13_code 12 = .ok (.istore 5, 2) := by decide +kernel
theorem d_Lens_put_14 : decode prog_1_method_13_code 14 = .ok (.aload_n 0, 1) := by decide +kernel
theorem d_Lens_put_15 : decode prog_1_method_13_code 15 = .ok (.getfield 25, 3) := by decide +kernel
theorem d_Lens_put_18 : decode prog_1_method_13_code 18 = .ok (.iload_n 1, 1) := by decide +kernel
theorem d_Lens_put_19 : decode prog_1_method_13_code 19 = .ok (.aaload, 1) := by decide +kernel
theorem d_Lens_put_20 : decode prog_1_method_13_code 20 = .ok (.getfield 184, 3) := by decide +kernel
theorem d_Lens_put_23 : decode prog_1_method_13_code 23 = .ok (.astore 6, 2) := by decide +kernel
theorem d_Lens_put_25 : decode prog_1_method_13_code 25 = .ok (.iload_n 3, 1) := by decide +kernel
theorem d_Lens_put_26 : decode prog_1_method_13_code 26 = .ok (.ifCond .lt 24, 3) := by decide +kernel
theorem d_Lens_put_29 : decode prog_1_method_13_code 29 = .ok (.iload_n 3, 1) := by decide +kernel
theorem d_Lens_put_30 : decode prog_1_method_13_code 30 = .ok (.aload 6, 2) := by decide +kernel
theorem d_Lens_put_32 : decode prog_1_method_13_code 32 = .ok (.iload 5, 2) := by decide +kernel
theorem d_Lens_put_34 : decode prog_1_method_13_code 34 = .ok (.invokevirtual 193, 3) := by decide +kernel
theorem d_Lens_put_37 : decode prog_1_method_13_code 37 = .ok (.if_icmp .gt 13, 3) := by decide +kernel
theorem d_Lens_put_40 : decode prog_1_method_13_code 40 = .ok (.iload_n 3, 1) := by decide +kernel
theorem d_Lens_put_41 : decode prog_1_method_13_code 41 = .ok (.bipush 6, 2) := by decide +kernel
theorem d_Lens_put_43 : decode prog_1_method_13_code 43 = .ok (.if_icmp .ge 7, 3) := by decide +kernel
theorem d_Lens_put_46 : decode prog_1_method_13_code 46 = .ok (.iconst 1, 1) := by decide +kernel
theorem d_Lens_put_47 : decode prog_1_method_13_code 47 = .ok (.goto 4, 3) := by decide +kernel
theorem d_Lens_put_50 : decode prog_1_method_13_code 50 = .ok (.iconst 0, 1) := by decide +kernel
theorem d_Lens_put_51 : decode prog_1_method_13_code 51 = .ok (.istore 7, 2) := by decide +kernel
theorem d_Lens_put_53 : decode prog_1_method_13_code 53 = .ok (.iload 7, 2) := by decide +kernel
theorem d_Lens_put_55 : decode prog_1_method_13_code 55 = .ok (.ifCond .eq 22, 3) := by decide +kernel
theorem d_Lens_put_58 : decode prog_1_method_13_code 58 = .ok (.aload_n 0, 1) := by decide +kernel
theorem d_Lens_put_59 : decode prog_1_method_13_code 59 = .ok (.iload_n 1, 1) := by decide +kernel
theorem d_Lens_put_60 : decode prog_1_method_13_code 60 = .ok (.invokevirtual 177, 3) := by decide +kernel
theorem d_Lens_put_63 : decode prog_1_method_13_code 63 = .ok (.getfield 134, 3) := by decide +kernel
theorem d_Lens_put_66 : decode prog_1_method_13_code 66 = .ok (.iload 5, 2) := by decide +kernel
theorem d_Lens_put_68 : decode prog_1_method_13_code 68 = .ok (.aaload, 1) := by decide +kernel
theorem d_Lens_put_69 : decode prog_1_method_13_code 69 = .ok (.iload 4, 2) := by decide +kernel
theorem d_Lens_put_71 : decode prog_1_method_13_code 71 = .ok (.invokevirtual 181, 3) := by decide +kernel
theorem d_Lens_put_74 : decode prog_1_method_13_code 74 = .ok (.ifCond .ne 11, 3) := by decide +kernel
theorem d_Lens_put_77 : decode prog_1_method_13_code 77 = .ok (.new 79, 3) := by decide +kernel
theorem d_Lens_put_80 : decode prog_1_method_13_code 80 = .ok (.dup, 1) := by decide +kernel
theorem d_Lens_put_81 : decode prog_1_method_13_code 81 = .ok (.invokespecial 81, 3) := by decide +kernel
theorem d_Lens_put_84 : decode prog_1_method_13_code 84 = .ok (.athrow, 1) := by decide +kernel
theorem d_Lens_put_85 : decode prog_1_method_13_code 85 = .ok (.iload_n 3, 1) := by decide +kernel
theorem d_Lens_put_86 : decode prog_1_method_13_code 86 = .ok (.aload 6, 2) := by decide +kernel
theorem d_Lens_put_88 : decode prog_1_method_13_code 88 = .ok (.iload 5, 2) := by decide +kernel
theorem d_Lens_put_90 : decode prog_1_method_13_code 90 = .ok (.invokevirtual 193, 3) := by decide +kernel
theorem d_Lens_put_93 : decode prog_1_method_13_code 93 = .ok (.if_icmp .ne 13, 3) := by decide +kernel
theorem d_Lens_put_96 : decode prog_1_method_13_code 96 = .ok (.aload 6, 2) := by decide +kernel
theorem d_Lens_put_98 : decode prog_1_method_13_code 98 = .ok (.iload 5, 2) := by decide +kernel
theorem d_Lens_put_100 : decode prog_1_method_13_code 100 = .ok (.iload_n 3, 1) := by decide +kernel
theorem d_Lens_put_101 : decode prog_1_method_13_code 101 = .ok (.iconst 1, 1) := by decide +kernel
theorem d_Lens_put_102 : decode prog_1_method_13_code 102 = .ok (.iadd, 1) := by decide +kernel
theorem d_Lens_put_103 : decode prog_1_method_13_code 103 = .ok (.invokevirtual 196, 3) := by decide +kernel
theorem d_Lens_put_106 : decode prog_1_method_13_code 106 = .ok (.aload 6, 2) := by decide +kernel
theorem d_Lens_put_108 : decode prog_1_method_13_code 108 = .ok (.iload 5, 2) := by decide +kernel
theorem d_Lens_put_110 : decode prog_1_method_13_code 110 = .ok (.iload_n 3, 1) := by decide +kernel
theorem d_Lens_put_111 : decode prog_1_method_13_code 111 = .ok (.iload 4, 2) := by decide +kernel
theorem d_Lens_put_113 : decode prog_1_method_13_code 113 = .ok (.invokevirtual 199, 3) := by decide +kernel
theorem d_Lens_put_116 : decode prog_1_method_13_code 116 = .ok (.aload 6, 2) := by decide +kernel
theorem d_Lens_put_118 : decode prog_1_method_13_code 118 = .ok (.iload 5, 2) := by decide +kernel
theorem d_Lens_put_120 : decode prog_1_method_13_code 120 = .ok (.invokevirtual 193, 3) := by decide +kernel
theorem d_Lens_put_123 : decode prog_1_method_13_code 123 = .ok (.ireturn, 1) := by decide +kernel
abbrev M_Lens_same : q_M := (⟨"LensPaths", "same", "(II)Z"⟩, prog_1_method_20_code, 3, (some .boolean), "LensPaths", [], false, 7, 111)
theorem d_Lens_same_0 : decode prog_1_method_20_code 0 = .ok (.aload_n 0, 1) := by decide +kernel
theorem d_Lens_same_1 : decode prog_1_method_20_code 1 = .ok (.iload_n 1, 1) := by decide +kernel
theorem d_Lens_same_2 : decode prog_1_method_20_code 2 = .ok (.invokevirtual 163, 3) := by decide +kernel
theorem d_Lens_same_5 : decode prog_1_method_20_code 5 = .ok (.aload_n 0, 1) := by decide +kernel
theorem d_Lens_same_6 : decode prog_1_method_20_code 6 = .ok (.iload_n 2, 1) := by decide +kernel
theorem d_Lens_same_7 : decode prog_1_method_20_code 7 = .ok (.invokevirtual 163, 3) := by decide +kernel
theorem d_Lens_same_10 : decode prog_1_method_20_code 10 = .ok (.aload_n 0, 1) := by decide +kernel
theorem d_Lens_same_11 : decode prog_1_method_20_code 11 = .ok (.getfield 25, 3) := by decide +kernel
theorem d_Lens_same_14 : decode prog_1_method_20_code 14 = .ok (.iload_n 1, 1) := by decide +kernel
theorem d_Lens_same_15 : decode prog_1_method_20_code 15 = .ok (.aaload, 1) := by decide +kernel
theorem d_Lens_same_16 : decode prog_1_method_20_code 16 = .ok (.getfield 207, 3) := by decide +kernel
theorem d_Lens_same_19 : decode prog_1_method_20_code 19 = .ok (.aload_n 0, 1) := by decide +kernel
theorem d_Lens_same_20 : decode prog_1_method_20_code 20 = .ok (.getfield 25, 3) := by decide +kernel
theorem d_Lens_same_23 : decode prog_1_method_20_code 23 = .ok (.iload_n 2, 1) := by decide +kernel
theorem d_Lens_same_24 : decode prog_1_method_20_code 24 = .ok (.aaload, 1) := by decide +kernel
theorem d_Lens_same_25 : decode prog_1_method_20_code 25 = .ok (.getfield 207, 3) := by decide +kernel
theorem d_Lens_same_28 : decode prog_1_method_20_code 28 = .ok (.if_icmp .ne 39, 3) := by decide +kernel
theorem d_Lens_same_31 : decode prog_1_method_20_code 31 = .ok (.aload_n 0, 1) := by decide +kernel
theorem d_Lens_same_32 : decode prog_1_method_20_code 32 = .ok (.getfield 25, 3) := by decide +kernel
theorem d_Lens_same_35 : decode prog_1_method_20_code 35 = .ok (.iload_n 1, 1) := by decide +kernel
theorem d_Lens_same_36 : decode prog_1_method_20_code 36 = .ok (.aaload, 1) := by decide +kernel
theorem d_Lens_same_37 : decode prog_1_method_20_code 37 = .ok (.getfield 184, 3) := by decide +kernel
theorem d_Lens_same_40 : decode prog_1_method_20_code 40 = .ok (.aload_n 0, 1) := by decide +kernel
theorem d_Lens_same_41 : decode prog_1_method_20_code 41 = .ok (.getfield 25, 3) := by decide +kernel
theorem d_Lens_same_44 : decode prog_1_method_20_code 44 = .ok (.iload_n 2, 1) := by decide +kernel
theorem d_Lens_same_45 : decode prog_1_method_20_code 45 = .ok (.aaload, 1) := by decide +kernel
theorem d_Lens_same_46 : decode prog_1_method_20_code 46 = .ok (.getfield 184, 3) := by decide +kernel
theorem d_Lens_same_49 : decode prog_1_method_20_code 49 = .ok (.aload_n 0, 1) := by decide +kernel
theorem d_Lens_same_50 : decode prog_1_method_20_code 50 = .ok (.iload_n 1, 1) := by decide +kernel
theorem d_Lens_same_51 : decode prog_1_method_20_code 51 = .ok (.invokevirtual 177, 3) := by decide +kernel
theorem d_Lens_same_54 : decode prog_1_method_20_code 54 = .ok (.getfield 56, 3) := by decide +kernel
theorem d_Lens_same_57 : decode prog_1_method_20_code 57 = .ok (.invokevirtual 213, 3) := by decide +kernel
theorem d_Lens_same_60 : decode prog_1_method_20_code 60 = .ok (.ifCond .eq 7, 3) := by decide +kernel
theorem d_Lens_same_63 : decode prog_1_method_20_code 63 = .ok (.iconst 1, 1) := by decide +kernel
theorem d_Lens_same_64 : decode prog_1_method_20_code 64 = .ok (.goto 4, 3) := by decide +kernel
theorem d_Lens_same_67 : decode prog_1_method_20_code 67 = .ok (.iconst 0, 1) := by decide +kernel
theorem d_Lens_same_68 : decode prog_1_method_20_code 68 = .ok (.ireturn, 1) := by decide +kernel
section CPub
variable {g : q_G} {sz x : Nat} {T : q_T} {I : q_I} {R : q_R} {J : q_J} {S : KA}
theorem k_rw.cong {f f' : Int32 → Int32} {b : Nat} {v : List Int32} (h : k_rw f b v) (hf : ∀ j, b ≤ j → j < b + 7 → f' (nI j) = f (nI j)) : k_rw f' b v := by
  obtain ⟨h1, h2, h3⟩ := h
  refine ⟨h1, by rw [hf b (by omega) (by omega)]; exact h2, fun i y hy => ?_⟩
  have := (List.getElem?_eq_some_iff.mp hy).1
  rw [hf _ (by omega) (by omega)]
  exact h3 i y hy
/-- the place of the field of this path and sort -/
def a_pl (L : List KF) (p so : Int32) : Option Nat := match k_fo L (k_of p) with
  | none => none
  | some i => match L[i]? with
    | none => none
    | some f => if f.2.1 = so then some i else none
theorem a_pl_some {L : List KF} {p so : Int32} {i : Nat} (h : a_pl L p so = some i) : ∃ f l, L[i]? = some f ∧ k_of p = some l ∧ f.1 = l ∧ f.2.1 = so ∧ k_fi L l = some i := by
  unfold a_pl at h
  cases hp : k_of p with
  | none => rw [hp] at h; cases h
  | some l =>
    rw [hp, show k_fo L (some l) = k_fi L l from rfl] at h
    cases hi : k_fi L l with
    | none => rw [hi] at h; cases h
    | some j =>
      obtain ⟨-, f, hf, hfl⟩ := k_fi_some hi
      rw [hi] at h
      simp only [hf] at h
      by_cases hs : f.2.1 = so
      · rw [if_pos hs] at h
        cases h
        exact ⟨f, l, hf, rfl, hfl, hs, hi⟩
      · rw [if_neg hs] at h; cases h
theorem a_pl_at {L : List KF} (hd : k_dis L) (hok : k_okf L) {p so : Int32} {i : Nat} {f : KF} (hf : L[i]? = some f) (hp : nI (k_path f.1) = p) (hs : f.2.1 = so) : a_pl L p so = some i := by
  have h1 := (k_of_iff (hok f (List.mem_of_getElem? hf)).1 p).mp hp
  unfold a_pl
  rw [h1, show k_fo L (some f.1) = k_fi L f.1 from rfl, k_fi_at hd hf]
  simp only [hf, if_pos hs]
theorem c_Lens_schemaOf {i v s r : Nat} (hL : q_L 10 t_Lens x T R) (hV : q_L 9 t_Versions (x + 1) T R) (hi : i < 16) (hr : R (x + 60) (nI i) = some r) (ht : T r = some (105, 0)) (hv : I r (nI 1) = nI v) (hv8 : v < 8) (hs : R (x + 2) (nI v) = some s) : q_Cr g M_Lens_schemaOf [.ref x, .int (nI i)] (sz, T, I, R, J) 0 0 (fun q h' => q = some s ∧ h' = (sz, T, I, R, J)) := by
  have hV1 := hV.1
  have hV2 := (hV.2 0 _ _ _ rfl).1
  have hV3 := (hV.2 0 _ _ _ rfl).2
  refine q_C.of (ls0 := [some (.ref x), some (.int (nI i))]) (by decide) rfl (by decide) (Nat.le_of_ble_eq_true rfl) rfl ?_
  refine q_aload_n d_Lens_schemaOf_0 rfl rfl ?_
  refine q_getR (ci := 10) (fk := 0) d_Lens_schemaOf_1 rfl (Nat.le_of_ble_eq_true rfl) w_272 (fun _ _ => rfl) hL.1 (hL.2 0 _ _ _ rfl).1 ?_
  refine q_getR (ci := 9) (fk := 0) d_Lens_schemaOf_4 rfl (Nat.le_of_ble_eq_true rfl) w_110 (fun _ _ => rfl) (by first | assumption | rfl | (simp (disch := omega) only [q_upT_self, q_upT_ne, q_upR_self, q_upR_nea, q_upR_nk, q_upT_at, *]; done) | (simp (disch := omega) only [q_upT_self, q_upT_ne, q_upR_self, q_upR_nea, q_upR_nk, q_upT_at, *]; rfl)) (by first | assumption | rfl | (simp (disch := omega) only [q_upT_self, q_upT_ne, q_upR_self, q_upR_nea, q_upR_nk, q_upT_at, *]; done) | (simp (disch := omega) only [q_upT_self, q_upT_ne, q_upR_self, q_upR_nea, q_upR_nk, q_upT_at, *]; rfl)) ?_
  refine q_aload_n d_Lens_schemaOf_7 rfl rfl ?_
  refine q_getR (ci := 10) (fk := 2) d_Lens_schemaOf_8 rfl (Nat.le_of_ble_eq_true rfl) w_274 (fun _ _ => rfl) hL.1 (hL.2 2 _ _ _ rfl).1 ?_
  refine q_iload_n d_Lens_schemaOf_11 rfl rfl ?_
  refine q_aaldR (kd := _) d_Lens_schemaOf_12 rfl (Nat.le_of_ble_eq_true rfl) (Nat.le_of_ble_eq_true rfl) (hL.2 2 _ _ _ rfl).2 (by first | assumption | exact vp_in_nI (by omega) (by omega)) (by first | assumption | rfl | (simp (disch := omega) only [q_upT_self, q_upT_ne, q_upR_self, q_upR_nea, q_upR_nk, q_upT_at, *]; done) | (simp (disch := omega) only [q_upT_self, q_upT_ne, q_upR_self, q_upR_nea, q_upR_nk, q_upT_at, *]; rfl)) ?_
  refine q_getI (ci := 5) (fk := 1) d_Lens_schemaOf_13 rfl (Nat.le_of_ble_eq_true rfl) w_195 (fun _ _ => rfl) (by first | assumption | rfl | (simp (disch := omega) only [q_upT_self, q_upT_ne, q_upR_self, q_upR_nea, q_upR_nk, q_upT_at, *]; done) | (simp (disch := omega) only [q_upT_self, q_upT_ne, q_upR_self, q_upR_nea, q_upR_nk, q_upT_at, *]; rfl)) ?_
  rw [hv]
  refine q_aaldR (kd := _) d_Lens_schemaOf_16 rfl (Nat.le_of_ble_eq_true rfl) (Nat.le_of_ble_eq_true rfl) (by first | assumption | rfl | (simp (disch := omega) only [q_upT_self, q_upT_ne, q_upR_self, q_upR_nea, q_upR_nk, q_upT_at, *]; done) | (simp (disch := omega) only [q_upT_self, q_upT_ne, q_upR_self, q_upR_nea, q_upR_nk, q_upT_at, *]; rfl)) (by first | assumption | exact vp_in_nI (by omega) (by omega)) (by first | assumption | rfl | (simp (disch := omega) only [q_upT_self, q_upT_ne, q_upR_self, q_upR_nea, q_upR_nk, q_upT_at, *]; done) | (simp (disch := omega) only [q_upT_self, q_upT_ne, q_upR_self, q_upR_nea, q_upR_nk, q_upT_at, *]; rfl)) ?_
  first | refine q_aret (v := some _) d_Lens_schemaOf_17 rfl (by omega) (by omega) ?_ | refine q_aret (v := none) d_Lens_schemaOf_17 rfl (by omega) (by omega) ?_ | refine q_aret d_Lens_schemaOf_17 rfl (by omega) (by omega) ?_
  exact ⟨_, rfl, rfl, rfl⟩
/-- all that is known of a living record -/
theorem relC.of (hw : wf S) (hC : relC S x sz T I R) {i : Nat} {c : KR} (hi : i < 16) (hc : S.rs i = some c) : ∃ (r s : Nat) (w : Nat → Nat) (L : List KF), S.vs[c.ver]? = some L ∧ k_wfV L ∧ c.ver < 8 ∧ c.val.length = L.length ∧ (∀ (i : Nat) (f : KF) (v : List Int32), L[i]? = some f → c.val[i]? = some v → k_shp f.2.1 v) ∧ R (x + 60) (nI i) = some r ∧ r_new r T R ∧ k_rec r c I ∧ R (x + 2) (nI c.ver) = some s ∧ k_sc s L w T I R ∧ I r (nI 0) = 1 := by
  obtain ⟨r, a1, a2, a3, a4, a5, -⟩ := hC.rowAt hi hc
  obtain ⟨w1, w2, w3⟩ := hw.2.2.2.1 i c hi hc
  obtain ⟨L, hL⟩ : ∃ L, S.vs[c.ver]? = some L := ⟨_, List.getElem?_eq_getElem w1⟩
  obtain ⟨s, w, b1, b2, b3, b4⟩ := hC.verAt hL
  have := hw.1.2.1
  exact ⟨r, s, w, L, hL, hw.1.2.2 L (List.mem_of_getElem? hL), by omega, (w2 L hL).1, (w2 L hL).2, a1, a3, a5, b1, b4, a4⟩
theorem c_placeOf_ok {i s r v : Nat} {w : Nat → Nat} {L : List KF} {p so : Int32} {k : Nat} (hC : relC S x sz T I R) (hi : i < 16) (hr : R (x + 60) (nI i) = some r) (ht : T r = some (105, 0)) (hv : I r (nI 1) = nI v) (hv8 : v < 8) (hs : R (x + 2) (nI v) = some s) (hS : k_sc s L w T I R) (hok : k_okf L) (hp : a_pl L p so = some k) : q_Ci g M_Lens_placeOf [.ref x, .int (nI i), .int p, .int so] (sz, T, I, R, J) 1 6 (fun q h' => q = nI k ∧ h' = (sz, T, I, R, J)) := by
  have hL := hC.1.1
  obtain ⟨f, l, f1, f2, f3, f4, f5⟩ := a_pl_some hp
  have hl := k_of_ok f2
  obtain ⟨g1, g2, g3, g4⟩ := hS.at f1
  have hs1 := hS.1.1.1
  have hs2 := (hS.1.1.2 0 _ _ _ rfl).1
  have hs3 := (hS.1.1.2 0 _ _ _ rfl).2
  refine q_C.of (ls0 := [some (.ref x), some (.int (nI i)), some (.int p), some (.int so), none, none]) (by decide) rfl (by decide) (Nat.le_of_ble_eq_true rfl) rfl ?_
  refine q_aload_n d_Lens_placeOf_0 rfl rfl ?_
  refine q_iload_n d_Lens_placeOf_1 rfl rfl ?_
  refine q_callVr (M2 := M_Lens_schemaOf) d_Lens_placeOf_2 ⟨(Nat.le_of_ble_eq_true rfl), (Nat.le_of_ble_eq_true rfl), w_781, w_1, ⟨by decide, by decide⟩, show _ = some 1 by decide +kernel⟩ w_778 w_780 (ci := 10) rfl s_20 hL.1 rfl (Nat.le_of_ble_eq_true rfl) (by omega) (by omega) (c_Lens_schemaOf hL hC.1.2.1 hi hr ht hv hv8 hs) ?_
  rintro _ _ ⟨rfl, rfl⟩
  refine q_astore d_Lens_placeOf_5 (Nat.le_of_ble_eq_true rfl) (by first | exact q_ok0 | exact q_okI rfl | exact q_okR rfl | exact q_okN rfl) rfl ?_
  refine q_aload d_Lens_placeOf_7 rfl ?_
  refine q_iload_n d_Lens_placeOf_9 rfl rfl ?_
  refine q_callSi (M2 := M_Key_ofPath) d_Lens_placeOf_10 ⟨(Nat.le_of_ble_eq_true rfl), (Nat.le_of_ble_eq_true rfl), w_374, w_15, ⟨by decide, by decide⟩, show _ = some 1 by decide +kernel⟩ w_372 w_373 rfl (Nat.le_of_ble_eq_true rfl) (by omega) (by omega) (c_Key_ofPath p) ?_
  rintro _ _ ⟨rfl, rfl⟩
  rw [f2, show p_key (some l) = nI (k_key l) from rfl]
  refine q_callVi (M2 := M_Schema_find) d_Lens_placeOf_13 ⟨(Nat.le_of_ble_eq_true rfl), (Nat.le_of_ble_eq_true rfl), w_392, w_3, ⟨by decide, by decide⟩, show _ = some 1 by decide +kernel⟩ w_687 w_390 (ci := 6) rfl w_391 (by first | assumption | rfl | (simp (disch := omega) only [q_upT_self, q_upT_ne, q_upR_self, q_upR_nea, q_upR_nk, q_upT_at, *]; done) | (simp (disch := omega) only [q_upT_self, q_upT_ne, q_upR_self, q_upR_nea, q_upR_nk, q_upT_at, *]; rfl)) rfl (Nat.le_of_ble_eq_true rfl) (by omega) (by omega) (c_Schema_findN hS hok hl) ?_
  rintro _ _ ⟨rfl, rfl⟩
  rw [f5, show p_idx (some k) = nI k from rfl]
  refine q_istore d_Lens_placeOf_16 (Nat.le_of_ble_eq_true rfl) (by first | exact q_ok0 | exact q_okI rfl | exact q_okR rfl | exact q_okN rfl) rfl ?_
  refine q_iload d_Lens_placeOf_18 rfl ?_
  refine q_iconst (v := (-1)) d_Lens_placeOf_20 (by decide) ?_
  refine q_icmp_eq (tgt := 39) d_Lens_placeOf_21 rfl (fun hc => ?_) (fun hc => ?_)
  · exact absurd hc (nI_m1 (by omega))
  · refine q_aload d_Lens_placeOf_24 rfl ?_
    refine q_getR (ci := 6) (fk := 0) d_Lens_placeOf_26 rfl (Nat.le_of_ble_eq_true rfl) w_97 (fun _ _ => rfl) (by first | assumption | rfl | (simp (disch := omega) only [q_upT_self, q_upT_ne, q_upR_self, q_upR_nea, q_upR_nk, q_upT_at, *]; done) | (simp (disch := omega) only [q_upT_self, q_upT_ne, q_upR_self, q_upR_nea, q_upR_nk, q_upT_at, *]; rfl)) (by first | assumption | rfl | (simp (disch := omega) only [q_upT_self, q_upT_ne, q_upR_self, q_upR_nea, q_upR_nk, q_upT_at, *]; done) | (simp (disch := omega) only [q_upT_self, q_upT_ne, q_upR_self, q_upR_nea, q_upR_nk, q_upT_at, *]; rfl)) ?_
    refine q_iload d_Lens_placeOf_29 rfl ?_
    refine q_aaldR (kd := _) d_Lens_placeOf_31 rfl (Nat.le_of_ble_eq_true rfl) (Nat.le_of_ble_eq_true rfl) (by first | assumption | rfl | (simp (disch := omega) only [q_upT_self, q_upT_ne, q_upR_self, q_upR_nea, q_upR_nk, q_upT_at, *]; done) | (simp (disch := omega) only [q_upT_self, q_upT_ne, q_upR_self, q_upR_nea, q_upR_nk, q_upT_at, *]; rfl)) (by first | assumption | exact vp_in_nI (by omega) (by omega)) (by first | assumption | rfl | (simp (disch := omega) only [q_upT_self, q_upT_ne, q_upR_self, q_upR_nea, q_upR_nk, q_upT_at, *]; done) | (simp (disch := omega) only [q_upT_self, q_upT_ne, q_upR_self, q_upR_nea, q_upR_nk, q_upT_at, *]; rfl)) ?_
    refine q_getI (ci := 3) (fk := 1) d_Lens_placeOf_32 rfl (Nat.le_of_ble_eq_true rfl) w_63 (fun _ _ => rfl) (by first | assumption | rfl | (simp (disch := omega) only [q_upT_self, q_upT_ne, q_upR_self, q_upR_nea, q_upR_nk, q_upT_at, *]; done) | (simp (disch := omega) only [q_upT_self, q_upT_ne, q_upR_self, q_upR_nea, q_upR_nk, q_upT_at, *]; rfl)) ?_
    rw [g4.2.1, f4]
    refine q_iload_n d_Lens_placeOf_35 rfl rfl ?_
    refine q_icmp_eq (tgt := 47) d_Lens_placeOf_36 rfl (fun hc => ?_) (fun hc => ?_)
    · refine q_iload d_Lens_placeOf_47 rfl ?_
      refine q_iret d_Lens_placeOf_49 rfl (by omega) (by omega) ?_
      exact ⟨_, rfl, rfl, rfl⟩
    · exact absurd rfl hc
theorem c_placeOf_no {i s r v : Nat} {w : Nat → Nat} {L : List KF} {p so : Int32} (hC : relC S x sz T I R) (hi : i < 16) (hr : R (x + 60) (nI i) = some r) (ht : T r = some (105, 0)) (hv : I r (nI 1) = nI v) (hv8 : v < 8) (hs : R (x + 2) (nI v) = some s) (hS : k_sc s L w T I R) (hok : k_okf L) (hp : a_pl L p so = none) : q_C g M_Lens_placeOf [.ref x, .int (nI i), .int p, .int so] (sz, T, I, R, J) 1 6 (fun o h' => o = .inr (1, sz) ∧ h' = (sz + 1, T, I, R, J)) := by
  have hL := hC.1.1
  have hs1 := hS.1.1.1
  have hs2 := (hS.1.1.2 0 _ _ _ rfl).1
  have hs3 := (hS.1.1.2 0 _ _ _ rfl).2
  have hfx : k_fx (p_key (k_of p)) 0 L = p_idx (k_fo L (k_of p)) := by
    cases ho : k_of p with
    | none => exact k_fx_none hok 0
    | some l =>
      have := k_fx_idx hok (k_of_ok ho) 0
      rw [show p_key (some l) = nI (k_key l) from rfl, this, show k_fo L (some l) = k_fi L l from rfl]
      cases k_fi L l <;> rfl
  refine q_C.of (ls0 := [some (.ref x), some (.int (nI i)), some (.int p), some (.int so), none, none]) (by decide) rfl (by decide) (Nat.le_of_ble_eq_true rfl) rfl ?_
  refine q_aload_n d_Lens_placeOf_0 rfl rfl ?_
  refine q_iload_n d_Lens_placeOf_1 rfl rfl ?_
  refine q_callVr (M2 := M_Lens_schemaOf) d_Lens_placeOf_2 ⟨(Nat.le_of_ble_eq_true rfl), (Nat.le_of_ble_eq_true rfl), w_781, w_1, ⟨by decide, by decide⟩, show _ = some 1 by decide +kernel⟩ w_778 w_780 (ci := 10) rfl s_20 hL.1 rfl (Nat.le_of_ble_eq_true rfl) (by omega) (by omega) (c_Lens_schemaOf hL hC.1.2.1 hi hr ht hv hv8 hs) ?_
  rintro _ _ ⟨rfl, rfl⟩
  refine q_astore d_Lens_placeOf_5 (Nat.le_of_ble_eq_true rfl) (by first | exact q_ok0 | exact q_okI rfl | exact q_okR rfl | exact q_okN rfl) rfl ?_
  refine q_aload d_Lens_placeOf_7 rfl ?_
  refine q_iload_n d_Lens_placeOf_9 rfl rfl ?_
  refine q_callSi (M2 := M_Key_ofPath) d_Lens_placeOf_10 ⟨(Nat.le_of_ble_eq_true rfl), (Nat.le_of_ble_eq_true rfl), w_374, w_15, ⟨by decide, by decide⟩, show _ = some 1 by decide +kernel⟩ w_372 w_373 rfl (Nat.le_of_ble_eq_true rfl) (by omega) (by omega) (c_Key_ofPath p) ?_
  rintro _ _ ⟨rfl, rfl⟩
  refine q_callVi (M2 := M_Schema_find) d_Lens_placeOf_13 ⟨(Nat.le_of_ble_eq_true rfl), (Nat.le_of_ble_eq_true rfl), w_392, w_3, ⟨by decide, by decide⟩, show _ = some 1 by decide +kernel⟩ w_687 w_390 (ci := 6) rfl w_391 (by first | assumption | rfl | (simp (disch := omega) only [q_upT_self, q_upT_ne, q_upR_self, q_upR_nea, q_upR_nk, q_upT_at, *]; done) | (simp (disch := omega) only [q_upT_self, q_upT_ne, q_upR_self, q_upR_nea, q_upR_nk, q_upT_at, *]; rfl)) rfl (Nat.le_of_ble_eq_true rfl) (by omega) (by omega) (c_Schema_find hS _) ?_
  rintro _ _ ⟨rfl, rfl⟩
  rw [hfx]
  refine q_istore d_Lens_placeOf_16 (Nat.le_of_ble_eq_true rfl) (by first | exact q_ok0 | exact q_okI rfl | exact q_okR rfl | exact q_okN rfl) rfl ?_
  refine q_iload d_Lens_placeOf_18 rfl ?_
  refine q_iconst (v := (-1)) d_Lens_placeOf_20 (by decide) ?_
  refine q_icmp_eq (tgt := 39) d_Lens_placeOf_21 rfl (fun hc => ?_) (fun hc => ?_)
  · refine q_throw (x := 1) d_Lens_placeOf_39 d_Lens_placeOf_42 d_Lens_placeOf_43 d_Lens_placeOf_46 (by decide +kernel) x_nmf (Nat.le_of_ble_eq_true rfl) (Nat.le_of_ble_eq_true rfl) (Nat.le_of_ble_eq_true rfl) w_396 w_16 x_at1 rfl (Nat.le_of_ble_eq_true rfl) (by omega) (by omega) ?_
    exact ⟨rfl, rfl⟩
  · cases ho : k_fo L (k_of p) with
    | none => rw [ho] at hc; exact absurd rfl hc
    | some k =>
      have hfi : ∃ l, k_of p = some l ∧ k_fi L l = some k := by
        cases ho2 : k_of p with
        | none => rw [ho2] at ho; cases ho
        | some l => rw [ho2] at ho; exact ⟨l, rfl, ho⟩
      obtain ⟨l, l1, l2⟩ := hfi
      obtain ⟨k1, f, f1, f2⟩ := k_fi_some l2
      obtain ⟨g1, g2, g3, g4⟩ := hS.at f1
      rw [show p_idx (some k) = nI k from rfl]
      refine q_aload d_Lens_placeOf_24 rfl ?_
      refine q_getR (ci := 6) (fk := 0) d_Lens_placeOf_26 rfl (Nat.le_of_ble_eq_true rfl) w_97 (fun _ _ => rfl) (by first | assumption | rfl | (simp (disch := omega) only [q_upT_self, q_upT_ne, q_upR_self, q_upR_nea, q_upR_nk, q_upT_at, *]; done) | (simp (disch := omega) only [q_upT_self, q_upT_ne, q_upR_self, q_upR_nea, q_upR_nk, q_upT_at, *]; rfl)) (by first | assumption | rfl | (simp (disch := omega) only [q_upT_self, q_upT_ne, q_upR_self, q_upR_nea, q_upR_nk, q_upT_at, *]; done) | (simp (disch := omega) only [q_upT_self, q_upT_ne, q_upR_self, q_upR_nea, q_upR_nk, q_upT_at, *]; rfl)) ?_
      refine q_iload d_Lens_placeOf_29 rfl ?_
      refine q_aaldR (kd := _) d_Lens_placeOf_31 rfl (Nat.le_of_ble_eq_true rfl) (Nat.le_of_ble_eq_true rfl) (by first | assumption | rfl | (simp (disch := omega) only [q_upT_self, q_upT_ne, q_upR_self, q_upR_nea, q_upR_nk, q_upT_at, *]; done) | (simp (disch := omega) only [q_upT_self, q_upT_ne, q_upR_self, q_upR_nea, q_upR_nk, q_upT_at, *]; rfl)) (by first | assumption | exact vp_in_nI (by omega) (by omega)) (by first | assumption | rfl | (simp (disch := omega) only [q_upT_self, q_upT_ne, q_upR_self, q_upR_nea, q_upR_nk, q_upT_at, *]; done) | (simp (disch := omega) only [q_upT_self, q_upT_ne, q_upR_self, q_upR_nea, q_upR_nk, q_upT_at, *]; rfl)) ?_
      refine q_getI (ci := 3) (fk := 1) d_Lens_placeOf_32 rfl (Nat.le_of_ble_eq_true rfl) w_63 (fun _ _ => rfl) (by first | assumption | rfl | (simp (disch := omega) only [q_upT_self, q_upT_ne, q_upR_self, q_upR_nea, q_upR_nk, q_upT_at, *]; done) | (simp (disch := omega) only [q_upT_self, q_upT_ne, q_upR_self, q_upR_nea, q_upR_nk, q_upT_at, *]; rfl)) ?_
      rw [g4.2.1]
      refine q_iload_n d_Lens_placeOf_35 rfl rfl ?_
      refine q_icmp_eq (tgt := 47) d_Lens_placeOf_36 rfl (fun hc => ?_) (fun hc => ?_)
      · have h9 : f.2.1 = so := hc
        unfold a_pl at hp
        rw [ho] at hp
        simp only [f1, if_pos h9] at hp
        cases hp
      · refine q_throw (x := 1) d_Lens_placeOf_39 d_Lens_placeOf_42 d_Lens_placeOf_43 d_Lens_placeOf_46 (by decide +kernel) x_nmf (Nat.le_of_ble_eq_true rfl) (Nat.le_of_ble_eq_true rfl) (Nat.le_of_ble_eq_true rfl) w_396 w_16 x_at1 rfl (Nat.le_of_ble_eq_true rfl) (by omega) (by omega) ?_
        exact ⟨rfl, rfl⟩
theorem c_Lens_version (hw : wf S) (hC : relC S x sz T I R) {i : Nat} {c : KR} (hi : i < 16) (hc : S.rs i = some c) (hb : k_ish S.lv (nI i) = true) : q_C g M_Lens_version [.ref x, .int (nI i)] (sz, T, I, R, J) 1000 14000 (q_Xi [2] (c_sp x sz T I R J (0, nI c.ver, S))) := by
  obtain ⟨r, s, w, L, e1, e2, e3, e4, e5, e6, e7, e8, e9, e10, e11⟩ := relC.of hw hC hi hc
  have hL := hC.1.1
  have hr0 := (r_T0 e7).1
  refine q_C.of (ls0 := [some (.ref x), some (.int (nI i))]) (by decide) rfl (by decide) (Nat.le_of_ble_eq_true rfl) rfl ?_
  refine q_aload_n d_Lens_version_0 rfl rfl ?_
  refine q_iload_n d_Lens_version_1 rfl rfl ?_
  refine q_callVv (M2 := M_Lens_needHandle) d_Lens_version_2 ⟨(Nat.le_of_ble_eq_true rfl), (Nat.le_of_ble_eq_true rfl), w_747, w_1, ⟨by decide, by decide⟩, show _ = some 1 by decide +kernel⟩ w_744 w_746 (ci := 10) rfl s_18 hL.1 rfl (Nat.le_of_ble_eq_true rfl) (by omega) (by omega) (c_needHandle_ok hC hb) ?_
  rintro _ rfl
  refine q_aload_n d_Lens_version_5 rfl rfl ?_
  refine q_getR (ci := 10) (fk := 2) d_Lens_version_6 rfl (Nat.le_of_ble_eq_true rfl) w_274 (fun _ _ => rfl) hL.1 (hL.2 2 _ _ _ rfl).1 ?_
  refine q_iload_n d_Lens_version_9 rfl rfl ?_
  refine q_aaldR (kd := _) d_Lens_version_10 rfl (Nat.le_of_ble_eq_true rfl) (Nat.le_of_ble_eq_true rfl) (hL.2 2 _ _ _ rfl).2 (by first | assumption | exact vp_in_nI (by omega) (by omega)) (by first | assumption | rfl | (simp (disch := omega) only [q_upT_self, q_upT_ne, q_upR_self, q_upR_nea, q_upR_nk, q_upT_at, *]; done) | (simp (disch := omega) only [q_upT_self, q_upT_ne, q_upR_self, q_upR_nea, q_upR_nk, q_upT_at, *]; rfl)) ?_
  refine q_getI (ci := 5) (fk := 1) d_Lens_version_11 rfl (Nat.le_of_ble_eq_true rfl) w_195 (fun _ _ => rfl) (by first | assumption | rfl | (simp (disch := omega) only [q_upT_self, q_upT_ne, q_upR_self, q_upR_nea, q_upR_nk, q_upT_at, *]; done) | (simp (disch := omega) only [q_upT_self, q_upT_ne, q_upR_self, q_upR_nea, q_upR_nk, q_upT_at, *]; rfl)) ?_
  rw [e8.1]
  refine q_iret d_Lens_version_14 rfl (by omega) (by omega) ?_
  exact c_xi_is hC _
theorem c_Lens_version_no (hC : relC S x sz T I R) {v : Int32} (hb : k_ish S.lv v = false) : q_C g M_Lens_version [.ref x, .int v] (sz, T, I, R, J) 1000 14000 (q_Xi [2] (c_sp x sz T I R J (nI 1, 0, S))) := by
  have hL := hC.1.1
  refine q_C.of (ls0 := [some (.ref x), some (.int v)]) (by decide) rfl (by decide) (Nat.le_of_ble_eq_true rfl) rfl ?_
  refine q_aload_n d_Lens_version_0 rfl rfl ?_
  refine q_iload_n d_Lens_version_1 rfl rfl ?_
  refine q_callV (M2 := M_Lens_needHandle) d_Lens_version_2 ⟨(Nat.le_of_ble_eq_true rfl), (Nat.le_of_ble_eq_true rfl), w_747, w_1, ⟨by decide, by decide⟩, show _ = some 1 by decide +kernel⟩ w_744 w_746 (ci := 10) rfl s_18 hL.1 rfl (Nat.le_of_ble_eq_true rfl) (by omega) (by omega) (c_needHandle_no hC hb) (fun v h' z => ?_) (fun z9 h' z => ?_)
  · cases z.1
  · obtain ⟨e9, rfl⟩ := z
    cases e9
    exact q_VX.out (by decide) (by omega) (by omega) (c_xi_no hC rfl)
end CPub
