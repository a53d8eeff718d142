/-! translate: one primitive; a step -/
abbrev M_Carrier_takeOver : q_M := (⟨"LensPaths$Carrier", "takeOver", "(LLensPaths$Row;LLensPaths$Step;Z)Z"⟩, prog_2_method_2_code, 7, (some .boolean), "LensPaths$Carrier", [], false, 6, 135)
theorem d_Carrier_takeOver_0 : decode prog_2_method_2_code 0 = .ok (.aload_n 0, 1) := by decide +kernel
theorem d_Carrier_takeOver_1 : decode prog_2_method_2_code 1 = .ok (.aload_n 1, 1) := by decide +kernel
theorem d_Carrier_takeOver_2 : decode prog_2_method_2_code 2 = .ok (.aload_n 2, 1) := by decide +kernel
theorem d_Carrier_takeOver_3 : decode prog_2_method_2_code 3 = .ok (.iload_n 3, 1) := by decide +kernel
theorem d_Carrier_takeOver_4 : decode prog_2_method_2_code 4 = .ok (.invokevirtual 20, 3) := by decide +kernel
theorem d_Carrier_takeOver_7 : decode prog_2_method_2_code 7 = .ok (.iconst 0, 1) := by decide +kernel
theorem d_Carrier_takeOver_8 : decode prog_2_method_2_code 8 = .ok (.istore 4, 2) := by decide +kernel
theorem d_Carrier_takeOver_10 : decode prog_2_method_2_code 10 = .ok (.iload 4, 2) := by decide +kernel
theorem d_Carrier_takeOver_12 : decode prog_2_method_2_code 12 = .ok (.aload_n 2, 1) := by decide +kernel
theorem d_Carrier_takeOver_13 : decode prog_2_method_2_code 13 = .ok (.getfield 24, 3) := by decide +kernel
theorem d_Carrier_takeOver_16 : decode prog_2_method_2_code 16 = .ok (.if_icmp .ge 61, 3) := by decide +kernel
theorem d_Carrier_takeOver_19 : decode prog_2_method_2_code 19 = .ok (.iload_n 3, 1) := by decide +kernel
theorem d_Carrier_takeOver_20 : decode prog_2_method_2_code 20 = .ok (.ifCond .eq 8, 3) := by decide +kernel
theorem d_Carrier_takeOver_23 : decode prog_2_method_2_code 23 = .ok (.iload 4, 2) := by decide +kernel
theorem d_Carrier_takeOver_25 : decode prog_2_method_2_code 25 = .ok (.goto 12, 3) := by decide +kernel
theorem d_Carrier_takeOver_28 : decode prog_2_method_2_code 28 = .ok (.aload_n 2, 1) := by decide +kernel
theorem d_Carrier_takeOver_29 : decode prog_2_method_2_code 29 = .ok (.getfield 24, 3) := by decide +kernel
theorem d_Carrier_takeOver_32 : decode prog_2_method_2_code 32 = .ok (.iconst 1, 1) := by decide +kernel
theorem d_Carrier_takeOver_33 : decode prog_2_method_2_code 33 = .ok (.isub, 1) := by decide +kernel
theorem d_Carrier_takeOver_34 : decode prog_2_method_2_code 34 = .ok (.iload 4, 2) := by decide +kernel
theorem d_Carrier_takeOver_36 : decode prog_2_method_2_code 36 = .ok (.isub, 1) := by decide +kernel
theorem d_Carrier_takeOver_37 : decode prog_2_method_2_code 37 = .ok (.istore 5, 2) := by decide +kernel
theorem d_Carrier_takeOver_39 : decode prog_2_method_2_code 39 = .ok (.aload_n 2, 1) := by decide +kernel
theorem d_Carrier_takeOver_40 : decode prog_2_method_2_code 40 = .ok (.getfield 30, 3) := by decide +kernel
theorem d_Carrier_takeOver_43 : decode prog_2_method_2_code 43 = .ok (.bipush 8, 2) := by decide +kernel
theorem d_Carrier_takeOver_45 : decode prog_2_method_2_code 45 = .ok (.imul, 1) := by decide +kernel
theorem d_Carrier_takeOver_46 : decode prog_2_method_2_code 46 = .ok (.iload 5, 2) := by decide +kernel
theorem d_Carrier_takeOver_48 : decode prog_2_method_2_code 48 = .ok (.iadd, 1) := by decide +kernel
theorem d_Carrier_takeOver_49 : decode prog_2_method_2_code 49 = .ok (.istore 6, 2) := by decide +kernel
theorem d_Carrier_takeOver_51 : decode prog_2_method_2_code 51 = .ok (.aload_n 0, 1) := by decide +kernel
theorem d_Carrier_takeOver_52 : decode prog_2_method_2_code 52 = .ok (.aload_n 2, 1) := by decide +kernel
theorem d_Carrier_takeOver_53 : decode prog_2_method_2_code 53 = .ok (.getfield 33, 3) := by decide +kernel
theorem d_Carrier_takeOver_56 : decode prog_2_method_2_code 56 = .ok (.iload 5, 2) := by decide +kernel
theorem d_Carrier_takeOver_58 : decode prog_2_method_2_code 58 = .ok (.aaload, 1) := by decide +kernel
theorem d_Carrier_takeOver_59 : decode prog_2_method_2_code 59 = .ok (.aload_n 1, 1) := by decide +kernel
theorem d_Carrier_takeOver_60 : decode prog_2_method_2_code 60 = .ok (.iload 6, 2) := by decide +kernel
theorem d_Carrier_takeOver_62 : decode prog_2_method_2_code 62 = .ok (.iload_n 3, 1) := by decide +kernel
theorem d_Carrier_takeOver_63 : decode prog_2_method_2_code 63 = .ok (.invokevirtual 37, 3) := by decide +kernel
theorem d_Carrier_takeOver_66 : decode prog_2_method_2_code 66 = .ok (.ifCond .ne 5, 3) := by decide +kernel
theorem d_Carrier_takeOver_69 : decode prog_2_method_2_code 69 = .ok (.iconst 0, 1) := by decide +kernel
theorem d_Carrier_takeOver_70 : decode prog_2_method_2_code 70 = .ok (.ireturn, 1) := by decide +kernel
theorem d_Carrier_takeOver_71 : decode prog_2_method_2_code 71 = .ok (.iinc 4 1, 3) := by decide +kernel
theorem d_Carrier_takeOver_74 : decode prog_2_method_2_code 74 = .ok (.goto (-64), 3) := by decide +kernel
theorem d_Carrier_takeOver_77 : decode prog_2_method_2_code 77 = .ok (.aload_n 0, 1) := by decide +kernel
theorem d_Carrier_takeOver_78 : decode prog_2_method_2_code 78 = .ok (.aload_n 1, 1) := by decide +kernel
theorem d_Carrier_takeOver_79 : decode prog_2_method_2_code 79 = .ok (.aload_n 2, 1) := by decide +kernel
theorem d_Carrier_takeOver_80 : decode prog_2_method_2_code 80 = .ok (.iload_n 3, 1) := by decide +kernel
theorem d_Carrier_takeOver_81 : decode prog_2_method_2_code 81 = .ok (.invokevirtual 41, 3) := by decide +kernel
theorem d_Carrier_takeOver_84 : decode prog_2_method_2_code 84 = .ok (.iconst 1, 1) := by decide +kernel
theorem d_Carrier_takeOver_85 : decode prog_2_method_2_code 85 = .ok (.ireturn, 1) := by decide +kernel
abbrev M_Carrier_load : q_M := (⟨"LensPaths$Carrier", "load", "(LLensPaths$Row;LLensPaths$Step;Z)V"⟩, prog_2_method_3_code, 6, none, "LensPaths$Carrier", [], false, 3, 63)
theorem d_Carrier_load_0 : decode prog_2_method_3_code 0 = .ok (.iload_n 3, 1) := by decide +kernel
theorem d_Carrier_load_1 : decode prog_2_method_3_code 1 = .ok (.ifCond .eq 10, 3) := by decide +kernel
theorem d_Carrier_load_4 : decode prog_2_method_3_code 4 = .ok (.aload_n 2, 1) := by decide +kernel
theorem d_Carrier_load_5 : decode prog_2_method_3_code 5 = .ok (.getfield 44, 3) := by decide +kernel
theorem d_Carrier_load_8 : decode prog_2_method_3_code 8 = .ok (.goto 8, 3) := by decide +kernel
theorem d_Carrier_load_11 : decode prog_2_method_3_code 11 = .ok (.aload_n 2, 1) := by decide +kernel
theorem d_Carrier_load_12 : decode prog_2_method_3_code 12 = .ok (.getfield 47, 3) := by decide +kernel
theorem d_Carrier_load_15 : decode prog_2_method_3_code 15 = .ok (.arraylength, 1) := by decide +kernel
theorem d_Carrier_load_16 : decode prog_2_method_3_code 16 = .ok (.istore 4, 2) := by decide +kernel
theorem d_Carrier_load_18 : decode prog_2_method_3_code 18 = .ok (.iconst 0, 1) := by decide +kernel
theorem d_Carrier_load_19 : decode prog_2_method_3_code 19 = .ok (.istore 5, 2) := by decide +kernel
theorem d_Carrier_load_21 : decode prog_2_method_3_code 21 = .ok (.iload 5, 2) := by decide +kernel
theorem d_Carrier_load_23 : decode prog_2_method_3_code 23 = .ok (.iload 4, 2) := by decide +kernel
theorem d_Carrier_load_25 : decode prog_2_method_3_code 25 = .ok (.if_icmp .ge 38, 3) := by decide +kernel
theorem d_Carrier_load_28 : decode prog_2_method_3_code 28 = .ok (.aload_n 0, 1) := by decide +kernel
theorem d_Carrier_load_29 : decode prog_2_method_3_code 29 = .ok (.getfield 14, 3) := by decide +kernel
theorem d_Carrier_load_32 : decode prog_2_method_3_code 32 = .ok (.iload_n 3, 1) := by decide +kernel
theorem d_Carrier_load_33 : decode prog_2_method_3_code 33 = .ok (.ifCond .eq 8, 3) := by decide +kernel
theorem d_Carrier_load_36 : decode prog_2_method_3_code 36 = .ok (.iload 5, 2) := by decide +kernel
theorem d_Carrier_load_38 : decode prog_2_method_3_code 38 = .ok (.goto 10, 3) := by decide +kernel
theorem d_Carrier_load_41 : decode prog_2_method_3_code 41 = .ok (.aload_n 2, 1) := by decide +kernel
theorem d_Carrier_load_42 : decode prog_2_method_3_code 42 = .ok (.getfield 47, 3) := by decide +kernel
theorem d_Carrier_load_45 : decode prog_2_method_3_code 45 = .ok (.iload 5, 2) := by decide +kernel
theorem d_Carrier_load_47 : decode prog_2_method_3_code 47 = .ok (.iaload, 1) := by decide +kernel
theorem d_Carrier_load_48 : decode prog_2_method_3_code 48 = .ok (.aload_n 1, 1) := by decide +kernel
theorem d_Carrier_load_49 : decode prog_2_method_3_code 49 = .ok (.getfield 51, 3) := by decide +kernel
theorem d_Carrier_load_52 : decode prog_2_method_3_code 52 = .ok (.iload 5, 2) := by decide +kernel
theorem d_Carrier_load_54 : decode prog_2_method_3_code 54 = .ok (.invokevirtual 56, 3) := by decide +kernel
theorem d_Carrier_load_57 : decode prog_2_method_3_code 57 = .ok (.iinc 5 1, 3) := by decide +kernel
theorem d_Carrier_load_60 : decode prog_2_method_3_code 60 = .ok (.goto (-39), 3) := by decide +kernel
theorem d_Carrier_load_63 : decode prog_2_method_3_code 63 = .ok (.return_, 1) := by decide +kernel
abbrev M_Carrier_unload : q_M := (⟨"LensPaths$Carrier", "unload", "(LLensPaths$Row;LLensPaths$Step;Z)V"⟩, prog_2_method_4_code, 6, none, "LensPaths$Carrier", [], false, 3, 63)
theorem d_Carrier_unload_0 : decode prog_2_method_4_code 0 = .ok (.iload_n 3, 1) := by decide +kernel
theorem d_Carrier_unload_1 : decode prog_2_method_4_code 1 = .ok (.ifCond .eq 11, 3) := by decide +kernel
theorem d_Carrier_unload_4 : decode prog_2_method_4_code 4 = .ok (.aload_n 2, 1) := by decide +kernel
theorem d_Carrier_unload_5 : decode prog_2_method_4_code 5 = .ok (.getfield 47, 3) := by decide +kernel
theorem d_Carrier_unload_8 : decode prog_2_method_4_code 8 = .ok (.arraylength, 1) := by decide +kernel
theorem d_Carrier_unload_9 : decode prog_2_method_4_code 9 = .ok (.goto 7, 3) := by decide +kernel
theorem d_Carrier_unload_12 : decode prog_2_method_4_code 12 = .ok (.aload_n 2, 1) := by decide +kernel
theorem d_Carrier_unload_13 : decode prog_2_method_4_code 13 = .ok (.getfield 44, 3) := by decide +kernel
theorem d_Carrier_unload_16 : decode prog_2_method_4_code 16 = .ok (.istore 4, 2) := by decide +kernel
theorem d_Carrier_unload_18 : decode prog_2_method_4_code 18 = .ok (.iconst 0, 1) := by decide +kernel
theorem d_Carrier_unload_19 : decode prog_2_method_4_code 19 = .ok (.istore 5, 2) := by decide +kernel
theorem d_Carrier_unload_21 : decode prog_2_method_4_code 21 = .ok (.iload 5, 2) := by decide +kernel
theorem d_Carrier_unload_23 : decode prog_2_method_4_code 23 = .ok (.iload 4, 2) := by decide +kernel
theorem d_Carrier_unload_25 : decode prog_2_method_4_code 25 = .ok (.if_icmp .ge 38, 3) := by decide +kernel
theorem d_Carrier_unload_28 : decode prog_2_method_4_code 28 = .ok (.aload_n 1, 1) := by decide +kernel
theorem d_Carrier_unload_29 : decode prog_2_method_4_code 29 = .ok (.getfield 51, 3) := by decide +kernel
theorem d_Carrier_unload_32 : decode prog_2_method_4_code 32 = .ok (.iload 5, 2) := by decide +kernel
theorem d_Carrier_unload_34 : decode prog_2_method_4_code 34 = .ok (.aload_n 0, 1) := by decide +kernel
theorem d_Carrier_unload_35 : decode prog_2_method_4_code 35 = .ok (.getfield 14, 3) := by decide +kernel
theorem d_Carrier_unload_38 : decode prog_2_method_4_code 38 = .ok (.iload_n 3, 1) := by decide +kernel
theorem d_Carrier_unload_39 : decode prog_2_method_4_code 39 = .ok (.ifCond .eq 13, 3) := by decide +kernel
theorem d_Carrier_unload_42 : decode prog_2_method_4_code 42 = .ok (.aload_n 2, 1) := by decide +kernel
theorem d_Carrier_unload_43 : decode prog_2_method_4_code 43 = .ok (.getfield 47, 3) := by decide +kernel
theorem d_Carrier_unload_46 : decode prog_2_method_4_code 46 = .ok (.iload 5, 2) := by decide +kernel
theorem d_Carrier_unload_48 : decode prog_2_method_4_code 48 = .ok (.iaload, 1) := by decide +kernel
theorem d_Carrier_unload_49 : decode prog_2_method_4_code 49 = .ok (.goto 5, 3) := by decide +kernel
theorem d_Carrier_unload_52 : decode prog_2_method_4_code 52 = .ok (.iload 5, 2) := by decide +kernel
theorem d_Carrier_unload_54 : decode prog_2_method_4_code 54 = .ok (.invokevirtual 56, 3) := by decide +kernel
theorem d_Carrier_unload_57 : decode prog_2_method_4_code 57 = .ok (.iinc 5 1, 3) := by decide +kernel
theorem d_Carrier_unload_60 : decode prog_2_method_4_code 60 = .ok (.goto (-39), 3) := by decide +kernel
theorem d_Carrier_unload_63 : decode prog_2_method_4_code 63 = .ok (.aload_n 1, 1) := by decide +kernel
theorem d_Carrier_unload_64 : decode prog_2_method_4_code 64 = .ok (.iload_n 3, 1) := by decide +kernel
theorem d_Carrier_unload_65 : decode prog_2_method_4_code 65 = .ok (.ifCond .eq 10, 3) := by decide +kernel
theorem d_Carrier_unload_68 : decode prog_2_method_4_code 68 = .ok (.aload_n 2, 1) := by decide +kernel
theorem d_Carrier_unload_69 : decode prog_2_method_4_code 69 = .ok (.getfield 60, 3) := by decide +kernel
theorem d_Carrier_unload_72 : decode prog_2_method_4_code 72 = .ok (.goto 7, 3) := by decide +kernel
theorem d_Carrier_unload_75 : decode prog_2_method_4_code 75 = .ok (.aload_n 2, 1) := by decide +kernel
theorem d_Carrier_unload_76 : decode prog_2_method_4_code 76 = .ok (.getfield 63, 3) := by decide +kernel
theorem d_Carrier_unload_79 : decode prog_2_method_4_code 79 = .ok (.putfield 66, 3) := by decide +kernel
theorem d_Carrier_unload_82 : decode prog_2_method_4_code 82 = .ok (.return_, 1) := by decide +kernel
abbrev M_Versions_stepOnWay : q_M := (⟨"LensPaths$Versions", "stepOnWay", "(II)LLensPaths$Step;"⟩, prog_12_method_7_code, 3, (some (.object "LensPaths$Step")), "LensPaths$Versions", [], false, 1, 25)
theorem d_Versions_stepOnWay_0 : decode prog_12_method_7_code 0 = .ok (.aload_n 0, 1) := by decide +kernel
theorem d_Versions_stepOnWay_1 : decode prog_12_method_7_code 1 = .ok (.getfield 23, 3) := by decide +kernel
theorem d_Versions_stepOnWay_4 : decode prog_12_method_7_code 4 = .ok (.aload_n 0, 1) := by decide +kernel
theorem d_Versions_stepOnWay_5 : decode prog_12_method_7_code 5 = .ok (.aload_n 0, 1) := by decide +kernel
theorem d_Versions_stepOnWay_6 : decode prog_12_method_7_code 6 = .ok (.getfield 27, 3) := by decide +kernel
theorem d_Versions_stepOnWay_9 : decode prog_12_method_7_code 9 = .ok (.iload_n 1, 1) := by decide +kernel
theorem d_Versions_stepOnWay_10 : decode prog_12_method_7_code 10 = .ok (.iaload, 1) := by decide +kernel
theorem d_Versions_stepOnWay_11 : decode prog_12_method_7_code 11 = .ok (.aload_n 0, 1) := by decide +kernel
theorem d_Versions_stepOnWay_12 : decode prog_12_method_7_code 12 = .ok (.getfield 27, 3) := by decide +kernel
theorem d_Versions_stepOnWay_15 : decode prog_12_method_7_code 15 = .ok (.iload_n 1, 1) := by decide +kernel
theorem d_Versions_stepOnWay_16 : decode prog_12_method_7_code 16 = .ok (.iconst 1, 1) := by decide +kernel
theorem d_Versions_stepOnWay_17 : decode prog_12_method_7_code 17 = .ok (.iadd, 1) := by decide +kernel
theorem d_Versions_stepOnWay_18 : decode prog_12_method_7_code 18 = .ok (.iaload, 1) := by decide +kernel
theorem d_Versions_stepOnWay_19 : decode prog_12_method_7_code 19 = .ok (.iload_n 2, 1) := by decide +kernel
theorem d_Versions_stepOnWay_20 : decode prog_12_method_7_code 20 = .ok (.invokevirtual 65, 3) := by decide +kernel
theorem d_Versions_stepOnWay_23 : decode prog_12_method_7_code 23 = .ok (.aaload, 1) := by decide +kernel
theorem d_Versions_stepOnWay_24 : decode prog_12_method_7_code 24 = .ok (.areturn, 1) := by decide +kernel
abbrev M_Lens_carryAlong : q_M := (⟨"LensPaths", "carryAlong", "(I)Z"⟩, prog_1_method_24_code, 4, (some .boolean), "LensPaths", [], false, 7, 161)
theorem d_Lens_carryAlong_0 : decode prog_1_method_24_code 0 = .ok (.iconst 0, 1) := by decide +kernel
theorem d_Lens_carryAlong_1 : decode prog_1_method_24_code 1 = .ok (.istore_n 2, 1) := by decide +kernel
theorem d_Lens_carryAlong_2 : decode prog_1_method_24_code 2 = .ok (.iload_n 2, 1) := by decide +kernel
theorem d_Lens_carryAlong_3 : decode prog_1_method_24_code 3 = .ok (.iload_n 1, 1) := by decide +kernel
theorem d_Lens_carryAlong_4 : decode prog_1_method_24_code 4 = .ok (.if_icmp .ge 57, 3) := by decide +kernel
theorem d_Lens_carryAlong_7 : decode prog_1_method_24_code 7 = .ok (.aload_n 0, 1) := by decide +kernel
theorem d_Lens_carryAlong_8 : decode prog_1_method_24_code 8 = .ok (.getfield 12, 3) := by decide +kernel
theorem d_Lens_carryAlong_11 : decode prog_1_method_24_code 11 = .ok (.iload_n 2, 1) := by decide +kernel
theorem d_Lens_carryAlong_12 : decode prog_1_method_24_code 12 = .ok (.iconst (-1), 1) := by decide +kernel
theorem d_Lens_carryAlong_13 : decode prog_1_method_24_code 13 = .ok (.invokevirtual 263, 3) := by decide +kernel
theorem d_Lens_carryAlong_16 : decode prog_1_method_24_code 16 = .ok (.astore_n 3, 1) := by decide +kernel
theorem d_Lens_carryAlong_17 : decode prog_1_method_24_code 17 = .ok (.aload_n 0, 1) := by decide +kernel
theorem d_Lens_carryAlong_18 : decode prog_1_method_24_code 18 = .ok (.getfield 37, 3) := by decide +kernel
theorem d_Lens_carryAlong_21 : decode prog_1_method_24_code 21 = .ok (.aload_n 0, 1) := by decide +kernel
theorem d_Lens_carryAlong_22 : decode prog_1_method_24_code 22 = .ok (.getfield 30, 3) := by decide +kernel
theorem d_Lens_carryAlong_25 : decode prog_1_method_24_code 25 = .ok (.aload_n 3, 1) := by decide +kernel
theorem d_Lens_carryAlong_26 : decode prog_1_method_24_code 26 = .ok (.aload_n 3, 1) := by decide +kernel
theorem d_Lens_carryAlong_27 : decode prog_1_method_24_code 27 = .ok (.getfield 240, 3) := by decide +kernel
theorem d_Lens_carryAlong_30 : decode prog_1_method_24_code 30 = .ok (.aload_n 0, 1) := by decide +kernel
theorem d_Lens_carryAlong_31 : decode prog_1_method_24_code 31 = .ok (.getfield 12, 3) := by decide +kernel
theorem d_Lens_carryAlong_34 : decode prog_1_method_24_code 34 = .ok (.getfield 226, 3) := by decide +kernel
theorem d_Lens_carryAlong_37 : decode prog_1_method_24_code 37 = .ok (.iload_n 2, 1) := by decide +kernel
theorem d_Lens_carryAlong_38 : decode prog_1_method_24_code 38 = .ok (.iaload, 1) := by decide +kernel
theorem d_Lens_carryAlong_39 : decode prog_1_method_24_code 39 = .ok (.if_icmp .ne 7, 3) := by decide +kernel
theorem d_Lens_carryAlong_42 : decode prog_1_method_24_code 42 = .ok (.iconst 1, 1) := by decide +kernel
theorem d_Lens_carryAlong_43 : decode prog_1_method_24_code 43 = .ok (.goto 4, 3) := by decide +kernel
theorem d_Lens_carryAlong_46 : decode prog_1_method_24_code 46 = .ok (.iconst 0, 1) := by decide +kernel
theorem d_Lens_carryAlong_47 : decode prog_1_method_24_code 47 = .ok (.invokevirtual 270, 3) := by decide +kernel
theorem d_Lens_carryAlong_50 : decode prog_1_method_24_code 50 = .ok (.ifCond .ne 5, 3) := by decide +kernel
theorem d_Lens_carryAlong_53 : decode prog_1_method_24_code 53 = .ok (.iconst 0, 1) := by decide +kernel
theorem d_Lens_carryAlong_54 : decode prog_1_method_24_code 54 = .ok (.ireturn, 1) := by decide +kernel
theorem d_Lens_carryAlong_55 : decode prog_1_method_24_code 55 = .ok (.iinc 2 1, 3) := by decide +kernel
theorem d_Lens_carryAlong_58 : decode prog_1_method_24_code 58 = .ok (.goto (-56), 3) := by decide +kernel
theorem d_Lens_carryAlong_61 : decode prog_1_method_24_code 61 = .ok (.iconst 1, 1) := by decide +kernel
theorem d_Lens_carryAlong_62 : decode prog_1_method_24_code 62 = .ok (.ireturn, 1) := by decide +kernel
abbrev M_Lens_translate : q_M := (⟨"LensPaths", "translate", "(II)I"⟩, prog_1_method_21_code, 5, (some .int), "LensPaths", [], false, 8, 184)
theorem d_Lens_translate_0 : decode prog_1_method_21_code 0 = .ok (.aload_n 0, 1) := by decide +kernel
theorem d_Lens_translate_1 : decode prog_1_method_21_code 1 = .ok (.iload_n 1, 1) := by decide +kernel
theorem d_Lens_translate_2 : decode prog_1_method_21_code 2 = .ok (.invokevirtual 163, 3) := by decide +kernel
theorem d_Lens_translate_5 : decode prog_1_method_21_code 5 = .ok (.aload_n 0, 1) := by decide +kernel
theorem d_Lens_translate_6 : decode prog_1_method_21_code 6 = .ok (.iload_n 2, 1) := by decide +kernel
theorem d_Lens_translate_7 : decode prog_1_method_21_code 7 = .ok (.invokevirtual 86, 3) := by decide +kernel
theorem d_Lens_translate_10 : decode prog_1_method_21_code 10 = .ok (.aload_n 0, 1) := by decide +kernel
theorem d_Lens_translate_11 : decode prog_1_method_21_code 11 = .ok (.getfield 12, 3) := by decide +kernel
theorem d_Lens_translate_14 : decode prog_1_method_21_code 14 = .ok (.aload_n 0, 1) := by decide +kernel
theorem d_Lens_translate_15 : decode prog_1_method_21_code 15 = .ok (.getfield 25, 3) := by decide +kernel
theorem d_Lens_translate_18 : decode prog_1_method_21_code 18 = .ok (.iload_n 1, 1) := by decide +kernel
theorem d_Lens_translate_19 : decode prog_1_method_21_code 19 = .ok (.aaload, 1) := by decide +kernel
theorem d_Lens_translate_20 : decode prog_1_method_21_code 20 = .ok (.getfield 207, 3) := by decide +kernel
theorem d_Lens_translate_23 : decode prog_1_method_21_code 23 = .ok (.iload_n 2, 1) := by decide +kernel
theorem d_Lens_translate_24 : decode prog_1_method_21_code 24 = .ok (.iconst (-1), 1) := by decide +kernel
theorem d_Lens_translate_25 : decode prog_1_method_21_code 25 = .ok (.invokevirtual 217, 3) := by decide +kernel
theorem d_Lens_translate_28 : decode prog_1_method_21_code 28 = .ok (.istore_n 3, 1) := by decide +kernel
theorem d_Lens_translate_29 : decode prog_1_method_21_code 29 = .ok (.iload_n 3, 1) := by decide +kernel
theorem d_Lens_translate_30 : decode prog_1_method_21_code 30 = .ok (.iconst (-1), 1) := by decide +kernel
theorem d_Lens_translate_31 : decode prog_1_method_21_code 31 = .ok (.if_icmp .ne 11, 3) := by decide +kernel
theorem d_Lens_translate_34 : decode prog_1_method_21_code 34 = .ok (.new 62, 3) := by decide +kernel
theorem d_Lens_translate_37 : decode prog_1_method_21_code 37 = .ok (.dup, 1) := by decide +kernel
theorem d_Lens_translate_38 : decode prog_1_method_21_code 38 = .ok (.invokespecial 64, 3) := by decide +kernel
theorem d_Lens_translate_41 : decode prog_1_method_21_code 41 = .ok (.athrow, 1) := by decide +kernel
theorem d_Lens_translate_42 : decode prog_1_method_21_code 42 = .ok (.aload_n 0, 1) := by decide +kernel
theorem d_Lens_translate_43 : decode prog_1_method_21_code 43 = .ok (.getfield 30, 3) := by decide +kernel
theorem d_Lens_translate_46 : decode prog_1_method_21_code 46 = .ok (.aload_n 0, 1) := by decide +kernel
theorem d_Lens_translate_47 : decode prog_1_method_21_code 47 = .ok (.getfield 25, 3) := by decide +kernel
theorem d_Lens_translate_50 : decode prog_1_method_21_code 50 = .ok (.iload_n 1, 1) := by decide +kernel
theorem d_Lens_translate_51 : decode prog_1_method_21_code 51 = .ok (.aaload, 1) := by decide +kernel
theorem d_Lens_translate_52 : decode prog_1_method_21_code 52 = .ok (.invokevirtual 166, 3) := by decide +kernel
theorem d_Lens_translate_55 : decode prog_1_method_21_code 55 = .ok (.aload_n 0, 1) := by decide +kernel
theorem d_Lens_translate_56 : decode prog_1_method_21_code 56 = .ok (.iload_n 3, 1) := by decide +kernel
theorem d_Lens_translate_57 : decode prog_1_method_21_code 57 = .ok (.invokevirtual 220, 3) := by decide +kernel
theorem d_Lens_translate_60 : decode prog_1_method_21_code 60 = .ok (.ifCond .ne 11, 3) := by decide +kernel
theorem d_Lens_translate_63 : decode prog_1_method_21_code 63 = .ok (.new 223, 3) := by decide +kernel
theorem d_Lens_translate_66 : decode prog_1_method_21_code 66 = .ok (.dup, 1) := by decide +kernel
theorem d_Lens_translate_67 : decode prog_1_method_21_code 67 = .ok (.invokespecial 225, 3) := by decide +kernel
theorem d_Lens_translate_70 : decode prog_1_method_21_code 70 = .ok (.athrow, 1) := by decide +kernel
theorem d_Lens_translate_71 : decode prog_1_method_21_code 71 = .ok (.aload_n 0, 1) := by decide +kernel
theorem d_Lens_translate_72 : decode prog_1_method_21_code 72 = .ok (.getfield 25, 3) := by decide +kernel
theorem d_Lens_translate_75 : decode prog_1_method_21_code 75 = .ok (.iload_n 1, 1) := by decide +kernel
theorem d_Lens_translate_76 : decode prog_1_method_21_code 76 = .ok (.aaload, 1) := by decide +kernel
theorem d_Lens_translate_77 : decode prog_1_method_21_code 77 = .ok (.astore 4, 2) := by decide +kernel
theorem d_Lens_translate_79 : decode prog_1_method_21_code 79 = .ok (.aload_n 0, 1) := by decide +kernel
theorem d_Lens_translate_80 : decode prog_1_method_21_code 80 = .ok (.getfield 25, 3) := by decide +kernel
theorem d_Lens_translate_83 : decode prog_1_method_21_code 83 = .ok (.iload_n 1, 1) := by decide +kernel
theorem d_Lens_translate_84 : decode prog_1_method_21_code 84 = .ok (.aload_n 0, 1) := by decide +kernel
theorem d_Lens_translate_85 : decode prog_1_method_21_code 85 = .ok (.getfield 30, 3) := by decide +kernel
theorem d_Lens_translate_88 : decode prog_1_method_21_code 88 = .ok (.aastore, 1) := by decide +kernel
theorem d_Lens_translate_89 : decode prog_1_method_21_code 89 = .ok (.aload_n 0, 1) := by decide +kernel
theorem d_Lens_translate_90 : decode prog_1_method_21_code 90 = .ok (.aload 4, 2) := by decide +kernel
theorem d_Lens_translate_92 : decode prog_1_method_21_code 92 = .ok (.putfield 30, 3) := by decide +kernel
theorem d_Lens_translate_95 : decode prog_1_method_21_code 95 = .ok (.iload_n 3, 1) := by decide +kernel
theorem d_Lens_translate_96 : decode prog_1_method_21_code 96 = .ok (.ireturn, 1) := by decide +kernel
section Pass
variable {g : q_G} {sz c r po : Nat} {T : q_T} {I : q_I} {R : q_R} {J : q_J} {p : KP} {P : Nat → Prop} {X : KV}
theorem c_xp.imp {Q : Nat → Prop} {h' : q_H} (h : c_xp c r sz T I R J P X h') (hq : ∀ s, Q s → P s) : c_xp c r sz T I R J Q X h' := by
  obtain ⟨I', h1, h2, h3, h4⟩ := h
  exact ⟨I', h1, h2, h3.imp hq, h4⟩
theorem c_Carrier_pass {k : Nat} {fw : Bool} (h : c_cr c r po p T I R) (hok : p_ok p) (h8 : p.kind ≤ 8) (hX : c_xx c r P X I) (hk : k < 128) (hg : t_pre fw p k P X) : q_Ci g M_Carrier_pass [.ref c, .ref po, .ref r, .int (nI k), .int (p_b fw)] (sz, T, I, R, J) 0 0 (fun v h' => (v = 1 ∧ (t_go fw p k X).2.2 = X.2.2 ∧ c_xp c r sz T I R J (t_lv p P) (t_go fw p k X) h') ∨ (v = 0 ∧ (t_go fw p k X).2.2 = true ∧ h' = (sz, T, I, R, J))) := by
  have hh := h
  obtain ⟨h1, h2, h3, h4, h5, h6⟩ := h
  have tp := h4.1
  have hL := h1
  obtain ⟨g1, g2, g3, g4, g5⟩ := hg
  have lv : P p.sl → p.kind ≠ 5 → ∀ s, t_lv p P s → P s := fun z1 z2 s z => by
    rcases z with z | z | z
    · exact z
    · rw [z]; exact z1
    · exact absurd z.1 z2
  refine q_C.of (ls0 := [some (.ref c), some (.ref po), some (.ref r), some (.int (nI k)), some (.int (p_b fw))]) (by decide) rfl (by decide) (Nat.le_of_ble_eq_true rfl) rfl ?_
  refine q_aload_n d_Carrier_pass_0 rfl rfl ?_
  refine q_getI (ci := 4) (fk := 0) d_Carrier_pass_1 rfl (Nat.le_of_ble_eq_true rfl) w_491 (fun _ _ => rfl) (by first | assumption | rfl | (simp (disch := omega) only [q_upT_self, q_upT_ne, q_upR_self, q_upR_nea, q_upR_nk, s_T_lo, s_T_hi, s_R_ne, *]; done) | (simp (disch := omega) only [q_upT_self, q_upT_ne, q_upR_self, q_upR_nea, q_upR_nk, s_T_lo, s_T_hi, s_R_ne, *]; rfl)) ?_
  rw [h4.2.1]
  have kt : (nI p.kind).toInt = p.kind := nI_toInt (by omega)
  have dflt : (p.kind = 0 ∨ p.kind = 4) → ∀ mcc msc : Nat, mcc ≤ 0 → msc ≤ 0 → q_V g M_Carrier_pass 0 0 mcc msc (sz, T, I, R, J) (fun o h' => ∃ v : Int32, o = .inl (some (.int v)) ∧ ((v = 1 ∧ (t_go fw p k X).2.2 = X.2.2 ∧ c_xp c r sz T I R J (t_lv p P) (t_go fw p k X) h') ∨ (v = 0 ∧ (t_go fw p k X).2.2 = true ∧ h' = (sz, T, I, R, J)))) 136 [some (.ref c), some (.ref po), some (.ref r), some (.int (nI k)), some (.int (p_b fw))] [] := by
    intro hz mcc msc m1 m2
    refine q_iconst (v := nI 1) d_Carrier_pass_136 (by decide) ?_
    refine q_zret d_Carrier_pass_137 rfl (by first | exact Or.inl rfl | exact Or.inr rfl | assumption) (by omega) (by omega) ?_
    rw [t_go_0 hz]
    exact ⟨_, rfl, Or.inl ⟨rfl, rfl, I, rfl, c_xf.refl c r I, hX.1.imp (lv (g1 (by omega)) (by omega)), hX.2⟩⟩
  rcases (by omega : p.kind = 0 ∨ p.kind = 1 ∨ p.kind = 2 ∨ p.kind = 3 ∨ p.kind = 4 ∨ p.kind = 5 ∨ p.kind = 6 ∨ p.kind = 7 ∨ p.kind = 8) with hz | hz | hz | hz | hz | hz | hz | hz | hz
  · exact q_tableOut (tgt := 136) d_Carrier_pass_4 (Or.inl (by omega)) (by omega) (dflt (Or.inl hz) _ _ (by omega) (by omega))
  · refine q_tableIn (tgt := 52) (off := 48) d_Carrier_pass_4 (by omega) (by omega) (by rw [kt, hz]; rfl) (by omega) ?_
    rw [t_go_1 hz]
    cases fw with
    | true =>
      refine q_aload_n d_Carrier_pass_52 rfl rfl ?_
      refine q_aload_n d_Carrier_pass_53 rfl rfl ?_
      refine q_aload_n d_Carrier_pass_54 rfl rfl ?_
      refine q_iload_n d_Carrier_pass_55 rfl rfl ?_
      refine q_iload d_Carrier_pass_56 rfl ?_
      refine q_callVv (M2 := M_Carrier_comeOrGo) d_Carrier_pass_58 ⟨(Nat.le_of_ble_eq_true rfl), (Nat.le_of_ble_eq_true rfl), w_928, w_8, ⟨by decide, by decide⟩, show _ = some 4 by decide +kernel⟩ w_925 w_927 (ci := 0) rfl s_28 hL.1 rfl (Nat.le_of_ble_eq_true rfl) (by omega) (by omega) (c_Carrier_arrive hh hX hk) ?_
      rintro h' hx
      refine q_iconst (v := nI 1) d_Carrier_pass_61 (by decide) ?_
      refine q_zret d_Carrier_pass_62 rfl (by first | exact Or.inl rfl | exact Or.inr rfl | assumption) (by omega) (by omega) ?_
      refine ⟨_, rfl, Or.inl ⟨rfl, rfl, hx.imp fun s z => ?_⟩⟩
      rcases z with z | z | z
      · exact Or.inl z
      · exact Or.inr z
      · exact absurd z.1 (by omega)
    | false =>
      refine q_aload_n d_Carrier_pass_52 rfl rfl ?_
      refine q_aload_n d_Carrier_pass_53 rfl rfl ?_
      refine q_aload_n d_Carrier_pass_54 rfl rfl ?_
      refine q_iload_n d_Carrier_pass_55 rfl rfl ?_
      refine q_iload d_Carrier_pass_56 rfl ?_
      refine q_callVv (M2 := M_Carrier_comeOrGo) d_Carrier_pass_58 ⟨(Nat.le_of_ble_eq_true rfl), (Nat.le_of_ble_eq_true rfl), w_928, w_8, ⟨by decide, by decide⟩, show _ = some 4 by decide +kernel⟩ w_925 w_927 (ci := 0) rfl s_28 hL.1 rfl (Nat.le_of_ble_eq_true rfl) (by omega) (by omega) (c_Carrier_depart hh hX (g1 (by rintro (z | z); exact absurd z.2 (by decide); omega)) hk) ?_
      rintro h' hx
      refine q_iconst (v := nI 1) d_Carrier_pass_61 (by decide) ?_
      refine q_zret d_Carrier_pass_62 rfl (by first | exact Or.inl rfl | exact Or.inr rfl | assumption) (by omega) (by omega) ?_
      exact ⟨_, rfl, Or.inl ⟨rfl, rfl, hx.imp (lv (g1 (by rintro (z | z); exact absurd z.2 (by decide); omega)) (by omega))⟩⟩
  · refine q_tableIn (tgt := 63) (off := 59) d_Carrier_pass_4 (by omega) (by omega) (by rw [kt, hz]; rfl) (by omega) ?_
    rw [t_go_2 hz]
    cases fw with
    | true =>
      refine q_aload_n d_Carrier_pass_63 rfl rfl ?_
      refine q_aload_n d_Carrier_pass_64 rfl rfl ?_
      refine q_aload_n d_Carrier_pass_65 rfl rfl ?_
      refine q_iload_n d_Carrier_pass_66 rfl rfl ?_
      refine q_iload d_Carrier_pass_67 rfl ?_
      refine q_if_ne (tgt := 76) d_Carrier_pass_69 rfl (fun hc => ?_) (fun hc => ?_)
      rotate_left
      · exact absurd hc (by decide)
      refine q_iconst (v := nI 0) d_Carrier_pass_76 (by decide) ?_
      refine q_callVv (M2 := M_Carrier_comeOrGo) d_Carrier_pass_77 ⟨(Nat.le_of_ble_eq_true rfl), (Nat.le_of_ble_eq_true rfl), w_928, w_8, ⟨by decide, by decide⟩, show _ = some 4 by decide +kernel⟩ w_925 w_927 (ci := 0) rfl s_28 hL.1 rfl (Nat.le_of_ble_eq_true rfl) (by omega) (by omega) (c_Carrier_depart hh hX (g1 (by rintro (z | z); omega; exact absurd z.2 (by decide))) hk) ?_
      rintro h' hx
      refine q_iconst (v := nI 1) d_Carrier_pass_80 (by decide) ?_
      refine q_zret d_Carrier_pass_81 rfl (by first | exact Or.inl rfl | exact Or.inr rfl | assumption) (by omega) (by omega) ?_
      exact ⟨_, rfl, Or.inl ⟨rfl, rfl, hx.imp (lv (g1 (by rintro (z | z); omega; exact absurd z.2 (by decide))) (by omega))⟩⟩
    | false =>
      refine q_aload_n d_Carrier_pass_63 rfl rfl ?_
      refine q_aload_n d_Carrier_pass_64 rfl rfl ?_
      refine q_aload_n d_Carrier_pass_65 rfl rfl ?_
      refine q_iload_n d_Carrier_pass_66 rfl rfl ?_
      refine q_iload d_Carrier_pass_67 rfl ?_
      refine q_if_ne (tgt := 76) d_Carrier_pass_69 rfl (fun hc => ?_) (fun hc => ?_)
      · exact absurd rfl hc
      refine q_iconst (v := nI 1) d_Carrier_pass_72 (by decide) ?_
      refine q_goto (tgt := 77) d_Carrier_pass_73 rfl ?_
      refine q_callVv (M2 := M_Carrier_comeOrGo) d_Carrier_pass_77 ⟨(Nat.le_of_ble_eq_true rfl), (Nat.le_of_ble_eq_true rfl), w_928, w_8, ⟨by decide, by decide⟩, show _ = some 4 by decide +kernel⟩ w_925 w_927 (ci := 0) rfl s_28 hL.1 rfl (Nat.le_of_ble_eq_true rfl) (by omega) (by omega) (c_Carrier_arrive hh hX hk) ?_
      rintro h' hx
      refine q_iconst (v := nI 1) d_Carrier_pass_80 (by decide) ?_
      refine q_zret d_Carrier_pass_81 rfl (by first | exact Or.inl rfl | exact Or.inr rfl | assumption) (by omega) (by omega) ?_
      refine ⟨_, rfl, Or.inl ⟨rfl, rfl, hx.imp fun s z => ?_⟩⟩
      rcases z with z | z | z
      · exact Or.inl z
      · exact Or.inr z
      · exact absurd z.1 (by omega)
  · refine q_tableIn (tgt := 82) (off := 78) d_Carrier_pass_4 (by omega) (by omega) (by rw [kt, hz]; rfl) (by omega) ?_
    rw [t_go_3 hz]
    have hP := g1 (by omega)
    cases fw with
    | true =>
      refine q_iload d_Carrier_pass_82 rfl ?_
      refine q_if_eq (tgt := 97) d_Carrier_pass_84 rfl (fun hc => ?_) (fun hc => ?_)
      · exact absurd hc (by decide)
      refine q_aload_n d_Carrier_pass_87 rfl rfl ?_
      refine q_aload_n d_Carrier_pass_88 rfl rfl ?_
      refine q_aload_n d_Carrier_pass_89 rfl rfl ?_
      refine q_iload_n d_Carrier_pass_90 rfl rfl ?_
      refine q_callVv (M2 := M_Carrier_wrap) d_Carrier_pass_91 ⟨(Nat.le_of_ble_eq_true rfl), (Nat.le_of_ble_eq_true rfl), w_938, w_8, ⟨by decide, by decide⟩, show _ = some 3 by decide +kernel⟩ w_935 w_937 (ci := 0) rfl s_30 hL.1 rfl (Nat.le_of_ble_eq_true rfl) (by omega) (by omega) (c_Carrier_wrap hh hX hP hk (g2 hz rfl)) ?_
      rintro h' hx
      refine q_goto (tgt := 104) d_Carrier_pass_94 rfl ?_
      refine q_iconst (v := nI 1) d_Carrier_pass_104 (by decide) ?_
      refine q_zret d_Carrier_pass_105 rfl (by first | exact Or.inl rfl | exact Or.inr rfl | assumption) (by omega) (by omega) ?_
      exact ⟨_, rfl, Or.inl ⟨rfl, rfl, hx.imp (lv hP (by omega))⟩⟩
    | false =>
      refine q_iload d_Carrier_pass_82 rfl ?_
      refine q_if_eq (tgt := 97) d_Carrier_pass_84 rfl (fun hc => ?_) (fun hc => ?_)
      rotate_left
      · exact absurd rfl hc
      refine q_aload_n d_Carrier_pass_97 rfl rfl ?_
      refine q_aload_n d_Carrier_pass_98 rfl rfl ?_
      refine q_aload_n d_Carrier_pass_99 rfl rfl ?_
      refine q_iload_n d_Carrier_pass_100 rfl rfl ?_
      refine q_callVv (M2 := M_Carrier_unwrap) d_Carrier_pass_101 ⟨(Nat.le_of_ble_eq_true rfl), (Nat.le_of_ble_eq_true rfl), w_951, w_8, ⟨by decide, by decide⟩, show _ = some 3 by decide +kernel⟩ w_948 w_950 (ci := 0) rfl s_31 hL.1 rfl (Nat.le_of_ble_eq_true rfl) (by omega) (by omega) (c_Carrier_unwrap hh hX hP hk) ?_
      rintro h' hx
      refine q_iconst (v := nI 1) d_Carrier_pass_104 (by decide) ?_
      refine q_zret d_Carrier_pass_105 rfl (by first | exact Or.inl rfl | exact Or.inr rfl | assumption) (by omega) (by omega) ?_
      exact ⟨_, rfl, Or.inl ⟨rfl, rfl, hx.imp (lv hP (by omega))⟩⟩
  · exact q_tableIn (tgt := 136) (off := 132) d_Carrier_pass_4 (by omega) (by omega) (by rw [kt, hz]; rfl) (by omega) (dflt (Or.inr hz) _ _ (by omega) (by omega))
  · refine q_tableIn (tgt := 106) (off := 102) d_Carrier_pass_4 (by omega) (by omega) (by rw [kt, hz]; rfl) (by omega) ?_
    rw [t_go_5 hz]
    have hP := g1 (by omega)
    cases fw with
    | true =>
      refine q_iload d_Carrier_pass_106 rfl ?_
      refine q_if_eq (tgt := 119) d_Carrier_pass_108 rfl (fun hc => ?_) (fun hc => ?_)
      · exact absurd hc (by decide)
      refine q_aload_n d_Carrier_pass_111 rfl rfl ?_
      refine q_aload_n d_Carrier_pass_112 rfl rfl ?_
      refine q_callVi (M2 := M_Carrier_split) d_Carrier_pass_113 ⟨(Nat.le_of_ble_eq_true rfl), (Nat.le_of_ble_eq_true rfl), w_955, w_8, ⟨by decide, by decide⟩, show _ = some 1 by decide +kernel⟩ w_952 w_954 (ci := 0) rfl s_32 hL.1 rfl (Nat.le_of_ble_eq_true rfl) (by omega) (by omega) (c_Carrier_split hh hX hP hz (g3 hz).1 (hok.2 hz)) ?_
      rintro _ h' ⟨rfl, hx⟩
      refine q_goto (tgt := 124) d_Carrier_pass_116 rfl ?_
      refine q_zret d_Carrier_pass_124 rfl (by first | exact Or.inl rfl | exact Or.inr rfl | assumption) (by omega) (by omega) ?_
      refine ⟨_, rfl, Or.inl ⟨rfl, rfl, hx.imp fun s z => ?_⟩⟩
      rcases z with z | z | z
      · exact Or.inl z
      · rw [z]; exact Or.inl hP
      · exact Or.inr z.2
    | false =>
      refine q_iload d_Carrier_pass_106 rfl ?_
      refine q_if_eq (tgt := 119) d_Carrier_pass_108 rfl (fun hc => ?_) (fun hc => ?_)
      rotate_left
      · exact absurd rfl hc
      obtain ⟨e1, e2⟩ := (g3 hz).2 rfl
      refine q_aload_n d_Carrier_pass_119 rfl rfl ?_
      refine q_aload_n d_Carrier_pass_120 rfl rfl ?_
      refine q_callVi (M2 := M_Carrier_join) d_Carrier_pass_121 ⟨(Nat.le_of_ble_eq_true rfl), (Nat.le_of_ble_eq_true rfl), w_963, w_8, ⟨by decide, by decide⟩, show _ = some 1 by decide +kernel⟩ w_960 w_962 (ci := 0) rfl s_33 hL.1 rfl (Nat.le_of_ble_eq_true rfl) (by omega) (by omega) (c_Carrier_join hh hX hP e1 hz (g3 hz).1 e2) ?_
      rintro v h' hx
      have hv01 : v = 0 ∨ v = 1 := by
        rcases hx with ⟨z, -⟩ | ⟨z, -⟩
        · exact Or.inr z
        · exact Or.inl z
      refine q_zret d_Carrier_pass_124 rfl (by first | exact Or.inl rfl | exact Or.inr rfl | assumption) (by omega) (by omega) ?_
      refine ⟨_, rfl, ?_⟩
      rcases hx with ⟨rfl, x2, hx⟩ | hx
      · refine Or.inl ⟨rfl, x2, hx.imp fun s z => ?_⟩
        rcases z with z | z | z
        · exact z
        · rw [z]; exact hP
        · rw [z.2]; exact e1
      · exact Or.inr hx
  · refine q_tableIn (tgt := 125) (off := 121) d_Carrier_pass_4 (by omega) (by omega) (by rw [kt, hz]; rfl) (by omega) ?_
    rw [t_go_c (by omega) (by omega)]
    have hP := g1 (by omega)
    refine q_aload_n d_Carrier_pass_125 rfl rfl ?_
    refine q_aload_n d_Carrier_pass_126 rfl rfl ?_
    refine q_aload_n d_Carrier_pass_127 rfl rfl ?_
    refine q_iload_n d_Carrier_pass_128 rfl rfl ?_
    refine q_iload d_Carrier_pass_129 rfl ?_
    refine q_callVv (M2 := M_Carrier_change) d_Carrier_pass_131 ⟨(Nat.le_of_ble_eq_true rfl), (Nat.le_of_ble_eq_true rfl), w_971, w_8, ⟨by decide, by decide⟩, show _ = some 4 by decide +kernel⟩ w_968 w_970 (ci := 0) rfl s_34 hL.1 rfl (Nat.le_of_ble_eq_true rfl) (by omega) (by omega) (c_Carrier_change hh hok (by omega) (by omega) hX hP hk (fun _ => g4 (by omega)) (g5 (by omega))) ?_
    rintro h' hx
    refine q_iconst (v := nI 1) d_Carrier_pass_134 (by decide) ?_
    refine q_zret d_Carrier_pass_135 rfl (by first | exact Or.inl rfl | exact Or.inr rfl | assumption) (by omega) (by omega) ?_
    exact ⟨_, rfl, Or.inl ⟨rfl, t_chg_c, hx.imp (lv hP (by omega))⟩⟩
  · refine q_tableIn (tgt := 125) (off := 121) d_Carrier_pass_4 (by omega) (by omega) (by rw [kt, hz]; rfl) (by omega) ?_
    rw [t_go_c (by omega) (by omega)]
    have hP := g1 (by omega)
    refine q_aload_n d_Carrier_pass_125 rfl rfl ?_
    refine q_aload_n d_Carrier_pass_126 rfl rfl ?_
    refine q_aload_n d_Carrier_pass_127 rfl rfl ?_
    refine q_iload_n d_Carrier_pass_128 rfl rfl ?_
    refine q_iload d_Carrier_pass_129 rfl ?_
    refine q_callVv (M2 := M_Carrier_change) d_Carrier_pass_131 ⟨(Nat.le_of_ble_eq_true rfl), (Nat.le_of_ble_eq_true rfl), w_971, w_8, ⟨by decide, by decide⟩, show _ = some 4 by decide +kernel⟩ w_968 w_970 (ci := 0) rfl s_34 hL.1 rfl (Nat.le_of_ble_eq_true rfl) (by omega) (by omega) (c_Carrier_change hh hok (by omega) (by omega) hX hP hk (fun _ => g4 (by omega)) (g5 (by omega))) ?_
    rintro h' hx
    refine q_iconst (v := nI 1) d_Carrier_pass_134 (by decide) ?_
    refine q_zret d_Carrier_pass_135 rfl (by first | exact Or.inl rfl | exact Or.inr rfl | assumption) (by omega) (by omega) ?_
    exact ⟨_, rfl, Or.inl ⟨rfl, t_chg_c, hx.imp (lv hP (by omega))⟩⟩
  · refine q_tableIn (tgt := 125) (off := 121) d_Carrier_pass_4 (by omega) (by omega) (by rw [kt, hz]; rfl) (by omega) ?_
    rw [t_go_c (by omega) (by omega)]
    have hP := g1 (by omega)
    refine q_aload_n d_Carrier_pass_125 rfl rfl ?_
    refine q_aload_n d_Carrier_pass_126 rfl rfl ?_
    refine q_aload_n d_Carrier_pass_127 rfl rfl ?_
    refine q_iload_n d_Carrier_pass_128 rfl rfl ?_
    refine q_iload d_Carrier_pass_129 rfl ?_
    refine q_callVv (M2 := M_Carrier_change) d_Carrier_pass_131 ⟨(Nat.le_of_ble_eq_true rfl), (Nat.le_of_ble_eq_true rfl), w_971, w_8, ⟨by decide, by decide⟩, show _ = some 4 by decide +kernel⟩ w_968 w_970 (ci := 0) rfl s_34 hL.1 rfl (Nat.le_of_ble_eq_true rfl) (by omega) (by omega) (c_Carrier_change hh hok (by omega) (by omega) hX hP hk (fun z => absurd hz z) (g5 (by omega))) ?_
    rintro h' hx
    refine q_iconst (v := nI 1) d_Carrier_pass_134 (by decide) ?_
    refine q_zret d_Carrier_pass_135 rfl (by first | exact Or.inl rfl | exact Or.inr rfl | assumption) (by omega) (by omega) ?_
    exact ⟨_, rfl, Or.inl ⟨rfl, t_chg_c, hx.imp (lv hP (by omega))⟩⟩
end Pass
