/-! end: the object's side -/
abbrev M_Step_init : q_M := (⟨"LensPaths$Step", "<init>", "(ILLensPaths$Draft;I)V"⟩, prog_10_method_1_code, 5, none, "LensPaths$Step", [], true, 1, 20)
theorem d_Step_init_0 : decode prog_10_method_1_code 0 = .ok (.aload_n 0, 1) := by decide +kernel
theorem d_Step_init_1 : decode prog_10_method_1_code 1 = .ok (.invokespecial 3, 3) := by decide +kernel
theorem d_Step_init_4 : decode prog_10_method_1_code 4 = .ok (.aload_n 0, 1) := by decide +kernel
theorem d_Step_init_5 : decode prog_10_method_1_code 5 = .ok (.bipush 8, 2) := by decide +kernel
theorem d_Step_init_7 : decode prog_10_method_1_code 7 = .ok (.anewarray 9, 3) := by decide +kernel
theorem d_Step_init_10 : decode prog_10_method_1_code 10 = .ok (.putfield 11, 3) := by decide +kernel
theorem d_Step_init_13 : decode prog_10_method_1_code 13 = .ok (.aload_n 0, 1) := by decide +kernel
theorem d_Step_init_14 : decode prog_10_method_1_code 14 = .ok (.iload_n 1, 1) := by decide +kernel
theorem d_Step_init_15 : decode prog_10_method_1_code 15 = .ok (.putfield 17, 3) := by decide +kernel
theorem d_Step_init_18 : decode prog_10_method_1_code 18 = .ok (.aload_n 0, 1) := by decide +kernel
theorem d_Step_init_19 : decode prog_10_method_1_code 19 = .ok (.aload_n 2, 1) := by decide +kernel
theorem d_Step_init_20 : decode prog_10_method_1_code 20 = .ok (.getfield 21, 3) := by decide +kernel
theorem d_Step_init_23 : decode prog_10_method_1_code 23 = .ok (.putfield 26, 3) := by decide +kernel
theorem d_Step_init_26 : decode prog_10_method_1_code 26 = .ok (.aload_n 0, 1) := by decide +kernel
theorem d_Step_init_27 : decode prog_10_method_1_code 27 = .ok (.iload_n 3, 1) := by decide +kernel
theorem d_Step_init_28 : decode prog_10_method_1_code 28 = .ok (.putfield 27, 3) := by decide +kernel
theorem d_Step_init_31 : decode prog_10_method_1_code 31 = .ok (.aload_n 0, 1) := by decide +kernel
theorem d_Step_init_32 : decode prog_10_method_1_code 32 = .ok (.aload_n 2, 1) := by decide +kernel
theorem d_Step_init_33 : decode prog_10_method_1_code 33 = .ok (.getfield 30, 3) := by decide +kernel
theorem d_Step_init_36 : decode prog_10_method_1_code 36 = .ok (.putfield 33, 3) := by decide +kernel
theorem d_Step_init_39 : decode prog_10_method_1_code 39 = .ok (.aload_n 0, 1) := by decide +kernel
theorem d_Step_init_40 : decode prog_10_method_1_code 40 = .ok (.aload_n 2, 1) := by decide +kernel
theorem d_Step_init_41 : decode prog_10_method_1_code 41 = .ok (.getfield 34, 3) := by decide +kernel
theorem d_Step_init_44 : decode prog_10_method_1_code 44 = .ok (.putfield 37, 3) := by decide +kernel
theorem d_Step_init_47 : decode prog_10_method_1_code 47 = .ok (.aload_n 0, 1) := by decide +kernel
theorem d_Step_init_48 : decode prog_10_method_1_code 48 = .ok (.aload_n 2, 1) := by decide +kernel
theorem d_Step_init_49 : decode prog_10_method_1_code 49 = .ok (.getfield 38, 3) := by decide +kernel
theorem d_Step_init_52 : decode prog_10_method_1_code 52 = .ok (.getfield 42, 3) := by decide +kernel
theorem d_Step_init_55 : decode prog_10_method_1_code 55 = .ok (.newarray .int, 2) := by decide +kernel
theorem d_Step_init_57 : decode prog_10_method_1_code 57 = .ok (.putfield 45, 3) := by decide +kernel
theorem d_Step_init_60 : decode prog_10_method_1_code 60 = .ok (.iconst 0, 1) := by decide +kernel
theorem d_Step_init_61 : decode prog_10_method_1_code 61 = .ok (.istore 4, 2) := by decide +kernel
theorem d_Step_init_63 : decode prog_10_method_1_code 63 = .ok (.iload 4, 2) := by decide +kernel
theorem d_Step_init_65 : decode prog_10_method_1_code 65 = .ok (.aload_n 0, 1) := by decide +kernel
theorem d_Step_init_66 : decode prog_10_method_1_code 66 = .ok (.getfield 33, 3) := by decide +kernel
theorem d_Step_init_69 : decode prog_10_method_1_code 69 = .ok (.if_icmp .ge 23, 3) := by decide +kernel
theorem d_Step_init_72 : decode prog_10_method_1_code 72 = .ok (.aload_n 0, 1) := by decide +kernel
theorem d_Step_init_73 : decode prog_10_method_1_code 73 = .ok (.getfield 11, 3) := by decide +kernel
theorem d_Step_init_76 : decode prog_10_method_1_code 76 = .ok (.iload 4, 2) := by decide +kernel
theorem d_Step_init_78 : decode prog_10_method_1_code 78 = .ok (.aload_n 2, 1) := by decide +kernel
theorem d_Step_init_79 : decode prog_10_method_1_code 79 = .ok (.getfield 49, 3) := by decide +kernel
theorem d_Step_init_82 : decode prog_10_method_1_code 82 = .ok (.iload 4, 2) := by decide +kernel
theorem d_Step_init_84 : decode prog_10_method_1_code 84 = .ok (.aaload, 1) := by decide +kernel
theorem d_Step_init_85 : decode prog_10_method_1_code 85 = .ok (.aastore, 1) := by decide +kernel
theorem d_Step_init_86 : decode prog_10_method_1_code 86 = .ok (.iinc 4 1, 3) := by decide +kernel
theorem d_Step_init_89 : decode prog_10_method_1_code 89 = .ok (.goto (-26), 3) := by decide +kernel
theorem d_Step_init_92 : decode prog_10_method_1_code 92 = .ok (.iconst 0, 1) := by decide +kernel
theorem d_Step_init_93 : decode prog_10_method_1_code 93 = .ok (.istore 4, 2) := by decide +kernel
theorem d_Step_init_95 : decode prog_10_method_1_code 95 = .ok (.iload 4, 2) := by decide +kernel
theorem d_Step_init_97 : decode prog_10_method_1_code 97 = .ok (.aload_n 0, 1) := by decide +kernel
theorem d_Step_init_98 : decode prog_10_method_1_code 98 = .ok (.getfield 45, 3) := by decide +kernel
theorem d_Step_init_101 : decode prog_10_method_1_code 101 = .ok (.arraylength, 1) := by decide +kernel
theorem d_Step_init_102 : decode prog_10_method_1_code 102 = .ok (.if_icmp .ge 29, 3) := by decide +kernel
theorem d_Step_init_105 : decode prog_10_method_1_code 105 = .ok (.aload_n 0, 1) := by decide +kernel
theorem d_Step_init_106 : decode prog_10_method_1_code 106 = .ok (.getfield 45, 3) := by decide +kernel
theorem d_Step_init_109 : decode prog_10_method_1_code 109 = .ok (.iload 4, 2) := by decide +kernel
theorem d_Step_init_111 : decode prog_10_method_1_code 111 = .ok (.aload_n 2, 1) := by decide +kernel
theorem d_Step_init_112 : decode prog_10_method_1_code 112 = .ok (.getfield 38, 3) := by decide +kernel
theorem d_Step_init_115 : decode prog_10_method_1_code 115 = .ok (.getfield 50, 3) := by decide +kernel
theorem d_Step_init_118 : decode prog_10_method_1_code 118 = .ok (.iload 4, 2) := by decide +kernel
theorem d_Step_init_120 : decode prog_10_method_1_code 120 = .ok (.aaload, 1) := by decide +kernel
theorem d_Step_init_121 : decode prog_10_method_1_code 121 = .ok (.getfield 54, 3) := by decide +kernel
theorem d_Step_init_124 : decode prog_10_method_1_code 124 = .ok (.iastore, 1) := by decide +kernel
theorem d_Step_init_125 : decode prog_10_method_1_code 125 = .ok (.iinc 4 1, 3) := by decide +kernel
theorem d_Step_init_128 : decode prog_10_method_1_code 128 = .ok (.goto (-33), 3) := by decide +kernel
theorem d_Step_init_131 : decode prog_10_method_1_code 131 = .ok (.return_, 1) := by decide +kernel
abbrev M_Versions_addVersion : q_M := (⟨"LensPaths$Versions", "addVersion", "(LLensPaths$Schema;)I"⟩, prog_12_method_4_code, 2, (some .int), "LensPaths$Versions", [], false, 3, 61)
theorem d_Versions_addVersion_0 : decode prog_12_method_4_code 0 = .ok (.aload_n 0, 1) := by decide +kernel
theorem d_Versions_addVersion_1 : decode prog_12_method_4_code 1 = .ok (.getfield 11, 3) := by decide +kernel
theorem d_Versions_addVersion_4 : decode prog_12_method_4_code 4 = .ok (.aload_n 0, 1) := by decide +kernel
theorem d_Versions_addVersion_5 : decode prog_12_method_4_code 5 = .ok (.getfield 17, 3) := by decide +kernel
theorem d_Versions_addVersion_8 : decode prog_12_method_4_code 8 = .ok (.new 9, 3) := by decide +kernel
theorem d_Versions_addVersion_11 : decode prog_12_method_4_code 11 = .ok (.dup, 1) := by decide +kernel
theorem d_Versions_addVersion_12 : decode prog_12_method_4_code 12 = .ok (.invokespecial 34, 3) := by decide +kernel
theorem d_Versions_addVersion_15 : decode prog_12_method_4_code 15 = .ok (.aastore, 1) := by decide +kernel
theorem d_Versions_addVersion_16 : decode prog_12_method_4_code 16 = .ok (.aload_n 0, 1) := by decide +kernel
theorem d_Versions_addVersion_17 : decode prog_12_method_4_code 17 = .ok (.getfield 11, 3) := by decide +kernel
theorem d_Versions_addVersion_20 : decode prog_12_method_4_code 20 = .ok (.aload_n 0, 1) := by decide +kernel
theorem d_Versions_addVersion_21 : decode prog_12_method_4_code 21 = .ok (.getfield 17, 3) := by decide +kernel
theorem d_Versions_addVersion_24 : decode prog_12_method_4_code 24 = .ok (.aaload, 1) := by decide +kernel
theorem d_Versions_addVersion_25 : decode prog_12_method_4_code 25 = .ok (.aload_n 1, 1) := by decide +kernel
theorem d_Versions_addVersion_26 : decode prog_12_method_4_code 26 = .ok (.invokevirtual 38, 3) := by decide +kernel
theorem d_Versions_addVersion_29 : decode prog_12_method_4_code 29 = .ok (.aload_n 0, 1) := by decide +kernel
theorem d_Versions_addVersion_30 : decode prog_12_method_4_code 30 = .ok (.dup, 1) := by decide +kernel
theorem d_Versions_addVersion_31 : decode prog_12_method_4_code 31 = .ok (.getfield 17, 3) := by decide +kernel
theorem d_Versions_addVersion_34 : decode prog_12_method_4_code 34 = .ok (.iconst 1, 1) := by decide +kernel
theorem d_Versions_addVersion_35 : decode prog_12_method_4_code 35 = .ok (.iadd, 1) := by decide +kernel
theorem d_Versions_addVersion_36 : decode prog_12_method_4_code 36 = .ok (.putfield 17, 3) := by decide +kernel
theorem d_Versions_addVersion_39 : decode prog_12_method_4_code 39 = .ok (.aload_n 0, 1) := by decide +kernel
theorem d_Versions_addVersion_40 : decode prog_12_method_4_code 40 = .ok (.getfield 17, 3) := by decide +kernel
theorem d_Versions_addVersion_43 : decode prog_12_method_4_code 43 = .ok (.iconst 1, 1) := by decide +kernel
theorem d_Versions_addVersion_44 : decode prog_12_method_4_code 44 = .ok (.isub, 1) := by decide +kernel
theorem d_Versions_addVersion_45 : decode prog_12_method_4_code 45 = .ok (.ireturn, 1) := by decide +kernel
abbrev M_Versions_addStep : q_M := (⟨"LensPaths$Versions", "addStep", "(LLensPaths$Draft;I)V"⟩, prog_12_method_5_code, 3, none, "LensPaths$Versions", [], false, 2, 44)
theorem d_Versions_addStep_0 : decode prog_12_method_5_code 0 = .ok (.aload_n 0, 1) := by decide +kernel
theorem d_Versions_addStep_1 : decode prog_12_method_5_code 1 = .ok (.getfield 23, 3) := by decide +kernel
theorem d_Versions_addStep_4 : decode prog_12_method_5_code 4 = .ok (.aload_n 0, 1) := by decide +kernel
theorem d_Versions_addStep_5 : decode prog_12_method_5_code 5 = .ok (.getfield 35, 3) := by decide +kernel
theorem d_Versions_addStep_8 : decode prog_12_method_5_code 8 = .ok (.new 21, 3) := by decide +kernel
theorem d_Versions_addStep_11 : decode prog_12_method_5_code 11 = .ok (.dup, 1) := by decide +kernel
theorem d_Versions_addStep_12 : decode prog_12_method_5_code 12 = .ok (.aload_n 0, 1) := by decide +kernel
theorem d_Versions_addStep_13 : decode prog_12_method_5_code 13 = .ok (.getfield 35, 3) := by decide +kernel
theorem d_Versions_addStep_16 : decode prog_12_method_5_code 16 = .ok (.aload_n 1, 1) := by decide +kernel
theorem d_Versions_addStep_17 : decode prog_12_method_5_code 17 = .ok (.iload_n 2, 1) := by decide +kernel
theorem d_Versions_addStep_18 : decode prog_12_method_5_code 18 = .ok (.invokespecial 42, 3) := by decide +kernel
theorem d_Versions_addStep_21 : decode prog_12_method_5_code 21 = .ok (.aastore, 1) := by decide +kernel
theorem d_Versions_addStep_22 : decode prog_12_method_5_code 22 = .ok (.aload_n 0, 1) := by decide +kernel
theorem d_Versions_addStep_23 : decode prog_12_method_5_code 23 = .ok (.dup, 1) := by decide +kernel
theorem d_Versions_addStep_24 : decode prog_12_method_5_code 24 = .ok (.getfield 35, 3) := by decide +kernel
theorem d_Versions_addStep_27 : decode prog_12_method_5_code 27 = .ok (.iconst 1, 1) := by decide +kernel
theorem d_Versions_addStep_28 : decode prog_12_method_5_code 28 = .ok (.iadd, 1) := by decide +kernel
theorem d_Versions_addStep_29 : decode prog_12_method_5_code 29 = .ok (.putfield 35, 3) := by decide +kernel
theorem d_Versions_addStep_32 : decode prog_12_method_5_code 32 = .ok (.return_, 1) := by decide +kernel
abbrev M_Lens_end : q_M := (⟨"LensPaths", "end", "(I)I"⟩, prog_1_method_5_code, 3, (some .int), "LensPaths", [], false, 7, 111)
theorem d_Lens_end_0 : decode prog_1_method_5_code 0 = .ok (.aload_n 0, 1) := by decide +kernel
theorem d_Lens_end_1 : decode prog_1_method_5_code 1 = .ok (.getfield 19, 3) := by decide +kernel
theorem d_Lens_end_4 : decode prog_1_method_5_code 4 = .ok (.getfield 90, 3) := by decide +kernel
theorem d_Lens_end_7 : decode prog_1_method_5_code 7 = .ok (.ifCond .ne 11, 3) := by decide +kernel
theorem d_Lens_end_10 : decode prog_1_method_5_code 10 = .ok (.new 62, 3) := by decide +kernel
theorem d_Lens_end_13 : decode prog_1_method_5_code 13 = .ok (.dup, 1) := by decide +kernel
theorem d_Lens_end_14 : decode prog_1_method_5_code 14 = .ok (.invokespecial 64, 3) := by decide +kernel
theorem d_Lens_end_17 : decode prog_1_method_5_code 17 = .ok (.athrow, 1) := by decide +kernel
theorem d_Lens_end_18 : decode prog_1_method_5_code 18 = .ok (.iload_n 1, 1) := by decide +kernel
theorem d_Lens_end_19 : decode prog_1_method_5_code 19 = .ok (.iconst (-1), 1) := by decide +kernel
theorem d_Lens_end_20 : decode prog_1_method_5_code 20 = .ok (.if_icmp .eq 8, 3) := by decide +kernel
theorem d_Lens_end_23 : decode prog_1_method_5_code 23 = .ok (.aload_n 0, 1) := by decide +kernel
theorem d_Lens_end_24 : decode prog_1_method_5_code 24 = .ok (.iload_n 1, 1) := by decide +kernel
theorem d_Lens_end_25 : decode prog_1_method_5_code 25 = .ok (.invokevirtual 86, 3) := by decide +kernel
theorem d_Lens_end_28 : decode prog_1_method_5_code 28 = .ok (.iload_n 1, 1) := by decide +kernel
theorem d_Lens_end_29 : decode prog_1_method_5_code 29 = .ok (.iconst (-1), 1) := by decide +kernel
theorem d_Lens_end_30 : decode prog_1_method_5_code 30 = .ok (.if_icmp .eq 44, 3) := by decide +kernel
theorem d_Lens_end_33 : decode prog_1_method_5_code 33 = .ok (.iload_n 1, 1) := by decide +kernel
theorem d_Lens_end_34 : decode prog_1_method_5_code 34 = .ok (.aload_n 0, 1) := by decide +kernel
theorem d_Lens_end_35 : decode prog_1_method_5_code 35 = .ok (.getfield 19, 3) := by decide +kernel
theorem d_Lens_end_38 : decode prog_1_method_5_code 38 = .ok (.getfield 102, 3) := by decide +kernel
theorem d_Lens_end_41 : decode prog_1_method_5_code 41 = .ok (.if_icmp .eq 25, 3) := by decide +kernel
theorem d_Lens_end_44 : decode prog_1_method_5_code 44 = .ok (.aload_n 0, 1) := by decide +kernel
theorem d_Lens_end_45 : decode prog_1_method_5_code 45 = .ok (.getfield 12, 3) := by decide +kernel
theorem d_Lens_end_48 : decode prog_1_method_5_code 48 = .ok (.getfield 48, 3) := by decide +kernel
theorem d_Lens_end_51 : decode prog_1_method_5_code 51 = .ok (.iload_n 1, 1) := by decide +kernel
theorem d_Lens_end_52 : decode prog_1_method_5_code 52 = .ok (.aaload, 1) := by decide +kernel
theorem d_Lens_end_53 : decode prog_1_method_5_code 53 = .ok (.aload_n 0, 1) := by decide +kernel
theorem d_Lens_end_54 : decode prog_1_method_5_code 54 = .ok (.getfield 19, 3) := by decide +kernel
theorem d_Lens_end_57 : decode prog_1_method_5_code 57 = .ok (.getfield 105, 3) := by decide +kernel
theorem d_Lens_end_60 : decode prog_1_method_5_code 60 = .ok (.invokevirtual 109, 3) := by decide +kernel
theorem d_Lens_end_63 : decode prog_1_method_5_code 63 = .ok (.ifCond .ne 11, 3) := by decide +kernel
theorem d_Lens_end_66 : decode prog_1_method_5_code 66 = .ok (.new 79, 3) := by decide +kernel
theorem d_Lens_end_69 : decode prog_1_method_5_code 69 = .ok (.dup, 1) := by decide +kernel
theorem d_Lens_end_70 : decode prog_1_method_5_code 70 = .ok (.invokespecial 81, 3) := by decide +kernel
theorem d_Lens_end_73 : decode prog_1_method_5_code 73 = .ok (.athrow, 1) := by decide +kernel
theorem d_Lens_end_74 : decode prog_1_method_5_code 74 = .ok (.iload_n 1, 1) := by decide +kernel
theorem d_Lens_end_75 : decode prog_1_method_5_code 75 = .ok (.iconst (-1), 1) := by decide +kernel
theorem d_Lens_end_76 : decode prog_1_method_5_code 76 = .ok (.if_icmp .ne 15, 3) := by decide +kernel
theorem d_Lens_end_79 : decode prog_1_method_5_code 79 = .ok (.aload_n 0, 1) := by decide +kernel
theorem d_Lens_end_80 : decode prog_1_method_5_code 80 = .ok (.getfield 12, 3) := by decide +kernel
theorem d_Lens_end_83 : decode prog_1_method_5_code 83 = .ok (.getfield 113, 3) := by decide +kernel
theorem d_Lens_end_86 : decode prog_1_method_5_code 86 = .ok (.bipush 8, 2) := by decide +kernel
theorem d_Lens_end_88 : decode prog_1_method_5_code 88 = .ok (.if_icmp .eq 15, 3) := by decide +kernel
theorem d_Lens_end_91 : decode prog_1_method_5_code 91 = .ok (.aload_n 0, 1) := by decide +kernel
theorem d_Lens_end_92 : decode prog_1_method_5_code 92 = .ok (.getfield 12, 3) := by decide +kernel
theorem d_Lens_end_95 : decode prog_1_method_5_code 95 = .ok (.getfield 114, 3) := by decide +kernel
theorem d_Lens_end_98 : decode prog_1_method_5_code 98 = .ok (.bipush 16, 2) := by decide +kernel
theorem d_Lens_end_100 : decode prog_1_method_5_code 100 = .ok (.if_icmp .ne 11, 3) := by decide +kernel
theorem d_Lens_end_103 : decode prog_1_method_5_code 103 = .ok (.new 117, 3) := by decide +kernel
theorem d_Lens_end_106 : decode prog_1_method_5_code 106 = .ok (.dup, 1) := by decide +kernel
theorem d_Lens_end_107 : decode prog_1_method_5_code 107 = .ok (.invokespecial 119, 3) := by decide +kernel
theorem d_Lens_end_110 : decode prog_1_method_5_code 110 = .ok (.athrow, 1) := by decide +kernel
theorem d_Lens_end_111 : decode prog_1_method_5_code 111 = .ok (.iload_n 1, 1) := by decide +kernel
theorem d_Lens_end_112 : decode prog_1_method_5_code 112 = .ok (.iconst (-1), 1) := by decide +kernel
theorem d_Lens_end_113 : decode prog_1_method_5_code 113 = .ok (.if_icmp .ne 20, 3) := by decide +kernel
theorem d_Lens_end_116 : decode prog_1_method_5_code 116 = .ok (.aload_n 0, 1) := by decide +kernel
theorem d_Lens_end_117 : decode prog_1_method_5_code 117 = .ok (.getfield 12, 3) := by decide +kernel
theorem d_Lens_end_120 : decode prog_1_method_5_code 120 = .ok (.aload_n 0, 1) := by decide +kernel
theorem d_Lens_end_121 : decode prog_1_method_5_code 121 = .ok (.getfield 19, 3) := by decide +kernel
theorem d_Lens_end_124 : decode prog_1_method_5_code 124 = .ok (.getfield 105, 3) := by decide +kernel
theorem d_Lens_end_127 : decode prog_1_method_5_code 127 = .ok (.invokevirtual 120, 3) := by decide +kernel
theorem d_Lens_end_130 : decode prog_1_method_5_code 130 = .ok (.goto 4, 3) := by decide +kernel
theorem d_Lens_end_133 : decode prog_1_method_5_code 133 = .ok (.iload_n 1, 1) := by decide +kernel
theorem d_Lens_end_134 : decode prog_1_method_5_code 134 = .ok (.istore_n 2, 1) := by decide +kernel
theorem d_Lens_end_135 : decode prog_1_method_5_code 135 = .ok (.aload_n 0, 1) := by decide +kernel
theorem d_Lens_end_136 : decode prog_1_method_5_code 136 = .ok (.getfield 12, 3) := by decide +kernel
theorem d_Lens_end_139 : decode prog_1_method_5_code 139 = .ok (.aload_n 0, 1) := by decide +kernel
theorem d_Lens_end_140 : decode prog_1_method_5_code 140 = .ok (.getfield 19, 3) := by decide +kernel
theorem d_Lens_end_143 : decode prog_1_method_5_code 143 = .ok (.iload_n 2, 1) := by decide +kernel
theorem d_Lens_end_144 : decode prog_1_method_5_code 144 = .ok (.invokevirtual 124, 3) := by decide +kernel
theorem d_Lens_end_147 : decode prog_1_method_5_code 147 = .ok (.aload_n 0, 1) := by decide +kernel
theorem d_Lens_end_148 : decode prog_1_method_5_code 148 = .ok (.getfield 19, 3) := by decide +kernel
theorem d_Lens_end_151 : decode prog_1_method_5_code 151 = .ok (.iconst 0, 1) := by decide +kernel
theorem d_Lens_end_152 : decode prog_1_method_5_code 152 = .ok (.putfield 90, 3) := by decide +kernel
theorem d_Lens_end_155 : decode prog_1_method_5_code 155 = .ok (.iload_n 2, 1) := by decide +kernel
theorem d_Lens_end_156 : decode prog_1_method_5_code 156 = .ok (.ireturn, 1) := by decide +kernel
section EndC
variable {g : q_G} {sz x : Nat} {T : q_T} {I : q_I} {R : q_R} {J : q_J} {S : KA}
set_option maxHeartbeats 1000000 in
theorem c_Step_init {t d k : Nat} {i to : Int32} {D : List KF} {w : Nat → Nat} (hT : T t = some (100 + 7, 0)) (ht : t + 1 = sz) (hfr : ∀ a q, T a = some q → a < sz) (hL : q_L 2 t_Draft d T R) (hS : k_sc (d + 1) D w T I R) (hn : I d (nI 2) = nI k) (hk : k ≤ 8) (hp : ∀ j, j < k → ∃ p, R (d + 27) (nI j) = some p ∧ T p = some (104, 0)) (hd : d + 28 ≤ t) : q_Cv g M_Step_init [.ref t, .int i, .ref d, .int to] (sz, T, I, R, J) 2 32 (fun h' => ∃ (I' : q_I) (R' : q_R), h' = (sz + 2, q_upT (q_upT T sz (3, 8)) (sz + 1) (0, D.length), I', R', J) ∧ (∀ b, b ≠ t → b ≠ sz + 1 → I' b = I b) ∧ (∀ b, b ≠ t → b ≠ sz → R' b = R b) ∧ I' t (nI 0) = i ∧ I' t (nI 1) = I d (nI 3) ∧ I' t (nI 2) = to ∧ I' t (nI 3) = nI k ∧ I' t (nI 5) = I d (nI 4) ∧ R' t (nI 4) = some sz ∧ R' t (nI 6) = some (sz + 1) ∧ (∀ j, j < k → R' sz (nI j) = R (d + 27) (nI j)) ∧ ∀ j f, D[j]? = some f → I' (sz + 1) (nI j) = nI f.2.2.2.2) := by
  have h24 := hS.2.2.1
  have hLd := hL.1
  have hs1 := hS.1.1.1
  have hs2 := (hS.1.1.2 0 _ _ _ rfl).1
  have hs3 := (hS.1.1.2 0 _ _ _ rfl).2
  have hr27 := (hL.2 1 _ _ _ rfl).1
  have ht27 := (hL.2 1 _ _ _ rfl).2
  have hr1 := (hL.2 0 _ _ _ rfl).1
  obtain ⟨T1, hT1⟩ : ∃ T1, T1 = q_upT (q_upT T sz (3, 8)) (sz + 1) (0, D.length) := ⟨_, rfl⟩
  have hx : ∀ a q, T a = some q → T1 a = some q := fun a q z => by
    have := hfr a q z
    rw [hT1, q_upT_ne (by omega), q_upT_ne (by omega)]; exact z
  have tt := hx _ _ hT
  have tz : T1 sz = some (3, 8) := by rw [hT1, q_upT_ne (by omega), q_upT_self]
  have tz1 : T1 (sz + 1) = some (0, D.length) := by rw [hT1, q_upT_self]
  have td := hx _ _ hL.1
  have td1 := hx _ _ hs1
  have td2 := hx _ _ hs3
  have td27 := hx _ _ ht27
  obtain ⟨Q, hQ⟩ : ∃ Q : q_O → q_H → Prop, Q = (fun o h' => o = .inl none ∧ ∃ (I' : q_I) (R' : q_R), h' = (sz + 2, T1, I', R', J) ∧ (∀ b, b ≠ t → b ≠ sz + 1 → I' b = I b) ∧ (∀ b, b ≠ t → b ≠ sz → R' b = R b) ∧ I' t (nI 0) = i ∧ I' t (nI 1) = I d (nI 3) ∧ I' t (nI 2) = to ∧ I' t (nI 3) = nI k ∧ I' t (nI 5) = I d (nI 4) ∧ R' t (nI 4) = some sz ∧ R' t (nI 6) = some (sz + 1) ∧ (∀ j, j < k → R' sz (nI j) = R (d + 27) (nI j)) ∧ ∀ j f, D[j]? = some f → I' (sz + 1) (nI j) = nI f.2.2.2.2) := ⟨_, rfl⟩
  have fields : ∀ (j q : Nat) (I1 : q_I) (R1 : q_R), q + j = D.length → (∀ b, b ≠ t → b ≠ sz + 1 → I1 b = I b) → (∀ b, b ≠ t → b ≠ sz → R1 b = R b) → I1 t (nI 0) = i → I1 t (nI 1) = I d (nI 3) → I1 t (nI 2) = to → I1 t (nI 3) = nI k → I1 t (nI 5) = I d (nI 4) → R1 t (nI 4) = some sz → R1 t (nI 6) = some (sz + 1) → (∀ j, j < k → R1 sz (nI j) = R (d + 27) (nI j)) → (∀ j f, j < q → D[j]? = some f → I1 (sz + 1) (nI j) = nI f.2.2.2.2) → ∀ mcc msc : Nat, mcc ≤ 2 → msc ≤ 32 → q_V g M_Step_init 2 32 mcc msc (sz + 2, T1, I1, R1, J) Q 95 [some (.ref t), some (.int i), some (.ref d), some (.int to), some (.int (nI q))] [] := by
    intro j
    induction j with
    | zero =>
      intro q I1 R1 hq i1 i2 i3 i4 i5 i6 i7 i8 i9 i10 i11 mcc msc m1 m2
      refine q_iload d_Step_init_95 rfl ?_
      refine q_aload_n d_Step_init_97 rfl rfl ?_
      refine q_getR (ci := 7) (fk := 6) d_Step_init_98 rfl (Nat.le_of_ble_eq_true rfl) w_661 (fun _ _ => rfl) (by first | assumption | rfl | (simp (disch := omega) only [q_upT_self, q_upT_ne, q_upR_self, q_upR_nea, q_upR_nk, q_upT_at, *]; done) | (simp (disch := omega) only [q_upT_self, q_upT_ne, q_upR_self, q_upR_nea, q_upR_nk, q_upT_at, *]; rfl)) (by first | assumption | rfl | (simp (disch := omega) only [q_upT_self, q_upT_ne, q_upR_self, q_upR_nea, q_upR_nk, q_upT_at, *]; done) | (simp (disch := omega) only [q_upT_self, q_upT_ne, q_upR_self, q_upR_nea, q_upR_nk, q_upT_at, *]; rfl)) ?_
      refine q_alen d_Step_init_101 (by first | assumption | rfl | (simp (disch := omega) only [q_upT_self, q_upT_ne, q_upR_self, q_upR_nea, q_upR_nk, q_upT_at, *]; done) | (simp (disch := omega) only [q_upT_self, q_upT_ne, q_upR_self, q_upR_nea, q_upR_nk, q_upT_at, *]; rfl)) (Nat.le_of_ble_eq_true rfl) ?_
      refine q_icmp_ge (tgt := 131) d_Step_init_102 rfl (fun hc => ?_) (fun hc => ?_)
      · refine q_vret d_Step_init_131 rfl (by omega) (by omega) ?_
        rw [hQ]
        exact ⟨rfl, I1, R1, rfl, i1, i2, i3, i4, i5, i6, i7, i8, i9, i10, fun j f hf => i11 j f (by have := (List.getElem?_eq_some_iff.mp hf).1; omega) hf⟩
      · exact absurd (by rw [nI_leI (by omega) (by omega)]; omega) hc
    | succ j ih =>
      intro q I1 R1 hq i1 i2 i3 i4 i5 i6 i7 i8 i9 i10 i11 mcc msc m1 m2
      obtain ⟨f, hf⟩ : ∃ f, D[q]? = some f := ⟨_, List.getElem?_eq_getElem (by omega)⟩
      obtain ⟨g1, g2, g3, g4⟩ := hS.at hf
      have tf := hx _ _ g3
      have hfl := hfr _ _ g3
      have rd1 : R1 d (nI 0) = some (d + 1) := by rw [i2 d (by omega) (by omega)]; exact hr1
      have rd2 : R1 (d + 1) (nI 0) = some (d + 1 + 1) := by rw [i2 (d + 1) (by omega) (by omega)]; exact hs2
      have rd3 : R1 (d + 1 + 1) (nI q) = some (d + 1 + 2 + w q) := by rw [i2 (d + 1 + 1) (by omega) (by omega)]; exact g2
      have nft : d + 1 + 2 + w q ≠ t := fun z => by rw [z, hT] at g3; cases g3
      refine q_iload d_Step_init_95 rfl ?_
      refine q_aload_n d_Step_init_97 rfl rfl ?_
      refine q_getR (ci := 7) (fk := 6) d_Step_init_98 rfl (Nat.le_of_ble_eq_true rfl) w_661 (fun _ _ => rfl) (by first | assumption | rfl | (simp (disch := omega) only [q_upT_self, q_upT_ne, q_upR_self, q_upR_nea, q_upR_nk, q_upT_at, *]; done) | (simp (disch := omega) only [q_upT_self, q_upT_ne, q_upR_self, q_upR_nea, q_upR_nk, q_upT_at, *]; rfl)) (by first | assumption | rfl | (simp (disch := omega) only [q_upT_self, q_upT_ne, q_upR_self, q_upR_nea, q_upR_nk, q_upT_at, *]; done) | (simp (disch := omega) only [q_upT_self, q_upT_ne, q_upR_self, q_upR_nea, q_upR_nk, q_upT_at, *]; rfl)) ?_
      refine q_alen d_Step_init_101 (by first | assumption | rfl | (simp (disch := omega) only [q_upT_self, q_upT_ne, q_upR_self, q_upR_nea, q_upR_nk, q_upT_at, *]; done) | (simp (disch := omega) only [q_upT_self, q_upT_ne, q_upR_self, q_upR_nea, q_upR_nk, q_upT_at, *]; rfl)) (Nat.le_of_ble_eq_true rfl) ?_
      refine q_icmp_ge (tgt := 131) d_Step_init_102 rfl (fun hc => ?_) (fun hc => ?_)
      · rw [nI_leI (by omega) (by omega)] at hc
        omega
      refine q_aload_n d_Step_init_105 rfl rfl ?_
      refine q_getR (ci := 7) (fk := 6) d_Step_init_106 rfl (Nat.le_of_ble_eq_true rfl) w_661 (fun _ _ => rfl) (by first | assumption | rfl | (simp (disch := omega) only [q_upT_self, q_upT_ne, q_upR_self, q_upR_nea, q_upR_nk, q_upT_at, *]; done) | (simp (disch := omega) only [q_upT_self, q_upT_ne, q_upR_self, q_upR_nea, q_upR_nk, q_upT_at, *]; rfl)) (by first | assumption | rfl | (simp (disch := omega) only [q_upT_self, q_upT_ne, q_upR_self, q_upR_nea, q_upR_nk, q_upT_at, *]; done) | (simp (disch := omega) only [q_upT_self, q_upT_ne, q_upR_self, q_upR_nea, q_upR_nk, q_upT_at, *]; rfl)) ?_
      refine q_iload d_Step_init_109 rfl ?_
      refine q_aload_n d_Step_init_111 rfl rfl ?_
      refine q_getR (ci := 2) (fk := 0) d_Step_init_112 rfl (Nat.le_of_ble_eq_true rfl) w_144 (fun _ _ => rfl) (by first | assumption | rfl | (simp (disch := omega) only [q_upT_self, q_upT_ne, q_upR_self, q_upR_nea, q_upR_nk, q_upT_at, *]; done) | (simp (disch := omega) only [q_upT_self, q_upT_ne, q_upR_self, q_upR_nea, q_upR_nk, q_upT_at, *]; rfl)) (by first | assumption | rfl | (simp (disch := omega) only [q_upT_self, q_upT_ne, q_upR_self, q_upR_nea, q_upR_nk, q_upT_at, *]; done) | (simp (disch := omega) only [q_upT_self, q_upT_ne, q_upR_self, q_upR_nea, q_upR_nk, q_upT_at, *]; rfl)) ?_
      refine q_getR (ci := 6) (fk := 0) d_Step_init_115 rfl (Nat.le_of_ble_eq_true rfl) w_93 (fun _ _ => rfl) (by first | assumption | rfl | (simp (disch := omega) only [q_upT_self, q_upT_ne, q_upR_self, q_upR_nea, q_upR_nk, q_upT_at, *]; done) | (simp (disch := omega) only [q_upT_self, q_upT_ne, q_upR_self, q_upR_nea, q_upR_nk, q_upT_at, *]; rfl)) (by first | assumption | rfl | (simp (disch := omega) only [q_upT_self, q_upT_ne, q_upR_self, q_upR_nea, q_upR_nk, q_upT_at, *]; done) | (simp (disch := omega) only [q_upT_self, q_upT_ne, q_upR_self, q_upR_nea, q_upR_nk, q_upT_at, *]; rfl)) ?_
      refine q_iload d_Step_init_118 rfl ?_
      refine q_aaldR (kd := _) d_Step_init_120 rfl (Nat.le_of_ble_eq_true rfl) (Nat.le_of_ble_eq_true rfl) (by first | assumption | rfl | (simp (disch := omega) only [q_upT_self, q_upT_ne, q_upR_self, q_upR_nea, q_upR_nk, q_upT_at, *]; done) | (simp (disch := omega) only [q_upT_self, q_upT_ne, q_upR_self, q_upR_nea, q_upR_nk, q_upT_at, *]; rfl)) (by first | assumption | exact vp_in_nI (by omega) (by omega)) (by first | assumption | rfl | (simp (disch := omega) only [q_upT_self, q_upT_ne, q_upR_self, q_upR_nea, q_upR_nk, q_upT_at, *]; done) | (simp (disch := omega) only [q_upT_self, q_upT_ne, q_upR_self, q_upR_nea, q_upR_nk, q_upT_at, *]; rfl)) ?_
      refine q_getI (ci := 3) (fk := 4) d_Step_init_121 rfl (Nat.le_of_ble_eq_true rfl) w_77 (fun _ _ => rfl) (by first | assumption | rfl | (simp (disch := omega) only [q_upT_self, q_upT_ne, q_upR_self, q_upR_nea, q_upR_nk, q_upT_at, *]; done) | (simp (disch := omega) only [q_upT_self, q_upT_ne, q_upR_self, q_upR_nea, q_upR_nk, q_upT_at, *]; rfl)) ?_
      rw [i1 _ nft (by omega), g4.2.2.2.2]
      refine q_iast d_Step_init_124 (by first | assumption | rfl | (simp (disch := omega) only [q_upT_self, q_upT_ne, q_upR_self, q_upR_nea, q_upR_nk, q_upT_at, *]; done) | (simp (disch := omega) only [q_upT_self, q_upT_ne, q_upR_self, q_upR_nea, q_upR_nk, q_upT_at, *]; rfl)) (by first | assumption | exact vp_in_nI (by omega) (by omega)) ?_
      first | refine q_iincN d_Step_init_125 rfl (Nat.le_of_ble_eq_true rfl) (by first | exact q_ok0 | exact q_okI rfl | exact q_okR rfl | exact q_okN rfl) rfl ?_ | refine q_iinc d_Step_init_125 rfl rfl (Nat.le_of_ble_eq_true rfl) (by first | exact q_ok0 | exact q_okI rfl | exact q_okR rfl | exact q_okN rfl) rfl ?_
      refine q_goto (tgt := 95) d_Step_init_128 rfl ?_
      refine ih (q + 1) _ _ (by omega) (fun b b1 b2 => ?_) i2 ?_ ?_ ?_ ?_ ?_ i8 i9 i10 (fun j2 f2 hj2 hf2 => ?_) _ _ m1 m2
      · rw [← i1 b b1 b2]; funext z; rw [q_upI_nea b2]
      · rw [q_upI_nea (by omega)]; exact i3
      · rw [q_upI_nea (by omega)]; exact i4
      · rw [q_upI_nea (by omega)]; exact i5
      · rw [q_upI_nea (by omega)]; exact i6
      · rw [q_upI_nea (by omega)]; exact i7
      · by_cases hjq : j2 = q
        · subst hjq
          rw [q_upI_self, Option.some.inj (hf.symm.trans hf2)]
        · rw [q_upI_nk (by omega)]
          exact i11 j2 f2 (by omega) hf2
  have prims : ∀ (j q : Nat) (R1 : q_R) (I1 : q_I), q + j = k → (∀ b, b ≠ t → b ≠ sz + 1 → I1 b = I b) → I1 t (nI 0) = i → I1 t (nI 1) = I d (nI 3) → I1 t (nI 2) = to → I1 t (nI 3) = nI k → I1 t (nI 5) = I d (nI 4) → (∀ b, b ≠ t → b ≠ sz → R1 b = R b) → R1 t (nI 4) = some sz → R1 t (nI 6) = some (sz + 1) → (∀ j, j < q → R1 sz (nI j) = R (d + 27) (nI j)) → ∀ mcc msc : Nat, mcc ≤ 2 → msc ≤ 32 → q_V g M_Step_init 2 32 mcc msc (sz + 2, T1, I1, R1, J) Q 63 [some (.ref t), some (.int i), some (.ref d), some (.int to), some (.int (nI q))] [] := by
    intro j
    induction j with
    | zero =>
      intro q R1 I1 hq i1 i3 i4 i5 i6 i7 i2 i8 i9 i10 mcc msc m1 m2
      refine q_iload d_Step_init_63 rfl ?_
      refine q_aload_n d_Step_init_65 rfl rfl ?_
      refine q_getI (ci := 7) (fk := 3) d_Step_init_66 rfl (Nat.le_of_ble_eq_true rfl) w_652 (fun _ _ => rfl) (by first | assumption | rfl | (simp (disch := omega) only [q_upT_self, q_upT_ne, q_upR_self, q_upR_nea, q_upR_nk, q_upT_at, *]; done) | (simp (disch := omega) only [q_upT_self, q_upT_ne, q_upR_self, q_upR_nea, q_upR_nk, q_upT_at, *]; rfl)) ?_
      rw [i6]
      refine q_icmp_ge (tgt := 92) d_Step_init_69 rfl (fun hc => ?_) (fun hc => ?_)
      · refine q_iconst (v := nI 0) d_Step_init_92 (by decide) ?_
        refine q_istore d_Step_init_93 (Nat.le_of_ble_eq_true rfl) (by first | exact q_ok0 | exact q_okI rfl | exact q_okR rfl | exact q_okN rfl) rfl ?_
        exact fields D.length 0 I1 R1 (by omega) i1 i2 i3 i4 i5 i6 i7 i8 i9 (fun j hj => i10 j (by omega)) (fun j f hj => absurd hj (Nat.not_lt_zero _)) _ _ m1 m2
      · exact absurd (by rw [nI_leI (by omega) (by omega)]; omega) hc
    | succ j ih =>
      intro q R1 I1 hq i1 i3 i4 i5 i6 i7 i2 i8 i9 i10 mcc msc m1 m2
      obtain ⟨p, p1, p2⟩ := hp q (by omega)
      have tp := hx _ _ p2
      have rd1 : R1 d (nI 1) = some (d + 27) := by rw [i2 d (by omega) (by omega)]; exact hr27
      have rd2 : R1 (d + 27) (nI q) = some p := by rw [i2 (d + 27) (by omega) (by omega)]; exact p1
      refine q_iload d_Step_init_63 rfl ?_
      refine q_aload_n d_Step_init_65 rfl rfl ?_
      refine q_getI (ci := 7) (fk := 3) d_Step_init_66 rfl (Nat.le_of_ble_eq_true rfl) w_652 (fun _ _ => rfl) (by first | assumption | rfl | (simp (disch := omega) only [q_upT_self, q_upT_ne, q_upR_self, q_upR_nea, q_upR_nk, q_upT_at, *]; done) | (simp (disch := omega) only [q_upT_self, q_upT_ne, q_upR_self, q_upR_nea, q_upR_nk, q_upT_at, *]; rfl)) ?_
      rw [i6]
      refine q_icmp_ge (tgt := 92) d_Step_init_69 rfl (fun hc => ?_) (fun hc => ?_)
      · rw [nI_leI (by omega) (by omega)] at hc
        omega
      refine q_aload_n d_Step_init_72 rfl rfl ?_
      refine q_getR (ci := 7) (fk := 4) d_Step_init_73 rfl (Nat.le_of_ble_eq_true rfl) w_655 (fun _ _ => rfl) (by first | assumption | rfl | (simp (disch := omega) only [q_upT_self, q_upT_ne, q_upR_self, q_upR_nea, q_upR_nk, q_upT_at, *]; done) | (simp (disch := omega) only [q_upT_self, q_upT_ne, q_upR_self, q_upR_nea, q_upR_nk, q_upT_at, *]; rfl)) (by first | assumption | rfl | (simp (disch := omega) only [q_upT_self, q_upT_ne, q_upR_self, q_upR_nea, q_upR_nk, q_upT_at, *]; done) | (simp (disch := omega) only [q_upT_self, q_upT_ne, q_upR_self, q_upR_nea, q_upR_nk, q_upT_at, *]; rfl)) ?_
      refine q_iload d_Step_init_76 rfl ?_
      refine q_aload_n d_Step_init_78 rfl rfl ?_
      refine q_getR (ci := 2) (fk := 1) d_Step_init_79 rfl (Nat.le_of_ble_eq_true rfl) w_147 (fun _ _ => rfl) (by first | assumption | rfl | (simp (disch := omega) only [q_upT_self, q_upT_ne, q_upR_self, q_upR_nea, q_upR_nk, q_upT_at, *]; done) | (simp (disch := omega) only [q_upT_self, q_upT_ne, q_upR_self, q_upR_nea, q_upR_nk, q_upT_at, *]; rfl)) (by first | assumption | rfl | (simp (disch := omega) only [q_upT_self, q_upT_ne, q_upR_self, q_upR_nea, q_upR_nk, q_upT_at, *]; done) | (simp (disch := omega) only [q_upT_self, q_upT_ne, q_upR_self, q_upR_nea, q_upR_nk, q_upT_at, *]; rfl)) ?_
      refine q_iload d_Step_init_82 rfl ?_
      refine q_aaldR (kd := _) d_Step_init_84 rfl (Nat.le_of_ble_eq_true rfl) (Nat.le_of_ble_eq_true rfl) (by first | assumption | rfl | (simp (disch := omega) only [q_upT_self, q_upT_ne, q_upR_self, q_upR_nea, q_upR_nk, q_upT_at, *]; done) | (simp (disch := omega) only [q_upT_self, q_upT_ne, q_upR_self, q_upR_nea, q_upR_nk, q_upT_at, *]; rfl)) (by first | assumption | exact vp_in_nI (by omega) (by omega)) (by first | assumption | rfl | (simp (disch := omega) only [q_upT_self, q_upT_ne, q_upR_self, q_upR_nea, q_upR_nk, q_upT_at, *]; done) | (simp (disch := omega) only [q_upT_self, q_upT_ne, q_upR_self, q_upR_nea, q_upR_nk, q_upT_at, *]; rfl)) ?_
      refine q_aast (kd := 3) (ci := 4) d_Step_init_85 rfl rfl (Nat.le_of_ble_eq_true rfl) (Nat.le_of_ble_eq_true rfl) (by first | assumption | rfl | (simp (disch := omega) only [q_upT_self, q_upT_ne, q_upR_self, q_upR_nea, q_upR_nk, q_upT_at, *]; done) | (simp (disch := omega) only [q_upT_self, q_upT_ne, q_upR_self, q_upR_nea, q_upR_nk, q_upT_at, *]; rfl)) (by first | assumption | rfl | (simp (disch := omega) only [q_upT_self, q_upT_ne, q_upR_self, q_upR_nea, q_upR_nk, q_upT_at, *]; done) | (simp (disch := omega) only [q_upT_self, q_upT_ne, q_upR_self, q_upR_nea, q_upR_nk, q_upT_at, *]; rfl)) (by first | assumption | exact vp_in_nI (by omega) (by omega)) ?_
      first | refine q_iincN d_Step_init_86 rfl (Nat.le_of_ble_eq_true rfl) (by first | exact q_ok0 | exact q_okI rfl | exact q_okR rfl | exact q_okN rfl) rfl ?_ | refine q_iinc d_Step_init_86 rfl rfl (Nat.le_of_ble_eq_true rfl) (by first | exact q_ok0 | exact q_okI rfl | exact q_okR rfl | exact q_okN rfl) rfl ?_
      refine q_goto (tgt := 63) d_Step_init_89 rfl ?_
      refine ih (q + 1) _ I1 (by omega) i1 i3 i4 i5 i6 i7 (fun b b1 b2 => ?_) ?_ ?_ (fun j2 hj2 => ?_) _ _ m1 m2
      · rw [← i2 b b1 b2]; funext z; rw [q_upR_nea b2]
      · rw [q_upR_nea (by omega)]; exact i8
      · rw [q_upR_nea (by omega)]; exact i9
      · by_cases hjq : j2 = q
        · subst hjq
          rw [q_upR_self]; exact p1.symm
        · rw [q_upR_nk (by omega)]
          exact i10 j2 (by omega)
  have hz : ∀ {h : q_H}, q_V g M_Step_init 2 32 0 0 h Q 0 [some (.ref t), some (.int i), some (.ref d), some (.int to), none] [] → q_V g M_Step_init 2 32 0 0 h (fun o h' => o = .inl none ∧ ∃ (I' : q_I) (R' : q_R), h' = (sz + 2, q_upT (q_upT T sz (3, 8)) (sz + 1) (0, D.length), I', R', J) ∧ (∀ b, b ≠ t → b ≠ sz + 1 → I' b = I b) ∧ (∀ b, b ≠ t → b ≠ sz → R' b = R b) ∧ I' t (nI 0) = i ∧ I' t (nI 1) = I d (nI 3) ∧ I' t (nI 2) = to ∧ I' t (nI 3) = nI k ∧ I' t (nI 5) = I d (nI 4) ∧ R' t (nI 4) = some sz ∧ R' t (nI 6) = some (sz + 1) ∧ (∀ j, j < k → R' sz (nI j) = R (d + 27) (nI j)) ∧ ∀ j f, D[j]? = some f → I' (sz + 1) (nI j) = nI f.2.2.2.2) 0 [some (.ref t), some (.int i), some (.ref d), some (.int to), none] [] := fun h => by
    rw [← hT1, ← hQ]; exact h
  refine q_C.of (ls0 := [some (.ref t), some (.int i), some (.ref d), some (.int to), none]) (by decide) rfl (by decide) (Nat.le_of_ble_eq_true rfl) rfl (hz ?_)
  refine q_aload_n d_Step_init_0 rfl rfl ?_
  refine q_obj d_Step_init_1 w_640 w_30 w_31 (Nat.le_of_ble_eq_true rfl) (Nat.le_of_ble_eq_true rfl) (Nat.le_of_ble_eq_true rfl) ?_
  refine q_aload_n d_Step_init_4 rfl rfl ?_
  refine q_bipush (v := nI 8) d_Step_init_5 (by decide) ?_
  refine q_newq (kd := 3) (N := _) d_Step_init_7 rfl (Nat.le_of_ble_eq_true rfl) (Nat.le_of_ble_eq_true rfl) (Nat.le_of_ble_eq_true rfl) w_641 w_142 rfl (by omega) (by omega) (by omega) ?_
  refine q_putR (ci := 7) (fk := 4) (x := some _) d_Step_init_10 rfl (Nat.le_of_ble_eq_true rfl) w_655 (Or.inr ⟨rfl, rfl, rfl⟩) (fun _ _ => rfl) rfl rfl (by first | assumption | rfl | (simp (disch := omega) only [q_upT_self, q_upT_ne, q_upR_self, q_upR_nea, q_upR_nk, q_upT_at, *]; done) | (simp (disch := omega) only [q_upT_self, q_upT_ne, q_upR_self, q_upR_nea, q_upR_nk, q_upT_at, *]; rfl)) ?_
  refine q_aload_n d_Step_init_13 rfl rfl ?_
  refine q_iload_n d_Step_init_14 rfl rfl ?_
  refine q_putI (ci := 7) (fk := 0) d_Step_init_15 rfl (Nat.le_of_ble_eq_true rfl) w_642 (Or.inr ⟨rfl, rfl, rfl⟩) (fun _ _ => rfl) rfl rfl (by first | assumption | rfl | (simp (disch := omega) only [q_upT_self, q_upT_ne, q_upR_self, q_upR_nea, q_upR_nk, q_upT_at, *]; done) | (simp (disch := omega) only [q_upT_self, q_upT_ne, q_upR_self, q_upR_nea, q_upR_nk, q_upT_at, *]; rfl)) ?_
  refine q_aload_n d_Step_init_18 rfl rfl ?_
  refine q_aload_n d_Step_init_19 rfl rfl ?_
  refine q_getI (ci := 2) (fk := 3) d_Step_init_20 rfl (Nat.le_of_ble_eq_true rfl) w_151 (fun _ _ => rfl) (by first | assumption | rfl | (simp (disch := omega) only [q_upT_self, q_upT_ne, q_upR_self, q_upR_nea, q_upR_nk, q_upT_at, *]; done) | (simp (disch := omega) only [q_upT_self, q_upT_ne, q_upR_self, q_upR_nea, q_upR_nk, q_upT_at, *]; rfl)) ?_
  refine q_putI (ci := 7) (fk := 1) d_Step_init_23 rfl (Nat.le_of_ble_eq_true rfl) w_644 (Or.inr ⟨rfl, rfl, rfl⟩) (fun _ _ => rfl) rfl rfl (by first | assumption | rfl | (simp (disch := omega) only [q_upT_self, q_upT_ne, q_upR_self, q_upR_nea, q_upR_nk, q_upT_at, *]; done) | (simp (disch := omega) only [q_upT_self, q_upT_ne, q_upR_self, q_upR_nea, q_upR_nk, q_upT_at, *]; rfl)) ?_
  refine q_aload_n d_Step_init_26 rfl rfl ?_
  refine q_iload_n d_Step_init_27 rfl rfl ?_
  refine q_putI (ci := 7) (fk := 2) d_Step_init_28 rfl (Nat.le_of_ble_eq_true rfl) w_648 (Or.inr ⟨rfl, rfl, rfl⟩) (fun _ _ => rfl) rfl rfl (by first | assumption | rfl | (simp (disch := omega) only [q_upT_self, q_upT_ne, q_upR_self, q_upR_nea, q_upR_nk, q_upT_at, *]; done) | (simp (disch := omega) only [q_upT_self, q_upT_ne, q_upR_self, q_upR_nea, q_upR_nk, q_upT_at, *]; rfl)) ?_
  refine q_aload_n d_Step_init_31 rfl rfl ?_
  refine q_aload_n d_Step_init_32 rfl rfl ?_
  refine q_getI (ci := 2) (fk := 2) d_Step_init_33 rfl (Nat.le_of_ble_eq_true rfl) w_148 (fun _ _ => rfl) (by first | assumption | rfl | (simp (disch := omega) only [q_upT_self, q_upT_ne, q_upR_self, q_upR_nea, q_upR_nk, q_upT_at, *]; done) | (simp (disch := omega) only [q_upT_self, q_upT_ne, q_upR_self, q_upR_nea, q_upR_nk, q_upT_at, *]; rfl)) ?_
  simp (disch := omega) only [q_upI_nea, hn]
  refine q_putI (ci := 7) (fk := 3) d_Step_init_36 rfl (Nat.le_of_ble_eq_true rfl) w_652 (Or.inr ⟨rfl, rfl, rfl⟩) (fun _ _ => rfl) rfl rfl (by first | assumption | rfl | (simp (disch := omega) only [q_upT_self, q_upT_ne, q_upR_self, q_upR_nea, q_upR_nk, q_upT_at, *]; done) | (simp (disch := omega) only [q_upT_self, q_upT_ne, q_upR_self, q_upR_nea, q_upR_nk, q_upT_at, *]; rfl)) ?_
  refine q_aload_n d_Step_init_39 rfl rfl ?_
  refine q_aload_n d_Step_init_40 rfl rfl ?_
  refine q_getI (ci := 2) (fk := 4) d_Step_init_41 rfl (Nat.le_of_ble_eq_true rfl) w_154 (fun _ _ => rfl) (by first | assumption | rfl | (simp (disch := omega) only [q_upT_self, q_upT_ne, q_upR_self, q_upR_nea, q_upR_nk, q_upT_at, *]; done) | (simp (disch := omega) only [q_upT_self, q_upT_ne, q_upR_self, q_upR_nea, q_upR_nk, q_upT_at, *]; rfl)) ?_
  simp (disch := omega) only [q_upI_nea]
  refine q_putI (ci := 7) (fk := 5) d_Step_init_44 rfl (Nat.le_of_ble_eq_true rfl) w_658 (Or.inr ⟨rfl, rfl, rfl⟩) (fun _ _ => rfl) rfl rfl (by first | assumption | rfl | (simp (disch := omega) only [q_upT_self, q_upT_ne, q_upR_self, q_upR_nea, q_upR_nk, q_upT_at, *]; done) | (simp (disch := omega) only [q_upT_self, q_upT_ne, q_upR_self, q_upR_nea, q_upR_nk, q_upT_at, *]; rfl)) ?_
  refine q_aload_n d_Step_init_47 rfl rfl ?_
  refine q_aload_n d_Step_init_48 rfl rfl ?_
  refine q_getR (ci := 2) (fk := 0) d_Step_init_49 rfl (Nat.le_of_ble_eq_true rfl) w_144 (fun _ _ => rfl) (by first | assumption | rfl | (simp (disch := omega) only [q_upT_self, q_upT_ne, q_upR_self, q_upR_nea, q_upR_nk, q_upT_at, *]; done) | (simp (disch := omega) only [q_upT_self, q_upT_ne, q_upR_self, q_upR_nea, q_upR_nk, q_upT_at, *]; rfl)) (by first | assumption | rfl | (simp (disch := omega) only [q_upT_self, q_upT_ne, q_upR_self, q_upR_nea, q_upR_nk, q_upT_at, *]; done) | (simp (disch := omega) only [q_upT_self, q_upT_ne, q_upR_self, q_upR_nea, q_upR_nk, q_upT_at, *]; rfl)) ?_
  refine q_getI (ci := 6) (fk := 1) d_Step_init_52 rfl (Nat.le_of_ble_eq_true rfl) w_98 (fun _ _ => rfl) (by first | assumption | rfl | (simp (disch := omega) only [q_upT_self, q_upT_ne, q_upR_self, q_upR_nea, q_upR_nk, q_upT_at, *]; done) | (simp (disch := omega) only [q_upT_self, q_upT_ne, q_upR_self, q_upR_nea, q_upR_nk, q_upT_at, *]; rfl)) ?_
  simp (disch := omega) only [q_upI_nea]
  rw [hS.2.1]
  refine q_newa (ty := .int) (kd := 0) (N := _) d_Step_init_55 (Or.inl ⟨rfl, rfl⟩) w_91 rfl (by omega) (by omega) (by omega) ?_
  refine q_putR (ci := 7) (fk := 6) (x := some _) d_Step_init_57 rfl (Nat.le_of_ble_eq_true rfl) w_661 (Or.inr ⟨rfl, rfl, rfl⟩) (fun _ _ => rfl) rfl rfl (by first | assumption | rfl | (simp (disch := omega) only [q_upT_self, q_upT_ne, q_upR_self, q_upR_nea, q_upR_nk, q_upT_at, *]; done) | (simp (disch := omega) only [q_upT_self, q_upT_ne, q_upR_self, q_upR_nea, q_upR_nk, q_upT_at, *]; rfl)) ?_
  refine q_iconst (v := nI 0) d_Step_init_60 (by decide) ?_
  refine q_istore d_Step_init_61 (Nat.le_of_ble_eq_true rfl) (by first | exact q_ok0 | exact q_okI rfl | exact q_okR rfl | exact q_okN rfl) rfl ?_
  rw [← hT1]
  refine prims k 0 _ _ (by omega) (fun b b1 b2 => ?_) ?_ ?_ ?_ ?_ ?_ (fun b b1 b2 => ?_) ?_ ?_ (fun j hj => absurd hj (Nat.not_lt_zero _)) _ _ (by omega) (by omega)
  · funext z; simp (disch := omega) only [q_upI_nea]
  · simp (disch := omega) only [q_upI_nea, q_upI_self, q_upI_nk]
  · simp (disch := omega) only [q_upI_nea, q_upI_self, q_upI_nk]
  · simp (disch := omega) only [q_upI_nea, q_upI_self, q_upI_nk]
  · simp (disch := omega) only [q_upI_nea, q_upI_self, q_upI_nk]
  · simp (disch := omega) only [q_upI_nea, q_upI_self, q_upI_nk]
  · funext z; simp (disch := omega) only [q_upR_nea]
  · rw [q_upR_nk (by omega), q_upR_self]
  · rw [q_upR_self]
/-- versions and steps are others, the rest stays -/
def KA.grow (S : KA) (vs : List (List KF)) (ss : List KS) : KA := (vs, ss, S.bg, S.op, S.df, S.dp, S.dD, S.dn, S.rs)
theorem relC.grow (h : relC S x sz T I R) {vs : List (List KF)} {ss : List KS} {sz' : Nat} {T' : q_T} {I' : q_I} {R' : q_R} (hsz : sz ≤ sz') (hT : ∀ a q, T a = some q → T' a = some q) (hT' : ∀ a q, T' a = some q → a < sz') (hI : ∀ b, b < sz → b ≠ x + 1 → I' b = I b) (hR : ∀ b, b < sz → b ≠ x + 2 → b ≠ x + 3 → R' b = R b) (hv : c_ver x vs T' I' R') (hs : c_stp x ss T' I' R') (hdf : S.op = true → ∀ L, vs[S.df]? = some L → S.vs[S.df]? = some L) : relC (S.grow vs ss) x sz' T' I' R' ∧ c_fr x sz T I R sz' T' I' R' := by
  obtain ⟨h1, h2, h3, h4, h5, h6, h7, h8⟩ := h
  have t1 := h1.2.1.1
  have t2 := (h1.2.1.2 0 _ _ _ rfl).2
  have t3 := (h1.2.1.2 2 _ _ _ rfl).2
  have hrn : ∀ r, r_new r T R → r_new r T' R' ∧ (∀ b, r ≤ b → b < r + 8 → I' b = I b) := fun r hr => by
    have hl : ∀ b, r ≤ b → b < r + 8 → b < sz ∧ b ≠ x + 1 ∧ b ≠ x + 2 ∧ b ≠ x + 3 := fun b z1 z2 => by
      obtain ⟨q, q1, q2⟩ := hr.tys z1 z2
      refine ⟨h8 b q q1, fun z => ?_, fun z => ?_, fun z => ?_⟩
      · rw [z, t1] at q1; cases q1; simp at q2
      · rw [z, t2] at q1; cases q1; simp at q2
      · rw [z, t3] at q1; cases q1; simp at q2
    exact ⟨hr.keep hT (fun b z1 z2 => hR b (hl b z1 z2).1 (hl b z1 z2).2.2.1 (hl b z1 z2).2.2.2), fun b z1 z2 => hI b (hl b z1 z2).1 (hl b z1 z2).2.1⟩
  refine ⟨⟨⟨?_, ?_, ?_, ?_, ?_, ?_⟩, hv, hs, ?_, ⟨fun j hj => ?_, ?_⟩, by rw [hI x (by omega) (by omega)]; exact h6, by omega, hT'⟩, hsz, hT, fun b hb => hI b (by unfold c_reg at hb; omega) (by unfold c_reg at hb; omega), fun b hb => hR b (by unfold c_reg at hb; omega) (by unfold c_reg at hb; omega) (by unfold c_reg at hb; omega)⟩
  · exact h1.1.keep hT (fun fk off kd n z => by rw [hR x (by omega) (by omega) (by omega)])
  · exact h1.2.1.keep hT (fun fk off kd n z => by rw [hR (x + 1) (by omega) (by omega) (by omega)])
  · exact h1.2.2.1.keep hT (fun fk off kd n z => by rw [hR (x + 32) (by omega) (by omega) (by omega)])
  · exact h1.2.2.2.1.keep hT (fun fk off kd n z => by rw [hR (x + 69) (by omega) (by omega) (by omega)])
  · exact h1.2.2.2.2.1.keep hT (fun fk off kd n z => by rw [hR (x + 70) (by omega) (by omega) (by omega)])
  · exact h1.2.2.2.2.2.keep hT (fun fk off kd n z => by rw [hR (x + 72) (by omega) (by omega) (by omega)])
  · obtain ⟨a1, D, w, a2, a3⟩ := h4
    refine ⟨by rw [hI (x + 32) (by omega) (by omega)]; exact a1, D, w, a2.cong3 hT (fun b z1 z2 => hI b (by omega) (by omega)) (fun b z1 z2 => hR b (by omega) (by omega) (by omega)), fun ho => ?_⟩
    obtain ⟨d1, d2, d3, d4, d5, d6⟩ := a3 ho
    rw [hI (x + 32) (by omega) (by omega), hR (x + 59) (by omega) (by omega) (by omega)]
    refine ⟨d1, d2, d3, fun L hL => d4 L (hdf ho L hL), d5, fun j q hq => ?_⟩
    obtain ⟨p, p1, p2, p3⟩ := d6 j q hq
    exact ⟨p, p1, p2, p3.cong3 hT (hI p (h8 p _ p3.1) (by omega))⟩
  · show (R' (x + 60) (nI j) = none → S.rs j = none) ∧ _
    rw [hR (x + 60) (by omega) (by omega) (by omega)]
    obtain ⟨e1, e2⟩ := h5.1 j hj
    refine ⟨e1, fun r hr2 => ?_⟩
    obtain ⟨f1, f2, f3, f4, f5⟩ := e2 r hr2
    obtain ⟨g1, g2⟩ := hrn r f2
    exact ⟨f1, g1, by rw [g2 r (by omega) (by omega)]; exact f3, fun c hc => (f4 c hc).cong g2, f5⟩
  · obtain ⟨q, q1, q2, q3, q4⟩ := h5.2
    obtain ⟨g1, g2⟩ := hrn q q3
    rw [hR x (by omega) (by omega) (by omega), hR (x + 60) (by omega) (by omega) (by omega)]
    exact ⟨q, q1, q2, g1, q4⟩
/-- a version more -/
def KA.addV (S : KA) (L : List KF) : KA := S.grow (S.vs ++ [L]) S.ss
theorem k_app_at {α : Type} {l : List α} {a b : α} {i : Nat} (h : (l ++ [a])[i]? = some b) : (i < l.length ∧ l[i]? = some b) ∨ (i = l.length ∧ a = b) := by
  by_cases hi : i < l.length
  · rw [List.getElem?_append_left hi] at h
    exact Or.inl ⟨hi, h⟩
  · rw [List.getElem?_append_right (by omega)] at h
    have h2 := (List.getElem?_eq_some_iff.mp h).1
    have h1 : ([a] : List α).length = 1 := rfl
    have h3 : i = l.length := by omega
    rw [show i - l.length = 0 by omega] at h
    exact Or.inr ⟨h3, by simpa using h⟩
set_option maxHeartbeats 1000000 in
theorem c_Versions_addVersion (hC : relC S x sz T I R) (h8 : S.vs.length < 8) (hdf : S.op = true → S.df < S.vs.length) {D : List KF} {w : Nat → Nat} (hS : k_sc (x + 33) D w T I R) : q_Ci g M_Versions_addVersion [.ref (x + 1), .ref (x + 33)] (sz, T, I, R, J) 26 160 (fun r h' => r = nI S.vs.length ∧ ∃ (sz' : Nat) (T' : q_T) (I' : q_I) (R' : q_R), h' = (sz', T', I', R', J) ∧ c_fr x sz T I R sz' T' I' R' ∧ relC (S.addV (k_rs 0 D)) x sz' T' I' R') := by
  have hL := hC.1.2.1
  have hV1 := hL.1
  have hV2 := (hL.2 0 _ _ _ rfl).1
  have hV3 := (hL.2 0 _ _ _ rfl).2
  have h7 := hC.2.2.2.2.2.2.1
  have hfr := hC.2.2.2.2.2.2.2
  have hn := hC.2.1.1
  refine q_C.of (ls0 := [some (.ref (x + 1)), some (.ref (x + 33))]) (by decide) rfl (by decide) (Nat.le_of_ble_eq_true rfl) rfl ?_
  refine q_aload_n d_Versions_addVersion_0 rfl rfl ?_
  refine q_getR (ci := 9) (fk := 0) d_Versions_addVersion_1 rfl (Nat.le_of_ble_eq_true rfl) w_109 (fun _ _ => rfl) hL.1 (hL.2 0 _ _ _ rfl).1 ?_
  refine q_aload_n d_Versions_addVersion_4 rfl rfl ?_
  refine q_getI (ci := 9) (fk := 1) d_Versions_addVersion_5 rfl (Nat.le_of_ble_eq_true rfl) w_111 (fun _ _ => rfl) hL.1 ?_
  rw [hn]
  refine q_newN (ci := 6) (N := 2) d_Versions_addVersion_8 rfl rfl w_38 w_42 w_3 (by omega) (by omega) ?_
  refine q_dup d_Versions_addVersion_11 rfl ?_
  refine q_callIv (M2 := M_Schema_init) d_Versions_addVersion_12 ⟨(Nat.le_of_ble_eq_true rfl), (Nat.le_of_ble_eq_true rfl), w_45, w_3, ⟨by decide, by decide⟩, show _ = some 0 by decide +kernel⟩ rfl rfl rfl w_43 w_44 rfl (Nat.le_of_ble_eq_true rfl) (by omega) (by omega) (c_Schema_init _ q_upT_self (by omega)) ?_
  rintro _ rfl
  obtain ⟨T2, hT2⟩ : ∃ T2, T2 = s_T (q_upT T sz (100 + 6, 0)) (sz + 1) 24 := ⟨_, rfl⟩
  obtain ⟨R1, hR1⟩ : ∃ R1, R1 = s_R R sz (sz + 1) 24 := ⟨_, rfl⟩
  rw [← hT2, ← hR1]
  have hx : ∀ a q, T a = some q → T2 a = some q := fun a q z => by
    have := hfr a q z
    rw [hT2, s_T_lo (by omega), q_upT_ne (by omega)]; exact z
  have tV1 := hx _ _ hV1
  have tV3 := hx _ _ hV3
  have tsz : T2 sz = some (100 + 6, 0) := by rw [hT2, s_T_lo (by omega), q_upT_self]
  have r1 : ∀ b, b < sz → R1 b = R b := fun b hb => by rw [hR1]; funext j; rw [s_R_ne (by omega) (by omega)]
  refine q_aast (kd := 5) (ci := 6) d_Versions_addVersion_15 rfl rfl (Nat.le_of_ble_eq_true rfl) (Nat.le_of_ble_eq_true rfl) tV3 tsz (vp_in_nI (by omega) (by omega)) ?_
  obtain ⟨R2, hR2⟩ : ∃ R2, R2 = q_upR R1 (x + 1 + 1) (nI S.vs.length) (some sz) := ⟨_, rfl⟩
  rw [← hR2]
  have r2 : ∀ b, b < sz → b ≠ x + 2 → R2 b = R b := fun b hb hb2 => by rw [hR2, ← r1 b hb]; funext j; rw [q_upR_nea hb2]
  have rV2 : R2 (x + 1) (nI 0) = some (x + 1 + 1) := by rw [r2 (x + 1) (by omega) (by omega)]; exact hV2
  have rV3 : R2 (x + 1 + 1) (nI S.vs.length) = some sz := by rw [hR2, q_upR_self]
  have hl : k_sl sz (fun i => i) T2 R2 := by
    refine ⟨q_L.mk ?_ ?_, fun i hi => ⟨?_, hi⟩, fun i j _ _ z => z, fun j hj => ?_⟩
    · exact tsz
    · rw [hT2, hR2, hR1]
      simp (disch := omega) only [q_La, t_Schema, q_upT_at, q_upT_ne, s_T_f, s_T_in, s_T_lo, s_T_hi, q_upR_at, q_upR_nea, q_upR_nk, s_R_s, s_R_at, s_R_ne, and_self]
    · rw [hR2, hR1, q_upR_nea (by omega), s_R_at (by omega) rfl hi (by omega), show sz + 1 + 1 + i = sz + 2 + i by omega]
    · rw [hT2, s_T_in (by omega) (by omega)]
  have hS2 : k_sc (x + 33) D w T2 I R2 := hS.cong3 hx (fun _ _ _ => rfl) (fun b b1 b2 => r2 b (by omega) (by omega))
  have hL := hL.keep hx (R2 := R2) (fun fk off kd n z => by rw [r2 (x + 1) (by omega) (by omega)])
  refine q_aload_n d_Versions_addVersion_16 rfl rfl ?_
  refine q_getR (ci := 9) (fk := 0) d_Versions_addVersion_17 rfl (Nat.le_of_ble_eq_true rfl) w_109 (fun _ _ => rfl) hL.1 (hL.2 0 _ _ _ rfl).1 ?_
  refine q_aload_n d_Versions_addVersion_20 rfl rfl ?_
  refine q_getI (ci := 9) (fk := 1) d_Versions_addVersion_21 rfl (Nat.le_of_ble_eq_true rfl) w_111 (fun _ _ => rfl) hL.1 ?_
  rw [hn]
  refine q_aaldR (kd := _) d_Versions_addVersion_24 rfl (Nat.le_of_ble_eq_true rfl) (Nat.le_of_ble_eq_true rfl) (hL.2 0 _ _ _ rfl).2 (by first | assumption | exact vp_in_nI (by omega) (by omega)) (by first | assumption | rfl | (simp (disch := omega) only [q_upT_self, q_upT_ne, q_upR_self, q_upR_nea, q_upR_nk, s_T_lo, s_T_hi, s_R_ne, *]; done) | (simp (disch := omega) only [q_upT_self, q_upT_ne, q_upR_self, q_upR_nea, q_upR_nk, s_T_lo, s_T_hi, s_R_ne, *]; rfl)) ?_
  refine q_aload_n d_Versions_addVersion_25 rfl rfl ?_
  refine q_callVv (M2 := M_Schema_makeLike) d_Versions_addVersion_26 ⟨(Nat.le_of_ble_eq_true rfl), (Nat.le_of_ble_eq_true rfl), w_457, w_3, ⟨by decide, by decide⟩, show _ = some 1 by decide +kernel⟩ w_631 w_455 (ci := 6) rfl w_456 (by first | assumption | rfl | (simp (disch := omega) only [q_upT_self, q_upT_ne, q_upR_self, q_upR_nea, q_upR_nk, s_T_lo, s_T_hi, s_R_ne, *]; done) | (simp (disch := omega) only [q_upT_self, q_upT_ne, q_upR_self, q_upR_nea, q_upR_nk, s_T_lo, s_T_hi, s_R_ne, *]; rfl)) rfl (Nat.le_of_ble_eq_true rfl) (by omega) (by omega) (c_Schema_makeLike hl hS2 (by omega)) ?_
  rintro _ ⟨I3, rfl, i1, i2⟩
  have n3 : I3 (x + 1) (nI 1) = nI S.vs.length := by rw [i1 (x + 1) (by omega)]; exact hn
  refine q_aload_n d_Versions_addVersion_29 rfl rfl ?_
  refine q_dup d_Versions_addVersion_30 rfl ?_
  refine q_getI (ci := 9) (fk := 1) d_Versions_addVersion_31 rfl (Nat.le_of_ble_eq_true rfl) w_111 (fun _ _ => rfl) hL.1 ?_
  rw [n3]
  refine q_iconst (v := nI 1) d_Versions_addVersion_34 (by decide) ?_
  first | refine q_iaddN d_Versions_addVersion_35 ?_ | refine q_iadd d_Versions_addVersion_35 ?_
  refine q_putI (ci := 9) (fk := 1) d_Versions_addVersion_36 rfl (Nat.le_of_ble_eq_true rfl) w_111 (Or.inl rfl) (fun _ _ => rfl) rfl rfl hL.1 ?_
  refine q_aload_n d_Versions_addVersion_39 rfl rfl ?_
  refine q_getI (ci := 9) (fk := 1) d_Versions_addVersion_40 rfl (Nat.le_of_ble_eq_true rfl) w_111 (fun _ _ => rfl) hL.1 ?_
  rw [q_upI_self]
  refine q_iconst (v := nI 1) d_Versions_addVersion_43 (by decide) ?_
  refine q_isub d_Versions_addVersion_44 ?_
  refine q_iret d_Versions_addVersion_45 rfl (by omega) (by omega) ?_
  have hTf : ∀ a q, T2 a = some q → a < sz + 26 := fun a q z => by
    refine Classical.byContradiction fun hh => ?_
    rw [hT2, s_T_hi (by omega), q_upT_ne (by omega)] at z
    exact absurd (hfr a q z) (by omega)
  obtain ⟨I4, hI4⟩ : ∃ I4, I4 = q_upI I3 (x + 1) (nI 1) (nI (S.vs.length + 1)) := ⟨_, rfl⟩
  rw [← hI4]
  have i4 : ∀ b, b ≠ x + 1 → I4 b = I3 b := fun b hb => by rw [hI4]; funext j; rw [q_upI_nea hb]
  have i5 : ∀ b, b < sz → b ≠ x + 1 → I4 b = I b := fun b b1 b2 => by rw [i4 b b2, i1 b (by omega)]
  obtain ⟨h1, h2⟩ := hC.grow (vs := S.vs ++ [k_rs 0 D]) (ss := S.ss) (sz' := sz + 1 + 25) (T' := T2) (I' := I4) (R' := R2) (by omega) hx hTf i5 (fun b b1 b2 b3 => r2 b b1 b2) ⟨by rw [hI4, q_upI_self, List.length_append]; rfl, fun v L hv => (by
    rcases k_app_at hv with ⟨v1, v2⟩ | ⟨v1, v2⟩
    · obtain ⟨s, w2, a1, a2, a3, a4⟩ := hC.2.1.2 v L v2
      have n4 : ∀ b, s ≤ b → b < s + 26 → b < sz := fun b z1 z2 => by
        obtain ⟨q, hq⟩ := a4.1.tys z1 z2
        exact hfr b q hq
      refine ⟨s, w2, ?_, a2, a3, a4.cong3 hx (fun b z1 z2 => i5 b (n4 b z1 z2) (a4.1.ne z1 z2 hV1 (by decide) (by decide) (by decide))) (fun b z1 z2 => r2 b (n4 b z1 z2) (a4.1.ne z1 z2 hV3 (by decide) (by decide) (by decide)))⟩
      rw [hR2, q_upR_nk (by omega), r1 (x + 2) (by omega)]
      exact a1
    · subst v1 v2
      exact ⟨sz, fun i => i, rV3, Or.inr h7, by omega, i2.cong (fun b b1 b2 => i4 b (by omega))⟩)⟩ ⟨by rw [hI4, q_upI_nk (by omega), i1 (x + 1) (by omega)]; exact hC.2.2.1.1, fun i st hi => (by
    obtain ⟨t, a1, a2⟩ := hC.2.2.1.2 i st hi
    exact ⟨t, by rw [r2 (x + 3) (by omega) (by omega)]; exact a1, a2.cong3 hx (fun b q z1 z2 => i5 b (hfr b q z2) (by omega)) (fun b q z1 z2 => r2 b (hfr b q z2) (by omega))⟩)⟩ (fun ho L hL2 => (by
    rcases k_app_at hL2 with ⟨v1, v2⟩ | ⟨v1, v2⟩
    · exact v2
    · exact absurd (hdf ho) (by omega)))
  exact ⟨_, rfl, nI_sb _ _, _, _, _, _, rfl, h2, h1⟩
/-- a step more -/
def KA.addS (S : KA) (st : KS) : KA := S.grow S.vs (S.ss ++ [st])
set_option maxHeartbeats 1000000 in
theorem c_Versions_addStep (hC : relC S x sz T I R) (hop : S.op = true) (h16 : S.ss.length < 16) (h8 : S.dp.length ≤ 8) {L : List KF} (hv : S.vs[S.df]? = some L) {to : Nat} : q_Cv g M_Versions_addStep [.ref (x + 1), .ref (x + 32), .int (nI to)] (sz, T, I, R, J) 3 48 (fun h' => ∃ (sz' : Nat) (T' : q_T) (I' : q_I) (R' : q_R), h' = (sz', T', I', R', J) ∧ c_fr x sz T I R sz' T' I' R' ∧ relC (S.addS (S.df, to, S.dp, L.length, S.dD.map (·.2.2.2.2))) x sz' T' I' R') := by
  have hL := hC.1.2.1
  have hV1 := hL.1
  have hV2 := (hL.2 2 _ _ _ rfl).1
  have hV3 := (hL.2 2 _ _ _ rfl).2
  have h7 := hC.2.2.2.2.2.2.1
  have hfr := hC.2.2.2.2.2.2.2
  have hn := hC.2.2.1.1
  obtain ⟨d1, D, w, d2, d3⟩ := hC.2.2.2.1
  obtain ⟨rfl, e2, e3, e4, e5, e6⟩ := d3 hop
  have hD := hC.1.2.2.1
  obtain ⟨T1, hT1⟩ : ∃ T1, T1 = q_upT T sz (100 + 7, 0) := ⟨_, rfl⟩
  have hx1 : ∀ a q, T a = some q → T1 a = some q := fun a q z => by
    have := hfr a q z
    rw [hT1, q_upT_ne (by omega)]; exact z
  have hfr1 : ∀ a q, T1 a = some q → a < sz + 1 := fun a q z => by
    by_cases ha : a = sz
    · omega
    · rw [hT1, q_upT_ne ha] at z
      have := hfr a q z
      omega
  have tsz : T1 sz = some (100 + 7, 0) := by rw [hT1, q_upT_self]
  refine q_C.of (ls0 := [some (.ref (x + 1)), some (.ref (x + 32)), some (.int (nI to))]) (by decide) rfl (by decide) (Nat.le_of_ble_eq_true rfl) rfl ?_
  refine q_aload_n d_Versions_addStep_0 rfl rfl ?_
  refine q_getR (ci := 9) (fk := 2) d_Versions_addStep_1 rfl (Nat.le_of_ble_eq_true rfl) w_113 (fun _ _ => rfl) hL.1 (hL.2 2 _ _ _ rfl).1 ?_
  refine q_aload_n d_Versions_addStep_4 rfl rfl ?_
  refine q_getI (ci := 9) (fk := 3) d_Versions_addStep_5 rfl (Nat.le_of_ble_eq_true rfl) w_115 (fun _ _ => rfl) hL.1 ?_
  rw [hn]
  refine q_newN (ci := 7) (N := 7) d_Versions_addStep_8 rfl rfl w_40 w_636 w_21 (by omega) (by omega) ?_
  refine q_dup d_Versions_addStep_11 rfl ?_
  rw [← hT1]
  have hL0 := hL
  have hL := hL.keep hx1 (fun _ _ _ _ _ => rfl)
  refine q_aload_n d_Versions_addStep_12 rfl rfl ?_
  refine q_getI (ci := 9) (fk := 3) d_Versions_addStep_13 rfl (Nat.le_of_ble_eq_true rfl) w_115 (fun _ _ => rfl) hL.1 ?_
  rw [hn]
  refine q_aload_n d_Versions_addStep_16 rfl rfl ?_
  refine q_iload_n d_Versions_addStep_17 rfl rfl ?_
  refine q_callIv (M2 := M_Step_init) d_Versions_addStep_18 ⟨(Nat.le_of_ble_eq_true rfl), (Nat.le_of_ble_eq_true rfl), w_639, w_21, ⟨by decide, by decide⟩, show _ = some 3 by decide +kernel⟩ rfl rfl rfl w_637 w_638 rfl (Nat.le_of_ble_eq_true rfl) (by omega) (by omega) (c_Step_init (d := x + 32) (D := S.dD) (w := w) (k := S.dp.length) tsz rfl hfr1 (hD.keep hx1 (fun _ _ _ _ _ => rfl)) (d2.cong3 hx1 (fun _ _ _ => rfl) (fun _ _ _ => rfl)) e2 h8 (fun j hj => (by obtain ⟨p, p1, p2, p3⟩ := e6 j _ (List.getElem?_eq_getElem hj); exact ⟨p, p1, hx1 _ _ p3.1⟩)) (by omega)) ?_
  rintro _ ⟨I1, R1, rfl, i1, i2, i3, i4, i5, i6, i7, i8, i9, i10, i11⟩
  obtain ⟨T2, hT2⟩ : ∃ T2, T2 = q_upT (q_upT T1 (sz + 1) (3, 8)) (sz + 1 + 1) (0, S.dD.length) := ⟨_, rfl⟩
  rw [← hT2]
  have hx2 : ∀ a q, T1 a = some q → T2 a = some q := fun a q z => by
    have := hfr1 a q z
    rw [hT2, q_upT_ne (by omega), q_upT_ne (by omega)]; exact z
  have hx : ∀ a q, T a = some q → T2 a = some q := fun a q z => hx2 _ _ (hx1 _ _ z)
  have tV1 := hx _ _ hV1
  have tV3 := hx _ _ hV3
  have tsz2 := hx2 _ _ tsz
  have hTf : ∀ a q, T2 a = some q → a < sz + 1 + 2 := fun a q z => by
    refine Classical.byContradiction fun hh => ?_
    rw [hT2, q_upT_ne (by omega), q_upT_ne (by omega)] at z
    exact absurd (hfr1 a q z) (by omega)
  refine q_aast (kd := 6) (ci := 7) d_Versions_addStep_21 rfl rfl (Nat.le_of_ble_eq_true rfl) (Nat.le_of_ble_eq_true rfl) tV3 tsz2 (vp_in_nI (by omega) (by omega)) ?_
  obtain ⟨R2, hR2⟩ : ∃ R2, R2 = q_upR R1 (x + 1 + 2) (nI S.ss.length) (some sz) := ⟨_, rfl⟩
  rw [← hR2]
  have r1 : ∀ b, b < sz → R1 b = R b := fun b hb => i2 b (by omega) (by omega)
  have r2 : ∀ b, b < sz → b ≠ x + 3 → R2 b = R b := fun b hb hb2 => by rw [hR2, ← r1 b hb]; funext j; rw [q_upR_nea (by omega)]
  have r3 : ∀ b, sz ≤ b → R2 b = R1 b := fun b hb => by rw [hR2]; funext j; rw [q_upR_nea (by omega)]
  have hL := hL0.keep hx (R2 := R2) (fun fk off kd n z => by rw [r2 (x + 1) (by omega) (by omega)])
  refine q_aload_n d_Versions_addStep_22 rfl rfl ?_
  refine q_dup d_Versions_addStep_23 rfl ?_
  refine q_getI (ci := 9) (fk := 3) d_Versions_addStep_24 rfl (Nat.le_of_ble_eq_true rfl) w_115 (fun _ _ => rfl) hL.1 ?_
  rw [i1 (x + 1) (by omega) (by omega), hn]
  refine q_iconst (v := nI 1) d_Versions_addStep_27 (by decide) ?_
  first | refine q_iaddN d_Versions_addStep_28 ?_ | refine q_iadd d_Versions_addStep_28 ?_
  refine q_putI (ci := 9) (fk := 3) d_Versions_addStep_29 rfl (Nat.le_of_ble_eq_true rfl) w_115 (Or.inl rfl) (fun _ _ => rfl) rfl rfl hL.1 ?_
  refine q_vret d_Versions_addStep_32 rfl (by omega) (by omega) ?_
  obtain ⟨I4, hI4⟩ : ∃ I4, I4 = q_upI I1 (x + 1) (nI 3) (nI (S.ss.length + 1)) := ⟨_, rfl⟩
  rw [← hI4]
  have j4 : ∀ b, b ≠ x + 1 → I4 b = I1 b := fun b hb => by rw [hI4]; funext j; rw [q_upI_nea hb]
  have j5 : ∀ b, b < sz → b ≠ x + 1 → I4 b = I b := fun b b1 b2 => by rw [j4 b b2, i1 b (by omega) (by omega)]
  obtain ⟨h1, h2⟩ := hC.grow (vs := S.vs) (ss := S.ss ++ [(S.df, to, S.dp, L.length, S.dD.map (·.2.2.2.2))]) (sz' := sz + 1 + 2) (T' := T2) (I' := I4) (R' := R2) (by omega) hx hTf j5 (fun b b1 b2 b3 => r2 b b1 b3) ⟨by rw [hI4, q_upI_nk (by omega), i1 (x + 1) (by omega) (by omega)]; exact hC.2.1.1, fun v L hv => (by
    obtain ⟨s, w2, a1, a2, a3, a4⟩ := hC.2.1.2 v L hv
    have n4 : ∀ b, s ≤ b → b < s + 26 → b < sz := fun b z1 z2 => by
      obtain ⟨q, hq⟩ := a4.1.tys z1 z2
      exact hfr b q hq
    refine ⟨s, w2, by rw [r2 (x + 2) (by omega) (by omega)]; exact a1, a2, a3, a4.cong3 hx (fun b z1 z2 => j5 b (n4 b z1 z2) (a4.1.ne z1 z2 hV1 (by decide) (by decide) (by decide))) (fun b z1 z2 => r2 b (n4 b z1 z2) (a4.1.ne z1 z2 hV3 (by decide) (by decide) (by decide)))⟩)⟩ ⟨by rw [hI4, q_upI_self, List.length_append]; rfl, fun i st hi => (by
    rcases k_app_at hi with ⟨v1, v2⟩ | ⟨v1, v2⟩
    · obtain ⟨t, a1, a2⟩ := hC.2.2.1.2 i st v2
      exact ⟨t, by rw [hR2, q_upR_nk (by omega), r1 (x + 3) (by omega)]; exact a1, a2.cong3 hx (fun b q z1 z2 => j5 b (hfr b q z2) (by omega)) (fun b q z1 z2 => r2 b (hfr b q z2) (by omega))⟩
    · subst v1 v2
      refine ⟨sz, by rw [hR2, q_upR_self], h7, tsz2, ?_, ?_, ?_, ?_, ?_, ?_, ?_, ?_, ?_, fun j q hq => ?_, fun j n hj => ?_⟩
      · rw [j4 sz (by omega)]; exact i3
      · rw [j4 sz (by omega), i4]; exact e3
      · rw [j4 sz (by omega)]; exact i5
      · rw [j4 sz (by omega)]; exact i6
      · rw [j4 sz (by omega), i7]; exact e4 L hv
      · rw [r3 sz (by omega)]; exact i8
      · rw [hT2, q_upT_ne (by omega), q_upT_self]
      · rw [r3 sz (by omega)]; exact i9
      · rw [hT2, List.length_map]; exact q_upT_self
      · have hjl := (List.getElem?_eq_some_iff.mp hq).1
        obtain ⟨p, p1, p2, p3⟩ := e6 j q hq
        refine ⟨p, by rw [r3 (sz + 1) (by omega), i10 j hjl]; exact p1, p2, p3.cong3 hx (j5 p (hfr _ _ p3.1) (by omega))⟩
      · have hj2 : (S.dD.map (·.2.2.2.2))[j]? = some n := hj
        rw [List.getElem?_map] at hj2
        cases hf : S.dD[j]? with
        | none => rw [hf] at hj2; cases hj2
        | some f =>
          rw [hf] at hj2
          cases hj2
          rw [j4 (sz + 2) (by omega)]
          exact i11 j f hf)⟩ (fun _ _ z => z)
  exact ⟨rfl, _, _, _, _, rfl, h2, h1⟩
theorem c_Lens_end_no (hC : relC S x sz T I R) {to : Int32} (ho : S.op = false) : q_C g M_Lens_end [.ref x, .int to] (sz, T, I, R, J) 1000 14000 (q_Xi [0, 2, 1, 3] (c_sp x sz T I R J (nI 1, 0, S))) := by
  have hL := hC.1.1
  have hD1 := hC.1.2.2.1.1
  refine q_C.of (ls0 := [some (.ref x), some (.int to), none]) (by decide) rfl (by decide) (Nat.le_of_ble_eq_true rfl) rfl ?_
  refine q_aload_n d_Lens_end_0 rfl rfl ?_
  refine q_getR (ci := 10) (fk := 1) d_Lens_end_1 rfl (Nat.le_of_ble_eq_true rfl) w_273 (fun _ _ => rfl) hL.1 (hL.2 1 _ _ _ rfl).1 ?_
  refine q_getI (ci := 2) (fk := 5) d_Lens_end_4 rfl (Nat.le_of_ble_eq_true rfl) w_157 (fun _ _ => rfl) (by first | assumption | rfl | (simp (disch := omega) only [q_upT_self, q_upT_ne, q_upR_self, q_upR_nea, q_upR_nk, s_T_lo, s_T_hi, s_R_ne, *]; done) | (simp (disch := omega) only [q_upT_self, q_upT_ne, q_upR_self, q_upR_nea, q_upR_nk, s_T_lo, s_T_hi, s_R_ne, *]; rfl)) ?_
  rw [hC.2.2.2.1.1, ho]
  refine q_if_ne (tgt := 18) d_Lens_end_7 rfl (fun hc => ?_) (fun hc => ?_)
  · exact absurd rfl hc
  · refine q_throw (x := 0) d_Lens_end_10 d_Lens_end_13 d_Lens_end_14 d_Lens_end_17 (by decide +kernel) x_nmf (Nat.le_of_ble_eq_true rfl) (Nat.le_of_ble_eq_true rfl) (Nat.le_of_ble_eq_true rfl) w_307 w_14 x_at0 rfl (Nat.le_of_ble_eq_true rfl) (by omega) (by omega) ?_
    exact c_xi_no hC rfl
theorem c_Lens_end_no2 (hC : relC S x sz T I R) {to : Int32} (ho : S.op = true) (h1 : to ≠ -1) (h2 : k_bel S.vs.length to = false) : q_C g M_Lens_end [.ref x, .int to] (sz, T, I, R, J) 1000 14000 (q_Xi [0, 2, 1, 3] (c_sp x sz T I R J (nI 2, 0, S))) := by
  have hL := hC.1.1
  have hD1 := hC.1.2.2.1.1
  refine q_C.of (ls0 := [some (.ref x), some (.int to), none]) (by decide) rfl (by decide) (Nat.le_of_ble_eq_true rfl) rfl ?_
  refine q_aload_n d_Lens_end_0 rfl rfl ?_
  refine q_getR (ci := 10) (fk := 1) d_Lens_end_1 rfl (Nat.le_of_ble_eq_true rfl) w_273 (fun _ _ => rfl) hL.1 (hL.2 1 _ _ _ rfl).1 ?_
  refine q_getI (ci := 2) (fk := 5) d_Lens_end_4 rfl (Nat.le_of_ble_eq_true rfl) w_157 (fun _ _ => rfl) (by first | assumption | rfl | (simp (disch := omega) only [q_upT_self, q_upT_ne, q_upR_self, q_upR_nea, q_upR_nk, s_T_lo, s_T_hi, s_R_ne, *]; done) | (simp (disch := omega) only [q_upT_self, q_upT_ne, q_upR_self, q_upR_nea, q_upR_nk, s_T_lo, s_T_hi, s_R_ne, *]; rfl)) ?_
  rw [hC.2.2.2.1.1, ho]
  refine q_if_ne (tgt := 18) d_Lens_end_7 rfl (fun hc => ?_) (fun hc => ?_)
  rotate_left
  · exact absurd hc (by decide)
  refine q_iload_n d_Lens_end_18 rfl rfl ?_
  refine q_iconst (v := (-1)) d_Lens_end_19 (by decide) ?_
  refine q_icmp_eq (tgt := 28) d_Lens_end_20 rfl (fun hc => ?_) (fun hc => ?_)
  · exact absurd hc h1
  refine q_aload_n d_Lens_end_23 rfl rfl ?_
  refine q_iload_n d_Lens_end_24 rfl rfl ?_
  refine q_callV (M2 := M_Lens_needVersion) d_Lens_end_25 ⟨(Nat.le_of_ble_eq_true rfl), (Nat.le_of_ble_eq_true rfl), w_430, w_1, ⟨by decide, by decide⟩, show _ = some 1 by decide +kernel⟩ w_427 w_429 (ci := 10) rfl s_3 hL.1 rfl (Nat.le_of_ble_eq_true rfl) (by omega) (by omega) (c_needVersion_no hC h2) (fun v h' z => ?_) (fun z9 h' z => ?_)
  · cases z.1
  · obtain ⟨e9, rfl⟩ := z
    cases e9
    exact q_VX.out (by decide) (by omega) (by omega) (c_xi_no hC rfl)
theorem c_Lens_end_no3 (hw : wf S) (hC : relC S x sz T I R) (ho : S.op = true) {v : Nat} {Lv : List KF} (hv : S.vs[v]? = some Lv) (hb : v = S.df ∨ Lv.map k_st ≠ S.dD.map k_st) : q_C g M_Lens_end [.ref x, .int (nI v)] (sz, T, I, R, J) 1000 14000 (q_Xi [0, 2, 1, 3] (c_sp x sz T I R J (nI 3, 0, S))) := by
  have hL := hC.1.1
  have hD1 := hC.1.2.2.1.1
  have hD2 := (hC.1.2.2.1.2 0 _ _ _ rfl).1
  have hV1 := hC.1.2.1.1
  have hV2 := (hC.1.2.1.2 0 _ _ _ rfl).1
  have hV3 := (hC.1.2.1.2 0 _ _ _ rfl).2
  have hvl := (List.getElem?_eq_some_iff.mp hv).1
  have hv8 := hw.1.2.1
  have hwf := hw.1.2.2 Lv (List.mem_of_getElem? hv)
  obtain ⟨e1, e2, e3⟩ := hw.draft ho
  obtain ⟨s, w, a1, a2, a3, a4⟩ := hC.verAt hv
  have hs1 := a4.1.1.1
  obtain ⟨d1, D, wd, d2, d3⟩ := hC.2.2.2.1
  obtain ⟨rfl, f2, f3, f4, f5, f6⟩ := d3 ho
  have hdl := (hw.2.2.1 ho).1
  refine q_C.of (ls0 := [some (.ref x), some (.int (nI v)), none]) (by decide) rfl (by decide) (Nat.le_of_ble_eq_true rfl) rfl ?_
  refine q_aload_n d_Lens_end_0 rfl rfl ?_
  refine q_getR (ci := 10) (fk := 1) d_Lens_end_1 rfl (Nat.le_of_ble_eq_true rfl) w_273 (fun _ _ => rfl) hL.1 (hL.2 1 _ _ _ rfl).1 ?_
  refine q_getI (ci := 2) (fk := 5) d_Lens_end_4 rfl (Nat.le_of_ble_eq_true rfl) w_157 (fun _ _ => rfl) (by first | assumption | rfl | (simp (disch := omega) only [q_upT_self, q_upT_ne, q_upR_self, q_upR_nea, q_upR_nk, s_T_lo, s_T_hi, s_R_ne, *]; done) | (simp (disch := omega) only [q_upT_self, q_upT_ne, q_upR_self, q_upR_nea, q_upR_nk, s_T_lo, s_T_hi, s_R_ne, *]; rfl)) ?_
  rw [d1, ho]
  refine q_if_ne (tgt := 18) d_Lens_end_7 rfl (fun hc => ?_) (fun hc => ?_)
  rotate_left
  · exact absurd hc (by decide)
  refine q_iload_n d_Lens_end_18 rfl rfl ?_
  refine q_iconst (v := (-1)) d_Lens_end_19 (by decide) ?_
  refine q_icmp_eq (tgt := 28) d_Lens_end_20 rfl (fun hc => ?_) (fun hc => ?_)
  · exact absurd hc (nI_m1 (by omega))
  refine q_aload_n d_Lens_end_23 rfl rfl ?_
  refine q_iload_n d_Lens_end_24 rfl rfl ?_
  refine q_callVv (M2 := M_Lens_needVersion) d_Lens_end_25 ⟨(Nat.le_of_ble_eq_true rfl), (Nat.le_of_ble_eq_true rfl), w_430, w_1, ⟨by decide, by decide⟩, show _ = some 1 by decide +kernel⟩ w_427 w_429 (ci := 10) rfl s_3 hL.1 rfl (Nat.le_of_ble_eq_true rfl) (by omega) (by omega) (c_needVersion_ok hC (k_bel_nI (by omega) hvl)) ?_
  rintro _ rfl
  refine q_iload_n d_Lens_end_28 rfl rfl ?_
  refine q_iconst (v := (-1)) d_Lens_end_29 (by decide) ?_
  refine q_icmp_eq (tgt := 74) d_Lens_end_30 rfl (fun hc => ?_) (fun hc => ?_)
  · exact absurd hc (nI_m1 (by omega))
  refine q_iload_n d_Lens_end_33 rfl rfl ?_
  refine q_aload_n d_Lens_end_34 rfl rfl ?_
  refine q_getR (ci := 10) (fk := 1) d_Lens_end_35 rfl (Nat.le_of_ble_eq_true rfl) w_273 (fun _ _ => rfl) hL.1 (hL.2 1 _ _ _ rfl).1 ?_
  refine q_getI (ci := 2) (fk := 3) d_Lens_end_38 rfl (Nat.le_of_ble_eq_true rfl) w_153 (fun _ _ => rfl) (by first | assumption | rfl | (simp (disch := omega) only [q_upT_self, q_upT_ne, q_upR_self, q_upR_nea, q_upR_nk, s_T_lo, s_T_hi, s_R_ne, *]; done) | (simp (disch := omega) only [q_upT_self, q_upT_ne, q_upR_self, q_upR_nea, q_upR_nk, s_T_lo, s_T_hi, s_R_ne, *]; rfl)) ?_
  rw [f3]
  refine q_icmp_eq (tgt := 66) d_Lens_end_41 rfl (fun hc => ?_) (fun hc => ?_)
  · refine q_throw (x := 1) d_Lens_end_66 d_Lens_end_69 d_Lens_end_70 d_Lens_end_73 (by decide +kernel) x_nmf (Nat.le_of_ble_eq_true rfl) (Nat.le_of_ble_eq_true rfl) (Nat.le_of_ble_eq_true rfl) w_396 w_16 x_at1 rfl (Nat.le_of_ble_eq_true rfl) (by omega) (by omega) ?_
    exact c_xi_no hC rfl
  have hne : v ≠ S.df := fun z => hc (by rw [z])
  have hlk : Lv.map k_st ≠ S.dD.map k_st := by
    rcases hb with z | z
    · exact absurd z hne
    · exact z
  refine q_aload_n d_Lens_end_44 rfl rfl ?_
  refine q_getR (ci := 10) (fk := 0) d_Lens_end_45 rfl (Nat.le_of_ble_eq_true rfl) w_272 (fun _ _ => rfl) hL.1 (hL.2 0 _ _ _ rfl).1 ?_
  refine q_getR (ci := 9) (fk := 0) d_Lens_end_48 rfl (Nat.le_of_ble_eq_true rfl) w_110 (fun _ _ => rfl) (by first | assumption | rfl | (simp (disch := omega) only [q_upT_self, q_upT_ne, q_upR_self, q_upR_nea, q_upR_nk, s_T_lo, s_T_hi, s_R_ne, *]; done) | (simp (disch := omega) only [q_upT_self, q_upT_ne, q_upR_self, q_upR_nea, q_upR_nk, s_T_lo, s_T_hi, s_R_ne, *]; rfl)) (by first | assumption | rfl | (simp (disch := omega) only [q_upT_self, q_upT_ne, q_upR_self, q_upR_nea, q_upR_nk, s_T_lo, s_T_hi, s_R_ne, *]; done) | (simp (disch := omega) only [q_upT_self, q_upT_ne, q_upR_self, q_upR_nea, q_upR_nk, s_T_lo, s_T_hi, s_R_ne, *]; rfl)) ?_
  refine q_iload_n d_Lens_end_51 rfl rfl ?_
  refine q_aaldR (kd := _) d_Lens_end_52 rfl (Nat.le_of_ble_eq_true rfl) (Nat.le_of_ble_eq_true rfl) (by first | assumption | rfl | (simp (disch := omega) only [q_upT_self, q_upT_ne, q_upR_self, q_upR_nea, q_upR_nk, s_T_lo, s_T_hi, s_R_ne, *]; done) | (simp (disch := omega) only [q_upT_self, q_upT_ne, q_upR_self, q_upR_nea, q_upR_nk, s_T_lo, s_T_hi, s_R_ne, *]; rfl)) (by first | assumption | exact vp_in_nI (by omega) (by omega)) (by first | assumption | rfl | (simp (disch := omega) only [q_upT_self, q_upT_ne, q_upR_self, q_upR_nea, q_upR_nk, s_T_lo, s_T_hi, s_R_ne, *]; done) | (simp (disch := omega) only [q_upT_self, q_upT_ne, q_upR_self, q_upR_nea, q_upR_nk, s_T_lo, s_T_hi, s_R_ne, *]; rfl)) ?_
  refine q_aload_n d_Lens_end_53 rfl rfl ?_
  refine q_getR (ci := 10) (fk := 1) d_Lens_end_54 rfl (Nat.le_of_ble_eq_true rfl) w_273 (fun _ _ => rfl) hL.1 (hL.2 1 _ _ _ rfl).1 ?_
  refine q_getR (ci := 2) (fk := 0) d_Lens_end_57 rfl (Nat.le_of_ble_eq_true rfl) w_145 (fun _ _ => rfl) (by first | assumption | rfl | (simp (disch := omega) only [q_upT_self, q_upT_ne, q_upR_self, q_upR_nea, q_upR_nk, s_T_lo, s_T_hi, s_R_ne, *]; done) | (simp (disch := omega) only [q_upT_self, q_upT_ne, q_upR_self, q_upR_nea, q_upR_nk, s_T_lo, s_T_hi, s_R_ne, *]; rfl)) (by first | assumption | rfl | (simp (disch := omega) only [q_upT_self, q_upT_ne, q_upR_self, q_upR_nea, q_upR_nk, s_T_lo, s_T_hi, s_R_ne, *]; done) | (simp (disch := omega) only [q_upT_self, q_upT_ne, q_upR_self, q_upR_nea, q_upR_nk, s_T_lo, s_T_hi, s_R_ne, *]; rfl)) ?_
  refine q_callVi (M2 := M_Schema_isLike) d_Lens_end_60 ⟨(Nat.le_of_ble_eq_true rfl), (Nat.le_of_ble_eq_true rfl), w_611, w_3, ⟨by decide, by decide⟩, show _ = some 1 by decide +kernel⟩ w_608 w_609 (ci := 6) rfl w_610 (by first | assumption | rfl | (simp (disch := omega) only [q_upT_self, q_upT_ne, q_upR_self, q_upR_nea, q_upR_nk, s_T_lo, s_T_hi, s_R_ne, *]; done) | (simp (disch := omega) only [q_upT_self, q_upT_ne, q_upR_self, q_upR_nea, q_upR_nk, s_T_lo, s_T_hi, s_R_ne, *]; rfl)) rfl (Nat.le_of_ble_eq_true rfl) (by omega) (by omega) (c_Schema_isLike a4 d2 hwf.1.2.1 e1.2.1) ?_
  rintro _ _ ⟨rfl, rfl⟩
  rw [decide_eq_false hlk]
  refine q_if_ne (tgt := 74) d_Lens_end_63 rfl (fun hc => ?_) (fun hc => ?_)
  · exact absurd rfl hc
  · refine q_throw (x := 1) d_Lens_end_66 d_Lens_end_69 d_Lens_end_70 d_Lens_end_73 (by decide +kernel) x_nmf (Nat.le_of_ble_eq_true rfl) (Nat.le_of_ble_eq_true rfl) (Nat.le_of_ble_eq_true rfl) w_396 w_16 x_at1 rfl (Nat.le_of_ble_eq_true rfl) (by omega) (by omega) ?_
    exact c_xi_no hC rfl
/-- the way to where the room is asked -/
theorem c_Lens_end_pre (hw : wf S) (hC : relC S x sz T I R) (ho : S.op = true) {to : Int32} (hto : to = -1 ∨ ∃ v Lv, to = nI v ∧ S.vs[v]? = some Lv ∧ v ≠ S.df ∧ Lv.map k_st = S.dD.map k_st) {Q : q_O → q_H → Prop} (kk : ∀ mcc msc : Nat, mcc ≤ 1 → msc ≤ 6 → q_V g M_Lens_end 1000 14000 mcc msc (sz, T, I, R, J) Q 74 [some (.ref x), some (.int to), none] []) : q_C g M_Lens_end [.ref x, .int to] (sz, T, I, R, J) 1000 14000 Q := by
  have hL := hC.1.1
  have hD1 := hC.1.2.2.1.1
  have hD2 := (hC.1.2.2.1.2 0 _ _ _ rfl).1
  have hV1 := hC.1.2.1.1
  have hV2 := (hC.1.2.1.2 0 _ _ _ rfl).1
  have hV3 := (hC.1.2.1.2 0 _ _ _ rfl).2
  have hv8 := hw.1.2.1
  obtain ⟨e1, e2, e3⟩ := hw.draft ho
  obtain ⟨d1, D, wd, d2, d3⟩ := hC.2.2.2.1
  obtain ⟨rfl, f2, f3, f4, f5, f6⟩ := d3 ho
  have hdl := (hw.2.2.1 ho).1
  refine q_C.of (ls0 := [some (.ref x), some (.int to), none]) (by decide) rfl (by decide) (Nat.le_of_ble_eq_true rfl) rfl ?_
  refine q_aload_n d_Lens_end_0 rfl rfl ?_
  refine q_getR (ci := 10) (fk := 1) d_Lens_end_1 rfl (Nat.le_of_ble_eq_true rfl) w_273 (fun _ _ => rfl) hL.1 (hL.2 1 _ _ _ rfl).1 ?_
  refine q_getI (ci := 2) (fk := 5) d_Lens_end_4 rfl (Nat.le_of_ble_eq_true rfl) w_157 (fun _ _ => rfl) (by first | assumption | rfl | (simp (disch := omega) only [q_upT_self, q_upT_ne, q_upR_self, q_upR_nea, q_upR_nk, s_T_lo, s_T_hi, s_R_ne, *]; done) | (simp (disch := omega) only [q_upT_self, q_upT_ne, q_upR_self, q_upR_nea, q_upR_nk, s_T_lo, s_T_hi, s_R_ne, *]; rfl)) ?_
  rw [d1, ho]
  refine q_if_ne (tgt := 18) d_Lens_end_7 rfl (fun hc => ?_) (fun hc => ?_)
  rotate_left
  · exact absurd hc (by decide)
  rcases hto with rfl | ⟨v, Lv, rfl, hv, hne, hlk⟩
  · refine q_iload_n d_Lens_end_18 rfl rfl ?_
    refine q_iconst (v := (-1)) d_Lens_end_19 (by decide) ?_
    refine q_icmp_eq (tgt := 28) d_Lens_end_20 rfl (fun hc => ?_) (fun hc => ?_)
    rotate_left
    · exact absurd rfl hc
    refine q_iload_n d_Lens_end_28 rfl rfl ?_
    refine q_iconst (v := (-1)) d_Lens_end_29 (by decide) ?_
    refine q_icmp_eq (tgt := 74) d_Lens_end_30 rfl (fun hc => ?_) (fun hc => ?_)
    rotate_left
    · exact absurd rfl hc
    exact kk _ _ (by omega) (by omega)
  · have hvl := (List.getElem?_eq_some_iff.mp hv).1
    have hwf := hw.1.2.2 Lv (List.mem_of_getElem? hv)
    obtain ⟨s, w, a1, a2, a3, a4⟩ := hC.verAt hv
    have hs1 := a4.1.1.1
    refine q_iload_n d_Lens_end_18 rfl rfl ?_
    refine q_iconst (v := (-1)) d_Lens_end_19 (by decide) ?_
    refine q_icmp_eq (tgt := 28) d_Lens_end_20 rfl (fun hc => ?_) (fun hc => ?_)
    · exact absurd hc (nI_m1 (by omega))
    refine q_aload_n d_Lens_end_23 rfl rfl ?_
    refine q_iload_n d_Lens_end_24 rfl rfl ?_
    refine q_callVv (M2 := M_Lens_needVersion) d_Lens_end_25 ⟨(Nat.le_of_ble_eq_true rfl), (Nat.le_of_ble_eq_true rfl), w_430, w_1, ⟨by decide, by decide⟩, show _ = some 1 by decide +kernel⟩ w_427 w_429 (ci := 10) rfl s_3 hL.1 rfl (Nat.le_of_ble_eq_true rfl) (by omega) (by omega) (c_needVersion_ok hC (k_bel_nI (by omega) hvl)) ?_
    rintro _ rfl
    refine q_iload_n d_Lens_end_28 rfl rfl ?_
    refine q_iconst (v := (-1)) d_Lens_end_29 (by decide) ?_
    refine q_icmp_eq (tgt := 74) d_Lens_end_30 rfl (fun hc => ?_) (fun hc => ?_)
    · exact absurd hc (nI_m1 (by omega))
    refine q_iload_n d_Lens_end_33 rfl rfl ?_
    refine q_aload_n d_Lens_end_34 rfl rfl ?_
    refine q_getR (ci := 10) (fk := 1) d_Lens_end_35 rfl (Nat.le_of_ble_eq_true rfl) w_273 (fun _ _ => rfl) hL.1 (hL.2 1 _ _ _ rfl).1 ?_
    refine q_getI (ci := 2) (fk := 3) d_Lens_end_38 rfl (Nat.le_of_ble_eq_true rfl) w_153 (fun _ _ => rfl) (by first | assumption | rfl | (simp (disch := omega) only [q_upT_self, q_upT_ne, q_upR_self, q_upR_nea, q_upR_nk, s_T_lo, s_T_hi, s_R_ne, *]; done) | (simp (disch := omega) only [q_upT_self, q_upT_ne, q_upR_self, q_upR_nea, q_upR_nk, s_T_lo, s_T_hi, s_R_ne, *]; rfl)) ?_
    rw [f3]
    refine q_icmp_eq (tgt := 66) d_Lens_end_41 rfl (fun hc => ?_) (fun hc => ?_)
    · exact absurd ((nI_eq (by omega) (by omega)).mp hc) hne
    refine q_aload_n d_Lens_end_44 rfl rfl ?_
    refine q_getR (ci := 10) (fk := 0) d_Lens_end_45 rfl (Nat.le_of_ble_eq_true rfl) w_272 (fun _ _ => rfl) hL.1 (hL.2 0 _ _ _ rfl).1 ?_
    refine q_getR (ci := 9) (fk := 0) d_Lens_end_48 rfl (Nat.le_of_ble_eq_true rfl) w_110 (fun _ _ => rfl) (by first | assumption | rfl | (simp (disch := omega) only [q_upT_self, q_upT_ne, q_upR_self, q_upR_nea, q_upR_nk, s_T_lo, s_T_hi, s_R_ne, *]; done) | (simp (disch := omega) only [q_upT_self, q_upT_ne, q_upR_self, q_upR_nea, q_upR_nk, s_T_lo, s_T_hi, s_R_ne, *]; rfl)) (by first | assumption | rfl | (simp (disch := omega) only [q_upT_self, q_upT_ne, q_upR_self, q_upR_nea, q_upR_nk, s_T_lo, s_T_hi, s_R_ne, *]; done) | (simp (disch := omega) only [q_upT_self, q_upT_ne, q_upR_self, q_upR_nea, q_upR_nk, s_T_lo, s_T_hi, s_R_ne, *]; rfl)) ?_
    refine q_iload_n d_Lens_end_51 rfl rfl ?_
    refine q_aaldR (kd := _) d_Lens_end_52 rfl (Nat.le_of_ble_eq_true rfl) (Nat.le_of_ble_eq_true rfl) (by first | assumption | rfl | (simp (disch := omega) only [q_upT_self, q_upT_ne, q_upR_self, q_upR_nea, q_upR_nk, s_T_lo, s_T_hi, s_R_ne, *]; done) | (simp (disch := omega) only [q_upT_self, q_upT_ne, q_upR_self, q_upR_nea, q_upR_nk, s_T_lo, s_T_hi, s_R_ne, *]; rfl)) (by first | assumption | exact vp_in_nI (by omega) (by omega)) (by first | assumption | rfl | (simp (disch := omega) only [q_upT_self, q_upT_ne, q_upR_self, q_upR_nea, q_upR_nk, s_T_lo, s_T_hi, s_R_ne, *]; done) | (simp (disch := omega) only [q_upT_self, q_upT_ne, q_upR_self, q_upR_nea, q_upR_nk, s_T_lo, s_T_hi, s_R_ne, *]; rfl)) ?_
    refine q_aload_n d_Lens_end_53 rfl rfl ?_
    refine q_getR (ci := 10) (fk := 1) d_Lens_end_54 rfl (Nat.le_of_ble_eq_true rfl) w_273 (fun _ _ => rfl) hL.1 (hL.2 1 _ _ _ rfl).1 ?_
    refine q_getR (ci := 2) (fk := 0) d_Lens_end_57 rfl (Nat.le_of_ble_eq_true rfl) w_145 (fun _ _ => rfl) (by first | assumption | rfl | (simp (disch := omega) only [q_upT_self, q_upT_ne, q_upR_self, q_upR_nea, q_upR_nk, s_T_lo, s_T_hi, s_R_ne, *]; done) | (simp (disch := omega) only [q_upT_self, q_upT_ne, q_upR_self, q_upR_nea, q_upR_nk, s_T_lo, s_T_hi, s_R_ne, *]; rfl)) (by first | assumption | rfl | (simp (disch := omega) only [q_upT_self, q_upT_ne, q_upR_self, q_upR_nea, q_upR_nk, s_T_lo, s_T_hi, s_R_ne, *]; done) | (simp (disch := omega) only [q_upT_self, q_upT_ne, q_upR_self, q_upR_nea, q_upR_nk, s_T_lo, s_T_hi, s_R_ne, *]; rfl)) ?_
    refine q_callVi (M2 := M_Schema_isLike) d_Lens_end_60 ⟨(Nat.le_of_ble_eq_true rfl), (Nat.le_of_ble_eq_true rfl), w_611, w_3, ⟨by decide, by decide⟩, show _ = some 1 by decide +kernel⟩ w_608 w_609 (ci := 6) rfl w_610 (by first | assumption | rfl | (simp (disch := omega) only [q_upT_self, q_upT_ne, q_upR_self, q_upR_nea, q_upR_nk, s_T_lo, s_T_hi, s_R_ne, *]; done) | (simp (disch := omega) only [q_upT_self, q_upT_ne, q_upR_self, q_upR_nea, q_upR_nk, s_T_lo, s_T_hi, s_R_ne, *]; rfl)) rfl (Nat.le_of_ble_eq_true rfl) (by omega) (by omega) (c_Schema_isLike a4 d2 hwf.1.2.1 e1.2.1) ?_
    rintro _ _ ⟨rfl, rfl⟩
    rw [decide_eq_true hlk]
    refine q_if_ne (tgt := 74) d_Lens_end_63 rfl (fun hc => ?_) (fun hc => ?_)
    · exact kk _ _ (by omega) (by omega)
    · exact absurd hc (by decide)
theorem c_Lens_end_no4 (hw : wf S) (hC : relC S x sz T I R) (ho : S.op = true) {to : Int32} (hto : to = -1 ∨ ∃ v Lv, to = nI v ∧ S.vs[v]? = some Lv ∧ v ≠ S.df ∧ Lv.map k_st = S.dD.map k_st) (hf : (to = -1 ∧ S.vs.length = 8) ∨ S.ss.length = 16) : q_C g M_Lens_end [.ref x, .int to] (sz, T, I, R, J) 1000 14000 (q_Xi [0, 2, 1, 3] (c_sp x sz T I R J (nI 4, 0, S))) := by
  have hL := hC.1.1
  have hV1 := hC.1.2.1.1
  refine c_Lens_end_pre hw hC ho hto fun mcc msc m1 m2 => ?_
  have fin : q_V g M_Lens_end 1000 14000 mcc msc (sz, T, I, R, J) (q_Xi [0, 2, 1, 3] (c_sp x sz T I R J (nI 4, 0, S))) 103 [some (.ref x), some (.int to), none] [] := by
    refine q_throw (x := 3) d_Lens_end_103 d_Lens_end_106 d_Lens_end_107 d_Lens_end_110 (by decide +kernel) x_nmf (Nat.le_of_ble_eq_true rfl) (Nat.le_of_ble_eq_true rfl) (Nat.le_of_ble_eq_true rfl) w_612 w_20 x_at3 rfl (Nat.le_of_ble_eq_true rfl) (by omega) (by omega) ?_
    exact c_xi_no hC rfl
  have h16 : ¬ (to = -1 ∧ S.vs.length = 8) → q_V g M_Lens_end 1000 14000 mcc msc (sz, T, I, R, J) (q_Xi [0, 2, 1, 3] (c_sp x sz T I R J (nI 4, 0, S))) 91 [some (.ref x), some (.int to), none] [] := fun hh => by
    have h16 : S.ss.length = 16 := by
      rcases hf with z | z
      · exact absurd z hh
      · exact z
    refine q_aload_n d_Lens_end_91 rfl rfl ?_
    refine q_getR (ci := 10) (fk := 0) d_Lens_end_92 rfl (Nat.le_of_ble_eq_true rfl) w_272 (fun _ _ => rfl) hL.1 (hL.2 0 _ _ _ rfl).1 ?_
    refine q_getI (ci := 9) (fk := 3) d_Lens_end_95 rfl (Nat.le_of_ble_eq_true rfl) w_116 (fun _ _ => rfl) (by first | assumption | rfl | (simp (disch := omega) only [q_upT_self, q_upT_ne, q_upR_self, q_upR_nea, q_upR_nk, s_T_lo, s_T_hi, s_R_ne, *]; done) | (simp (disch := omega) only [q_upT_self, q_upT_ne, q_upR_self, q_upR_nea, q_upR_nk, s_T_lo, s_T_hi, s_R_ne, *]; rfl)) ?_
    rw [hC.2.2.1.1, h16]
    refine q_bipush (v := nI 16) d_Lens_end_98 (by decide) ?_
    refine q_icmp_ne (tgt := 111) d_Lens_end_100 rfl (fun hc => ?_) (fun hc => ?_)
    · exact absurd rfl hc
    · exact fin
  refine q_iload_n d_Lens_end_74 rfl rfl ?_
  refine q_iconst (v := (-1)) d_Lens_end_75 (by decide) ?_
  refine q_icmp_ne (tgt := 91) d_Lens_end_76 rfl (fun hc => ?_) (fun hc => ?_)
  · exact h16 (fun z => hc z.1)
  have hm : to = -1 := by have := hc; exact this
  refine q_aload_n d_Lens_end_79 rfl rfl ?_
  refine q_getR (ci := 10) (fk := 0) d_Lens_end_80 rfl (Nat.le_of_ble_eq_true rfl) w_272 (fun _ _ => rfl) hL.1 (hL.2 0 _ _ _ rfl).1 ?_
  refine q_getI (ci := 9) (fk := 1) d_Lens_end_83 rfl (Nat.le_of_ble_eq_true rfl) w_112 (fun _ _ => rfl) (by first | assumption | rfl | (simp (disch := omega) only [q_upT_self, q_upT_ne, q_upR_self, q_upR_nea, q_upR_nk, s_T_lo, s_T_hi, s_R_ne, *]; done) | (simp (disch := omega) only [q_upT_self, q_upT_ne, q_upR_self, q_upR_nea, q_upR_nk, s_T_lo, s_T_hi, s_R_ne, *]; rfl)) ?_
  rw [hC.2.1.1]
  refine q_bipush (v := nI 8) d_Lens_end_86 (by decide) ?_
  refine q_icmp_eq (tgt := 103) d_Lens_end_88 rfl (fun hc => ?_) (fun hc => ?_)
  · exact fin
  · exact h16 (fun z => hc (by rw [z.2]))
theorem relC.draftAt (hC : relC S x sz T I R) (ho : S.op = true) : ∃ w, k_sc (x + 33) S.dD w T I R := by
  obtain ⟨d1, D, wd, d2, d3⟩ := hC.2.2.2.1
  obtain ⟨rfl, -⟩ := d3 ho
  exact ⟨wd, d2⟩
/-- the state when a step has ended -/
def KA.endS (S : KA) (to n : Nat) : KA := (S.addS (S.df, to, S.dp, n, S.dD.map (·.2.2.2.2))).leave
def KA.endV (S : KA) (n : Nat) : KA := (S.addV (k_rs 0 S.dD)).endS S.vs.length n
theorem c_Lens_end (hw : wf S) (hC : relC S x sz T I R) (ho : S.op = true) {to : Int32} (hto : to = -1 ∨ ∃ v Lv, to = nI v ∧ S.vs[v]? = some Lv ∧ v ≠ S.df ∧ Lv.map k_st = S.dD.map k_st) (hf : ¬ (to = -1 ∧ S.vs.length = 8)) (hf2 : S.ss.length ≠ 16) {L : List KF} (hv : S.vs[S.df]? = some L) : q_C g M_Lens_end [.ref x, .int to] (sz, T, I, R, J) 1000 14000 (q_Xi [0, 2, 1, 3] (c_sp x sz T I R J (if to = -1 then (0, nI S.vs.length, S.endV L.length) else (0, to, S.endS to.toNatClampNeg L.length)))) := by
  have hL := hC.1.1
  have hV1 := hC.1.2.1.1
  have hD1 := hC.1.2.2.1.1
  have hD2 := (hC.1.2.2.1.2 0 _ _ _ rfl).1
  have hw8 := hw.1.2.1
  have hw16 := hw.2.1.1
  obtain ⟨w1, w2, -⟩ := hw.2.2.1 ho
  refine c_Lens_end_pre hw hC ho hto fun mcc msc m1 m2 => ?_
  have fin : ∀ (S2 : KA) (t mcc msc sz1 : Nat) (T1 : q_T) (I1 : q_I) (R1 : q_R) (l2 : Option Value), mcc ≤ 27 → msc ≤ 166 → c_fr x sz T I R sz1 T1 I1 R1 → relC S2 x sz1 T1 I1 R1 → S2.op = true → S2.ss.length < 16 → S2.dp.length ≤ 8 → S2.vs[S2.df]? = some L → q_V g M_Lens_end 1000 14000 mcc msc (sz1, T1, I1, R1, J) (q_Xi [0, 2, 1, 3] (c_sp x sz T I R J (0, nI t, S2.endS t L.length))) 134 [some (.ref x), some (.int to), l2] [.int (nI t)] := by
    intro S2 t mcc msc sz1 T1 I1 R1 l2 m1 m2 c1 c2 c3 c4 c5 c6
    have hL := c2.1.1
    have hV1 := c2.1.2.1.1
    refine q_istore_n d_Lens_end_134 rfl (Nat.le_of_ble_eq_true rfl) (by first | exact q_ok0 | exact q_okI rfl | exact q_okR rfl | exact q_okN rfl) rfl ?_
    refine q_aload_n d_Lens_end_135 rfl rfl ?_
    refine q_getR (ci := 10) (fk := 0) d_Lens_end_136 rfl (Nat.le_of_ble_eq_true rfl) w_272 (fun _ _ => rfl) hL.1 (hL.2 0 _ _ _ rfl).1 ?_
    refine q_aload_n d_Lens_end_139 rfl rfl ?_
    refine q_getR (ci := 10) (fk := 1) d_Lens_end_140 rfl (Nat.le_of_ble_eq_true rfl) w_273 (fun _ _ => rfl) hL.1 (hL.2 1 _ _ _ rfl).1 ?_
    refine q_iload_n d_Lens_end_143 rfl rfl ?_
    refine q_callVv (M2 := M_Versions_addStep) d_Lens_end_144 ⟨(Nat.le_of_ble_eq_true rfl), (Nat.le_of_ble_eq_true rfl), w_635, w_2, ⟨by decide, by decide⟩, show _ = some 2 by decide +kernel⟩ w_632 w_633 (ci := 9) rfl w_634 (by first | assumption | rfl | (simp (disch := omega) only [q_upT_self, q_upT_ne, q_upR_self, q_upR_nea, q_upR_nk, s_T_lo, s_T_hi, s_R_ne, *]; done) | (simp (disch := omega) only [q_upT_self, q_upT_ne, q_upR_self, q_upR_nea, q_upR_nk, s_T_lo, s_T_hi, s_R_ne, *]; rfl)) rfl (Nat.le_of_ble_eq_true rfl) (by omega) (by omega) (c_Versions_addStep c2 c3 c4 c5 c6) ?_
    rintro _ ⟨sz2, T2, I2, R2, rfl, b1, b2⟩
    have hL := b2.1.1
    have hD1 := b2.1.2.2.1.1
    obtain ⟨z1, z2⟩ := b2.leave
    refine q_aload_n d_Lens_end_147 rfl rfl ?_
    refine q_getR (ci := 10) (fk := 1) d_Lens_end_148 rfl (Nat.le_of_ble_eq_true rfl) w_273 (fun _ _ => rfl) hL.1 (hL.2 1 _ _ _ rfl).1 ?_
    refine q_iconst (v := nI 0) d_Lens_end_151 (by decide) ?_
    refine q_putI (ci := 2) (fk := 5) d_Lens_end_152 rfl (Nat.le_of_ble_eq_true rfl) w_157 (Or.inl rfl) (fun _ _ => rfl) (by first | rfl | decide | assumption) (by first | rfl | decide | assumption) (by first | assumption | rfl | (simp (disch := omega) only [q_upT_self, q_upT_ne, q_upR_self, q_upR_nea, q_upR_nk, s_T_lo, s_T_hi, s_R_ne, *]; done) | (simp (disch := omega) only [q_upT_self, q_upT_ne, q_upR_self, q_upR_nea, q_upR_nk, s_T_lo, s_T_hi, s_R_ne, *]; rfl)) ?_
    refine q_iload_n d_Lens_end_155 rfl rfl ?_
    refine q_iret d_Lens_end_156 rfl (by omega) (by omega) ?_
    exact Or.inl ⟨_, rfl, rfl, fun _ => rfl, _, _, _, _, rfl, c1.trans (b1.trans z2), z1⟩
  have go : q_V g M_Lens_end 1000 14000 mcc msc (sz, T, I, R, J) (q_Xi [0, 2, 1, 3] (c_sp x sz T I R J (if to = -1 then (0, nI S.vs.length, S.endV L.length) else (0, to, S.endS to.toNatClampNeg L.length)))) 111 [some (.ref x), some (.int to), none] [] := by
    rcases hto with rfl | ⟨v, Lv, rfl, hv2, hne, hlk⟩
    · rw [if_pos rfl]
      obtain ⟨wd, d2⟩ := hC.draftAt ho
      have hf8 : S.vs.length ≠ 8 := fun z => hf ⟨rfl, z⟩
      refine q_iload_n d_Lens_end_111 rfl rfl ?_
      refine q_iconst (v := (-1)) d_Lens_end_112 (by decide) ?_
      refine q_icmp_ne (tgt := 133) d_Lens_end_113 rfl (fun hc => ?_) (fun hc => ?_)
      · exact absurd rfl hc
      refine q_aload_n d_Lens_end_116 rfl rfl ?_
      refine q_getR (ci := 10) (fk := 0) d_Lens_end_117 rfl (Nat.le_of_ble_eq_true rfl) w_272 (fun _ _ => rfl) hL.1 (hL.2 0 _ _ _ rfl).1 ?_
      refine q_aload_n d_Lens_end_120 rfl rfl ?_
      refine q_getR (ci := 10) (fk := 1) d_Lens_end_121 rfl (Nat.le_of_ble_eq_true rfl) w_273 (fun _ _ => rfl) hL.1 (hL.2 1 _ _ _ rfl).1 ?_
      refine q_getR (ci := 2) (fk := 0) d_Lens_end_124 rfl (Nat.le_of_ble_eq_true rfl) w_145 (fun _ _ => rfl) (by first | assumption | rfl | (simp (disch := omega) only [q_upT_self, q_upT_ne, q_upR_self, q_upR_nea, q_upR_nk, s_T_lo, s_T_hi, s_R_ne, *]; done) | (simp (disch := omega) only [q_upT_self, q_upT_ne, q_upR_self, q_upR_nea, q_upR_nk, s_T_lo, s_T_hi, s_R_ne, *]; rfl)) (by first | assumption | rfl | (simp (disch := omega) only [q_upT_self, q_upT_ne, q_upR_self, q_upR_nea, q_upR_nk, s_T_lo, s_T_hi, s_R_ne, *]; done) | (simp (disch := omega) only [q_upT_self, q_upT_ne, q_upR_self, q_upR_nea, q_upR_nk, s_T_lo, s_T_hi, s_R_ne, *]; rfl)) ?_
      refine q_callVi (M2 := M_Versions_addVersion) d_Lens_end_127 ⟨(Nat.le_of_ble_eq_true rfl), (Nat.le_of_ble_eq_true rfl), w_630, w_2, ⟨by decide, by decide⟩, show _ = some 1 by decide +kernel⟩ w_627 w_628 (ci := 9) rfl w_629 (by first | assumption | rfl | (simp (disch := omega) only [q_upT_self, q_upT_ne, q_upR_self, q_upR_nea, q_upR_nk, s_T_lo, s_T_hi, s_R_ne, *]; done) | (simp (disch := omega) only [q_upT_self, q_upT_ne, q_upR_self, q_upR_nea, q_upR_nk, s_T_lo, s_T_hi, s_R_ne, *]; rfl)) rfl (Nat.le_of_ble_eq_true rfl) (by omega) (by omega) (c_Versions_addVersion hC (by omega) (fun _ => w1) d2) ?_
      rintro _ _ ⟨rfl, sz1, T1, I1, R1, rfl, b1, b2⟩
      refine q_goto (tgt := 134) d_Lens_end_130 rfl ?_
      exact fin (S.addV (k_rs 0 S.dD)) _ _ _ _ _ _ _ _ (by omega) (by omega) b1 b2 ho (show S.ss.length < 16 by omega) w2 (by
        show (S.vs ++ [k_rs 0 S.dD])[S.df]? = some L
        rw [List.getElem?_append_left w1]; exact hv)
    · have hvl := (List.getElem?_eq_some_iff.mp hv2).1
      rw [if_neg (nI_m1 (by omega)), nI_clamp (by omega)]
      refine q_iload_n d_Lens_end_111 rfl rfl ?_
      refine q_iconst (v := (-1)) d_Lens_end_112 (by decide) ?_
      refine q_icmp_ne (tgt := 133) d_Lens_end_113 rfl (fun hc => ?_) (fun hc => ?_)
      rotate_left
      · exact absurd hc (nI_m1 (by omega))
      refine q_iload_n d_Lens_end_133 rfl rfl ?_
      exact fin S v _ _ _ _ _ _ _ (by omega) (by omega) (c_fr.refl x sz T I R) hC ho (by omega) w2 hv
  have h16 : q_V g M_Lens_end 1000 14000 mcc msc (sz, T, I, R, J) (q_Xi [0, 2, 1, 3] (c_sp x sz T I R J (if to = -1 then (0, nI S.vs.length, S.endV L.length) else (0, to, S.endS to.toNatClampNeg L.length)))) 91 [some (.ref x), some (.int to), none] [] := by
    refine q_aload_n d_Lens_end_91 rfl rfl ?_
    refine q_getR (ci := 10) (fk := 0) d_Lens_end_92 rfl (Nat.le_of_ble_eq_true rfl) w_272 (fun _ _ => rfl) hL.1 (hL.2 0 _ _ _ rfl).1 ?_
    refine q_getI (ci := 9) (fk := 3) d_Lens_end_95 rfl (Nat.le_of_ble_eq_true rfl) w_116 (fun _ _ => rfl) (by first | assumption | rfl | (simp (disch := omega) only [q_upT_self, q_upT_ne, q_upR_self, q_upR_nea, q_upR_nk, s_T_lo, s_T_hi, s_R_ne, *]; done) | (simp (disch := omega) only [q_upT_self, q_upT_ne, q_upR_self, q_upR_nea, q_upR_nk, s_T_lo, s_T_hi, s_R_ne, *]; rfl)) ?_
    rw [hC.2.2.1.1]
    refine q_bipush (v := nI 16) d_Lens_end_98 (by decide) ?_
    refine q_icmp_ne (tgt := 111) d_Lens_end_100 rfl (fun hc => ?_) (fun hc => ?_)
    · exact go
    · exact absurd ((nI_eq (by omega) (by omega)).mp (show nI S.ss.length = nI 16 by have := hc; simpa using this)) hf2
  refine q_iload_n d_Lens_end_74 rfl rfl ?_
  refine q_iconst (v := (-1)) d_Lens_end_75 (by decide) ?_
  refine q_icmp_ne (tgt := 91) d_Lens_end_76 rfl (fun hc => ?_) (fun hc => ?_)
  · exact h16
  have hm : to = -1 := by have := hc; simpa using this
  refine q_aload_n d_Lens_end_79 rfl rfl ?_
  refine q_getR (ci := 10) (fk := 0) d_Lens_end_80 rfl (Nat.le_of_ble_eq_true rfl) w_272 (fun _ _ => rfl) hL.1 (hL.2 0 _ _ _ rfl).1 ?_
  refine q_getI (ci := 9) (fk := 1) d_Lens_end_83 rfl (Nat.le_of_ble_eq_true rfl) w_112 (fun _ _ => rfl) (by first | assumption | rfl | (simp (disch := omega) only [q_upT_self, q_upT_ne, q_upR_self, q_upR_nea, q_upR_nk, s_T_lo, s_T_hi, s_R_ne, *]; done) | (simp (disch := omega) only [q_upT_self, q_upT_ne, q_upR_self, q_upR_nea, q_upR_nk, s_T_lo, s_T_hi, s_R_ne, *]; rfl)) ?_
  rw [hC.2.1.1]
  refine q_bipush (v := nI 8) d_Lens_end_86 (by decide) ?_
  refine q_icmp_eq (tgt := 103) d_Lens_end_88 rfl (fun hc => ?_) (fun hc => ?_)
  · exact absurd ⟨hm, (nI_eq (by omega) (by omega)).mp hc⟩ hf
  · exact h16
end EndC
