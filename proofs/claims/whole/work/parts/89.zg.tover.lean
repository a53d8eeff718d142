/-! clash: a step on the class's terms -/
abbrev M_Terms_start : q_M := (⟨"LensPaths$Terms", "start", "([ILLensPaths$Schema;)V"⟩, prog_11_method_3_code, 5, none, "LensPaths$Terms", [], false, 2, 50)
theorem d_Terms_start_0 : decode prog_11_method_3_code 0 = .ok (.iconst 0, 1) := by decide +kernel
theorem d_Terms_start_1 : decode prog_11_method_3_code 1 = .ok (.istore_n 3, 1) := by decide +kernel
theorem d_Terms_start_2 : decode prog_11_method_3_code 2 = .ok (.iconst 0, 1) := by decide +kernel
theorem d_Terms_start_3 : decode prog_11_method_3_code 3 = .ok (.istore 4, 2) := by decide +kernel
theorem d_Terms_start_5 : decode prog_11_method_3_code 5 = .ok (.iload 4, 2) := by decide +kernel
theorem d_Terms_start_7 : decode prog_11_method_3_code 7 = .ok (.aload_n 2, 1) := by decide +kernel
theorem d_Terms_start_8 : decode prog_11_method_3_code 8 = .ok (.getfield 46, 3) := by decide +kernel
theorem d_Terms_start_11 : decode prog_11_method_3_code 11 = .ok (.if_icmp .ge 44, 3) := by decide +kernel
theorem d_Terms_start_14 : decode prog_11_method_3_code 14 = .ok (.aload_n 2, 1) := by decide +kernel
theorem d_Terms_start_15 : decode prog_11_method_3_code 15 = .ok (.getfield 51, 3) := by decide +kernel
theorem d_Terms_start_18 : decode prog_11_method_3_code 18 = .ok (.iload 4, 2) := by decide +kernel
theorem d_Terms_start_20 : decode prog_11_method_3_code 20 = .ok (.aaload, 1) := by decide +kernel
theorem d_Terms_start_21 : decode prog_11_method_3_code 21 = .ok (.getfield 55, 3) := by decide +kernel
theorem d_Terms_start_24 : decode prog_11_method_3_code 24 = .ok (.iconst 2, 1) := by decide +kernel
theorem d_Terms_start_25 : decode prog_11_method_3_code 25 = .ok (.if_icmp .ne 11, 3) := by decide +kernel
theorem d_Terms_start_28 : decode prog_11_method_3_code 28 = .ok (.aload_n 1, 1) := by decide +kernel
theorem d_Terms_start_29 : decode prog_11_method_3_code 29 = .ok (.iload 4, 2) := by decide +kernel
theorem d_Terms_start_31 : decode prog_11_method_3_code 31 = .ok (.iconst (-1), 1) := by decide +kernel
theorem d_Terms_start_32 : decode prog_11_method_3_code 32 = .ok (.iastore, 1) := by decide +kernel
theorem d_Terms_start_33 : decode prog_11_method_3_code 33 = .ok (.goto 16, 3) := by decide +kernel
theorem d_Terms_start_36 : decode prog_11_method_3_code 36 = .ok (.aload_n 1, 1) := by decide +kernel
theorem d_Terms_start_37 : decode prog_11_method_3_code 37 = .ok (.iload 4, 2) := by decide +kernel
theorem d_Terms_start_39 : decode prog_11_method_3_code 39 = .ok (.aload_n 0, 1) := by decide +kernel
theorem d_Terms_start_40 : decode prog_11_method_3_code 40 = .ok (.iconst 0, 1) := by decide +kernel
theorem d_Terms_start_41 : decode prog_11_method_3_code 41 = .ok (.iload_n 3, 1) := by decide +kernel
theorem d_Terms_start_42 : decode prog_11_method_3_code 42 = .ok (.invokevirtual 60, 3) := by decide +kernel
theorem d_Terms_start_45 : decode prog_11_method_3_code 45 = .ok (.iastore, 1) := by decide +kernel
theorem d_Terms_start_46 : decode prog_11_method_3_code 46 = .ok (.iinc 3 1, 3) := by decide +kernel
theorem d_Terms_start_49 : decode prog_11_method_3_code 49 = .ok (.iinc 4 1, 3) := by decide +kernel
theorem d_Terms_start_52 : decode prog_11_method_3_code 52 = .ok (.goto (-47), 3) := by decide +kernel
theorem d_Terms_start_55 : decode prog_11_method_3_code 55 = .ok (.return_, 1) := by decide +kernel
abbrev M_Terms_differ : q_M := (⟨"LensPaths$Terms", "differ", "(I)Z"⟩, prog_11_method_4_code, 3, (some .boolean), "LensPaths$Terms", [], false, 0, 0)
theorem d_Terms_differ_0 : decode prog_11_method_4_code 0 = .ok (.iconst 0, 1) := by decide +kernel
theorem d_Terms_differ_1 : decode prog_11_method_4_code 1 = .ok (.istore_n 2, 1) := by decide +kernel
theorem d_Terms_differ_2 : decode prog_11_method_4_code 2 = .ok (.iload_n 2, 1) := by decide +kernel
theorem d_Terms_differ_3 : decode prog_11_method_4_code 3 = .ok (.iload_n 1, 1) := by decide +kernel
theorem d_Terms_differ_4 : decode prog_11_method_4_code 4 = .ok (.if_icmp .ge 26, 3) := by decide +kernel
theorem d_Terms_differ_7 : decode prog_11_method_4_code 7 = .ok (.aload_n 0, 1) := by decide +kernel
theorem d_Terms_differ_8 : decode prog_11_method_4_code 8 = .ok (.getfield 9, 3) := by decide +kernel
theorem d_Terms_differ_11 : decode prog_11_method_4_code 11 = .ok (.iload_n 2, 1) := by decide +kernel
theorem d_Terms_differ_12 : decode prog_11_method_4_code 12 = .ok (.iaload, 1) := by decide +kernel
theorem d_Terms_differ_13 : decode prog_11_method_4_code 13 = .ok (.aload_n 0, 1) := by decide +kernel
theorem d_Terms_differ_14 : decode prog_11_method_4_code 14 = .ok (.getfield 15, 3) := by decide +kernel
theorem d_Terms_differ_17 : decode prog_11_method_4_code 17 = .ok (.iload_n 2, 1) := by decide +kernel
theorem d_Terms_differ_18 : decode prog_11_method_4_code 18 = .ok (.iaload, 1) := by decide +kernel
theorem d_Terms_differ_19 : decode prog_11_method_4_code 19 = .ok (.if_icmp .eq 5, 3) := by decide +kernel
theorem d_Terms_differ_22 : decode prog_11_method_4_code 22 = .ok (.iconst 1, 1) := by decide +kernel
theorem d_Terms_differ_23 : decode prog_11_method_4_code 23 = .ok (.ireturn, 1) := by decide +kernel
theorem d_Terms_differ_24 : decode prog_11_method_4_code 24 = .ok (.iinc 2 1, 3) := by decide +kernel
theorem d_Terms_differ_27 : decode prog_11_method_4_code 27 = .ok (.goto (-25), 3) := by decide +kernel
theorem d_Terms_differ_30 : decode prog_11_method_4_code 30 = .ok (.iconst 0, 1) := by decide +kernel
theorem d_Terms_differ_31 : decode prog_11_method_4_code 31 = .ok (.ireturn, 1) := by decide +kernel
abbrev M_Terms_clear : q_M := (⟨"LensPaths$Terms", "clear", "()V"⟩, prog_11_method_2_code, 1, none, "LensPaths$Terms", [], false, 0, 0)
theorem d_Terms_clear_0 : decode prog_11_method_2_code 0 = .ok (.aload_n 0, 1) := by decide +kernel
theorem d_Terms_clear_1 : decode prog_11_method_2_code 1 = .ok (.iconst 0, 1) := by decide +kernel
theorem d_Terms_clear_2 : decode prog_11_method_2_code 2 = .ok (.putfield 42, 3) := by decide +kernel
theorem d_Terms_clear_5 : decode prog_11_method_2_code 5 = .ok (.return_, 1) := by decide +kernel
abbrev M_Terms_takeOver : q_M := (⟨"LensPaths$Terms", "takeOver", "([ILLensPaths$Step;Z)V"⟩, prog_11_method_5_code, 7, none, "LensPaths$Terms", [], false, 4, 96)
theorem d_Terms_takeOver_0 : decode prog_11_method_5_code 0 = .ok (.iload_n 3, 1) := by decide +kernel
theorem d_Terms_takeOver_1 : decode prog_11_method_5_code 1 = .ok (.ifCond .eq 10, 3) := by decide +kernel
theorem d_Terms_takeOver_4 : decode prog_11_method_5_code 4 = .ok (.aload_n 2, 1) := by decide +kernel
theorem d_Terms_takeOver_5 : decode prog_11_method_5_code 5 = .ok (.getfield 64, 3) := by decide +kernel
theorem d_Terms_takeOver_8 : decode prog_11_method_5_code 8 = .ok (.goto 8, 3) := by decide +kernel
theorem d_Terms_takeOver_11 : decode prog_11_method_5_code 11 = .ok (.aload_n 2, 1) := by decide +kernel
theorem d_Terms_takeOver_12 : decode prog_11_method_5_code 12 = .ok (.getfield 69, 3) := by decide +kernel
theorem d_Terms_takeOver_15 : decode prog_11_method_5_code 15 = .ok (.arraylength, 1) := by decide +kernel
theorem d_Terms_takeOver_16 : decode prog_11_method_5_code 16 = .ok (.istore 4, 2) := by decide +kernel
theorem d_Terms_takeOver_18 : decode prog_11_method_5_code 18 = .ok (.iconst 0, 1) := by decide +kernel
theorem d_Terms_takeOver_19 : decode prog_11_method_5_code 19 = .ok (.istore 5, 2) := by decide +kernel
theorem d_Terms_takeOver_21 : decode prog_11_method_5_code 21 = .ok (.iload 5, 2) := by decide +kernel
theorem d_Terms_takeOver_23 : decode prog_11_method_5_code 23 = .ok (.iload 4, 2) := by decide +kernel
theorem d_Terms_takeOver_25 : decode prog_11_method_5_code 25 = .ok (.if_icmp .ge 34, 3) := by decide +kernel
theorem d_Terms_takeOver_28 : decode prog_11_method_5_code 28 = .ok (.aload_n 0, 1) := by decide +kernel
theorem d_Terms_takeOver_29 : decode prog_11_method_5_code 29 = .ok (.getfield 18, 3) := by decide +kernel
theorem d_Terms_takeOver_32 : decode prog_11_method_5_code 32 = .ok (.iload_n 3, 1) := by decide +kernel
theorem d_Terms_takeOver_33 : decode prog_11_method_5_code 33 = .ok (.ifCond .eq 8, 3) := by decide +kernel
theorem d_Terms_takeOver_36 : decode prog_11_method_5_code 36 = .ok (.iload 5, 2) := by decide +kernel
theorem d_Terms_takeOver_38 : decode prog_11_method_5_code 38 = .ok (.goto 10, 3) := by decide +kernel
theorem d_Terms_takeOver_41 : decode prog_11_method_5_code 41 = .ok (.aload_n 2, 1) := by decide +kernel
theorem d_Terms_takeOver_42 : decode prog_11_method_5_code 42 = .ok (.getfield 69, 3) := by decide +kernel
theorem d_Terms_takeOver_45 : decode prog_11_method_5_code 45 = .ok (.iload 5, 2) := by decide +kernel
theorem d_Terms_takeOver_47 : decode prog_11_method_5_code 47 = .ok (.iaload, 1) := by decide +kernel
theorem d_Terms_takeOver_48 : decode prog_11_method_5_code 48 = .ok (.aload_n 1, 1) := by decide +kernel
theorem d_Terms_takeOver_49 : decode prog_11_method_5_code 49 = .ok (.iload 5, 2) := by decide +kernel
theorem d_Terms_takeOver_51 : decode prog_11_method_5_code 51 = .ok (.iaload, 1) := by decide +kernel
theorem d_Terms_takeOver_52 : decode prog_11_method_5_code 52 = .ok (.iastore, 1) := by decide +kernel
theorem d_Terms_takeOver_53 : decode prog_11_method_5_code 53 = .ok (.iinc 5 1, 3) := by decide +kernel
theorem d_Terms_takeOver_56 : decode prog_11_method_5_code 56 = .ok (.goto (-35), 3) := by decide +kernel
theorem d_Terms_takeOver_59 : decode prog_11_method_5_code 59 = .ok (.iconst 0, 1) := by decide +kernel
theorem d_Terms_takeOver_60 : decode prog_11_method_5_code 60 = .ok (.istore 5, 2) := by decide +kernel
theorem d_Terms_takeOver_62 : decode prog_11_method_5_code 62 = .ok (.iload 5, 2) := by decide +kernel
theorem d_Terms_takeOver_64 : decode prog_11_method_5_code 64 = .ok (.aload_n 2, 1) := by decide +kernel
theorem d_Terms_takeOver_65 : decode prog_11_method_5_code 65 = .ok (.getfield 72, 3) := by decide +kernel
theorem d_Terms_takeOver_68 : decode prog_11_method_5_code 68 = .ok (.if_icmp .ge 45, 3) := by decide +kernel
theorem d_Terms_takeOver_71 : decode prog_11_method_5_code 71 = .ok (.iload_n 3, 1) := by decide +kernel
theorem d_Terms_takeOver_72 : decode prog_11_method_5_code 72 = .ok (.ifCond .eq 17, 3) := by decide +kernel
theorem d_Terms_takeOver_75 : decode prog_11_method_5_code 75 = .ok (.aload_n 0, 1) := by decide +kernel
theorem d_Terms_takeOver_76 : decode prog_11_method_5_code 76 = .ok (.aload_n 2, 1) := by decide +kernel
theorem d_Terms_takeOver_77 : decode prog_11_method_5_code 77 = .ok (.getfield 73, 3) := by decide +kernel
theorem d_Terms_takeOver_80 : decode prog_11_method_5_code 80 = .ok (.iload 5, 2) := by decide +kernel
theorem d_Terms_takeOver_82 : decode prog_11_method_5_code 82 = .ok (.aaload, 1) := by decide +kernel
theorem d_Terms_takeOver_83 : decode prog_11_method_5_code 83 = .ok (.invokevirtual 77, 3) := by decide +kernel
theorem d_Terms_takeOver_86 : decode prog_11_method_5_code 86 = .ok (.goto 21, 3) := by decide +kernel
theorem d_Terms_takeOver_89 : decode prog_11_method_5_code 89 = .ok (.aload_n 0, 1) := by decide +kernel
theorem d_Terms_takeOver_90 : decode prog_11_method_5_code 90 = .ok (.aload_n 2, 1) := by decide +kernel
theorem d_Terms_takeOver_91 : decode prog_11_method_5_code 91 = .ok (.getfield 73, 3) := by decide +kernel
theorem d_Terms_takeOver_94 : decode prog_11_method_5_code 94 = .ok (.aload_n 2, 1) := by decide +kernel
theorem d_Terms_takeOver_95 : decode prog_11_method_5_code 95 = .ok (.getfield 72, 3) := by decide +kernel
theorem d_Terms_takeOver_98 : decode prog_11_method_5_code 98 = .ok (.iconst 1, 1) := by decide +kernel
theorem d_Terms_takeOver_99 : decode prog_11_method_5_code 99 = .ok (.isub, 1) := by decide +kernel
theorem d_Terms_takeOver_100 : decode prog_11_method_5_code 100 = .ok (.iload 5, 2) := by decide +kernel
theorem d_Terms_takeOver_102 : decode prog_11_method_5_code 102 = .ok (.isub, 1) := by decide +kernel
theorem d_Terms_takeOver_103 : decode prog_11_method_5_code 103 = .ok (.aaload, 1) := by decide +kernel
theorem d_Terms_takeOver_104 : decode prog_11_method_5_code 104 = .ok (.invokevirtual 81, 3) := by decide +kernel
theorem d_Terms_takeOver_107 : decode prog_11_method_5_code 107 = .ok (.iinc 5 1, 3) := by decide +kernel
theorem d_Terms_takeOver_110 : decode prog_11_method_5_code 110 = .ok (.goto (-48), 3) := by decide +kernel
theorem d_Terms_takeOver_113 : decode prog_11_method_5_code 113 = .ok (.iload_n 3, 1) := by decide +kernel
theorem d_Terms_takeOver_114 : decode prog_11_method_5_code 114 = .ok (.ifCond .eq 11, 3) := by decide +kernel
theorem d_Terms_takeOver_117 : decode prog_11_method_5_code 117 = .ok (.aload_n 2, 1) := by decide +kernel
theorem d_Terms_takeOver_118 : decode prog_11_method_5_code 118 = .ok (.getfield 69, 3) := by decide +kernel
theorem d_Terms_takeOver_121 : decode prog_11_method_5_code 121 = .ok (.arraylength, 1) := by decide +kernel
theorem d_Terms_takeOver_122 : decode prog_11_method_5_code 122 = .ok (.goto 7, 3) := by decide +kernel
theorem d_Terms_takeOver_125 : decode prog_11_method_5_code 125 = .ok (.aload_n 2, 1) := by decide +kernel
theorem d_Terms_takeOver_126 : decode prog_11_method_5_code 126 = .ok (.getfield 64, 3) := by decide +kernel
theorem d_Terms_takeOver_129 : decode prog_11_method_5_code 129 = .ok (.istore 5, 2) := by decide +kernel
theorem d_Terms_takeOver_131 : decode prog_11_method_5_code 131 = .ok (.iconst 0, 1) := by decide +kernel
theorem d_Terms_takeOver_132 : decode prog_11_method_5_code 132 = .ok (.istore 6, 2) := by decide +kernel
theorem d_Terms_takeOver_134 : decode prog_11_method_5_code 134 = .ok (.iload 6, 2) := by decide +kernel
theorem d_Terms_takeOver_136 : decode prog_11_method_5_code 136 = .ok (.iload 5, 2) := by decide +kernel
theorem d_Terms_takeOver_138 : decode prog_11_method_5_code 138 = .ok (.if_icmp .ge 34, 3) := by decide +kernel
theorem d_Terms_takeOver_141 : decode prog_11_method_5_code 141 = .ok (.aload_n 1, 1) := by decide +kernel
theorem d_Terms_takeOver_142 : decode prog_11_method_5_code 142 = .ok (.iload 6, 2) := by decide +kernel
theorem d_Terms_takeOver_144 : decode prog_11_method_5_code 144 = .ok (.aload_n 0, 1) := by decide +kernel
theorem d_Terms_takeOver_145 : decode prog_11_method_5_code 145 = .ok (.getfield 18, 3) := by decide +kernel
theorem d_Terms_takeOver_148 : decode prog_11_method_5_code 148 = .ok (.iload_n 3, 1) := by decide +kernel
theorem d_Terms_takeOver_149 : decode prog_11_method_5_code 149 = .ok (.ifCond .eq 13, 3) := by decide +kernel
theorem d_Terms_takeOver_152 : decode prog_11_method_5_code 152 = .ok (.aload_n 2, 1) := by decide +kernel
theorem d_Terms_takeOver_153 : decode prog_11_method_5_code 153 = .ok (.getfield 69, 3) := by decide +kernel
theorem d_Terms_takeOver_156 : decode prog_11_method_5_code 156 = .ok (.iload 6, 2) := by decide +kernel
theorem d_Terms_takeOver_158 : decode prog_11_method_5_code 158 = .ok (.iaload, 1) := by decide +kernel
theorem d_Terms_takeOver_159 : decode prog_11_method_5_code 159 = .ok (.goto 5, 3) := by decide +kernel
theorem d_Terms_takeOver_162 : decode prog_11_method_5_code 162 = .ok (.iload 6, 2) := by decide +kernel
theorem d_Terms_takeOver_164 : decode prog_11_method_5_code 164 = .ok (.iaload, 1) := by decide +kernel
theorem d_Terms_takeOver_165 : decode prog_11_method_5_code 165 = .ok (.iastore, 1) := by decide +kernel
theorem d_Terms_takeOver_166 : decode prog_11_method_5_code 166 = .ok (.iinc 6 1, 3) := by decide +kernel
theorem d_Terms_takeOver_169 : decode prog_11_method_5_code 169 = .ok (.goto (-35), 3) := by decide +kernel
theorem d_Terms_takeOver_172 : decode prog_11_method_5_code 172 = .ok (.return_, 1) := by decide +kernel
abbrev M_Lens_clash : q_M := (⟨"LensPaths", "clash", "(I)I"⟩, prog_1_method_23_code, 7, (some .int), "LensPaths", [], false, 6, 122)
theorem d_Lens_clash_0 : decode prog_1_method_23_code 0 = .ok (.aload_n 0, 1) := by decide +kernel
theorem d_Lens_clash_1 : decode prog_1_method_23_code 1 = .ok (.getfield 12, 3) := by decide +kernel
theorem d_Lens_clash_4 : decode prog_1_method_23_code 4 = .ok (.iload_n 1, 1) := by decide +kernel
theorem d_Lens_clash_5 : decode prog_1_method_23_code 5 = .ok (.invokevirtual 230, 3) := by decide +kernel
theorem d_Lens_clash_8 : decode prog_1_method_23_code 8 = .ok (.ifCond .ne 11, 3) := by decide +kernel
theorem d_Lens_clash_11 : decode prog_1_method_23_code 11 = .ok (.new 233, 3) := by decide +kernel
theorem d_Lens_clash_14 : decode prog_1_method_23_code 14 = .ok (.dup, 1) := by decide +kernel
theorem d_Lens_clash_15 : decode prog_1_method_23_code 15 = .ok (.invokespecial 235, 3) := by decide +kernel
theorem d_Lens_clash_18 : decode prog_1_method_23_code 18 = .ok (.athrow, 1) := by decide +kernel
theorem d_Lens_clash_19 : decode prog_1_method_23_code 19 = .ok (.aload_n 0, 1) := by decide +kernel
theorem d_Lens_clash_20 : decode prog_1_method_23_code 20 = .ok (.getfield 12, 3) := by decide +kernel
theorem d_Lens_clash_23 : decode prog_1_method_23_code 23 = .ok (.getfield 236, 3) := by decide +kernel
theorem d_Lens_clash_26 : decode prog_1_method_23_code 26 = .ok (.iload_n 1, 1) := by decide +kernel
theorem d_Lens_clash_27 : decode prog_1_method_23_code 27 = .ok (.aaload, 1) := by decide +kernel
theorem d_Lens_clash_28 : decode prog_1_method_23_code 28 = .ok (.astore_n 2, 1) := by decide +kernel
theorem d_Lens_clash_29 : decode prog_1_method_23_code 29 = .ok (.aload_n 0, 1) := by decide +kernel
theorem d_Lens_clash_30 : decode prog_1_method_23_code 30 = .ok (.getfield 12, 3) := by decide +kernel
theorem d_Lens_clash_33 : decode prog_1_method_23_code 33 = .ok (.aload_n 2, 1) := by decide +kernel
theorem d_Lens_clash_34 : decode prog_1_method_23_code 34 = .ok (.getfield 240, 3) := by decide +kernel
theorem d_Lens_clash_37 : decode prog_1_method_23_code 37 = .ok (.aload_n 2, 1) := by decide +kernel
theorem d_Lens_clash_38 : decode prog_1_method_23_code 38 = .ok (.getfield 243, 3) := by decide +kernel
theorem d_Lens_clash_41 : decode prog_1_method_23_code 41 = .ok (.iload_n 1, 1) := by decide +kernel
theorem d_Lens_clash_42 : decode prog_1_method_23_code 42 = .ok (.invokevirtual 217, 3) := by decide +kernel
theorem d_Lens_clash_45 : decode prog_1_method_23_code 45 = .ok (.istore_n 3, 1) := by decide +kernel
theorem d_Lens_clash_46 : decode prog_1_method_23_code 46 = .ok (.iload_n 3, 1) := by decide +kernel
theorem d_Lens_clash_47 : decode prog_1_method_23_code 47 = .ok (.iconst (-1), 1) := by decide +kernel
theorem d_Lens_clash_48 : decode prog_1_method_23_code 48 = .ok (.if_icmp .ne 5, 3) := by decide +kernel
theorem d_Lens_clash_51 : decode prog_1_method_23_code 51 = .ok (.iconst (-1), 1) := by decide +kernel
theorem d_Lens_clash_52 : decode prog_1_method_23_code 52 = .ok (.ireturn, 1) := by decide +kernel
theorem d_Lens_clash_53 : decode prog_1_method_23_code 53 = .ok (.aload_n 0, 1) := by decide +kernel
theorem d_Lens_clash_54 : decode prog_1_method_23_code 54 = .ok (.getfield 12, 3) := by decide +kernel
theorem d_Lens_clash_57 : decode prog_1_method_23_code 57 = .ok (.getfield 48, 3) := by decide +kernel
theorem d_Lens_clash_60 : decode prog_1_method_23_code 60 = .ok (.aload_n 2, 1) := by decide +kernel
theorem d_Lens_clash_61 : decode prog_1_method_23_code 61 = .ok (.getfield 240, 3) := by decide +kernel
theorem d_Lens_clash_64 : decode prog_1_method_23_code 64 = .ok (.aaload, 1) := by decide +kernel
theorem d_Lens_clash_65 : decode prog_1_method_23_code 65 = .ok (.astore 4, 2) := by decide +kernel
theorem d_Lens_clash_67 : decode prog_1_method_23_code 67 = .ok (.aload_n 0, 1) := by decide +kernel
theorem d_Lens_clash_68 : decode prog_1_method_23_code 68 = .ok (.getfield 44, 3) := by decide +kernel
theorem d_Lens_clash_71 : decode prog_1_method_23_code 71 = .ok (.invokevirtual 246, 3) := by decide +kernel
theorem d_Lens_clash_74 : decode prog_1_method_23_code 74 = .ok (.aload_n 0, 1) := by decide +kernel
theorem d_Lens_clash_75 : decode prog_1_method_23_code 75 = .ok (.getfield 44, 3) := by decide +kernel
theorem d_Lens_clash_78 : decode prog_1_method_23_code 78 = .ok (.aload_n 0, 1) := by decide +kernel
theorem d_Lens_clash_79 : decode prog_1_method_23_code 79 = .ok (.getfield 44, 3) := by decide +kernel
theorem d_Lens_clash_82 : decode prog_1_method_23_code 82 = .ok (.getfield 249, 3) := by decide +kernel
theorem d_Lens_clash_85 : decode prog_1_method_23_code 85 = .ok (.aload 4, 2) := by decide +kernel
theorem d_Lens_clash_87 : decode prog_1_method_23_code 87 = .ok (.invokevirtual 252, 3) := by decide +kernel
theorem d_Lens_clash_90 : decode prog_1_method_23_code 90 = .ok (.aload_n 0, 1) := by decide +kernel
theorem d_Lens_clash_91 : decode prog_1_method_23_code 91 = .ok (.getfield 44, 3) := by decide +kernel
theorem d_Lens_clash_94 : decode prog_1_method_23_code 94 = .ok (.aload_n 0, 1) := by decide +kernel
theorem d_Lens_clash_95 : decode prog_1_method_23_code 95 = .ok (.getfield 44, 3) := by decide +kernel
theorem d_Lens_clash_98 : decode prog_1_method_23_code 98 = .ok (.getfield 249, 3) := by decide +kernel
theorem d_Lens_clash_101 : decode prog_1_method_23_code 101 = .ok (.aload_n 2, 1) := by decide +kernel
theorem d_Lens_clash_102 : decode prog_1_method_23_code 102 = .ok (.iconst 1, 1) := by decide +kernel
theorem d_Lens_clash_103 : decode prog_1_method_23_code 103 = .ok (.invokevirtual 256, 3) := by decide +kernel
theorem d_Lens_clash_106 : decode prog_1_method_23_code 106 = .ok (.aload_n 0, 1) := by decide +kernel
theorem d_Lens_clash_107 : decode prog_1_method_23_code 107 = .ok (.getfield 44, 3) := by decide +kernel
theorem d_Lens_clash_110 : decode prog_1_method_23_code 110 = .ok (.aload_n 0, 1) := by decide +kernel
theorem d_Lens_clash_111 : decode prog_1_method_23_code 111 = .ok (.getfield 44, 3) := by decide +kernel
theorem d_Lens_clash_114 : decode prog_1_method_23_code 114 = .ok (.getfield 260, 3) := by decide +kernel
theorem d_Lens_clash_117 : decode prog_1_method_23_code 117 = .ok (.aload 4, 2) := by decide +kernel
theorem d_Lens_clash_119 : decode prog_1_method_23_code 119 = .ok (.invokevirtual 252, 3) := by decide +kernel
theorem d_Lens_clash_122 : decode prog_1_method_23_code 122 = .ok (.iconst 0, 1) := by decide +kernel
theorem d_Lens_clash_123 : decode prog_1_method_23_code 123 = .ok (.istore 5, 2) := by decide +kernel
theorem d_Lens_clash_125 : decode prog_1_method_23_code 125 = .ok (.iload 5, 2) := by decide +kernel
theorem d_Lens_clash_127 : decode prog_1_method_23_code 127 = .ok (.iload_n 3, 1) := by decide +kernel
theorem d_Lens_clash_128 : decode prog_1_method_23_code 128 = .ok (.if_icmp .ge 60, 3) := by decide +kernel
theorem d_Lens_clash_131 : decode prog_1_method_23_code 131 = .ok (.aload_n 0, 1) := by decide +kernel
theorem d_Lens_clash_132 : decode prog_1_method_23_code 132 = .ok (.getfield 12, 3) := by decide +kernel
theorem d_Lens_clash_135 : decode prog_1_method_23_code 135 = .ok (.iload 5, 2) := by decide +kernel
theorem d_Lens_clash_137 : decode prog_1_method_23_code 137 = .ok (.iload_n 1, 1) := by decide +kernel
theorem d_Lens_clash_138 : decode prog_1_method_23_code 138 = .ok (.invokevirtual 263, 3) := by decide +kernel
theorem d_Lens_clash_141 : decode prog_1_method_23_code 141 = .ok (.astore 6, 2) := by decide +kernel
theorem d_Lens_clash_143 : decode prog_1_method_23_code 143 = .ok (.aload_n 0, 1) := by decide +kernel
theorem d_Lens_clash_144 : decode prog_1_method_23_code 144 = .ok (.getfield 44, 3) := by decide +kernel
theorem d_Lens_clash_147 : decode prog_1_method_23_code 147 = .ok (.aload_n 0, 1) := by decide +kernel
theorem d_Lens_clash_148 : decode prog_1_method_23_code 148 = .ok (.getfield 44, 3) := by decide +kernel
theorem d_Lens_clash_151 : decode prog_1_method_23_code 151 = .ok (.getfield 260, 3) := by decide +kernel
theorem d_Lens_clash_154 : decode prog_1_method_23_code 154 = .ok (.aload 6, 2) := by decide +kernel
theorem d_Lens_clash_156 : decode prog_1_method_23_code 156 = .ok (.aload 6, 2) := by decide +kernel
theorem d_Lens_clash_158 : decode prog_1_method_23_code 158 = .ok (.getfield 240, 3) := by decide +kernel
theorem d_Lens_clash_161 : decode prog_1_method_23_code 161 = .ok (.aload_n 0, 1) := by decide +kernel
theorem d_Lens_clash_162 : decode prog_1_method_23_code 162 = .ok (.getfield 12, 3) := by decide +kernel
theorem d_Lens_clash_165 : decode prog_1_method_23_code 165 = .ok (.getfield 226, 3) := by decide +kernel
theorem d_Lens_clash_168 : decode prog_1_method_23_code 168 = .ok (.iload 5, 2) := by decide +kernel
theorem d_Lens_clash_170 : decode prog_1_method_23_code 170 = .ok (.iaload, 1) := by decide +kernel
theorem d_Lens_clash_171 : decode prog_1_method_23_code 171 = .ok (.if_icmp .ne 7, 3) := by decide +kernel
theorem d_Lens_clash_174 : decode prog_1_method_23_code 174 = .ok (.iconst 1, 1) := by decide +kernel
theorem d_Lens_clash_175 : decode prog_1_method_23_code 175 = .ok (.goto 4, 3) := by decide +kernel
theorem d_Lens_clash_178 : decode prog_1_method_23_code 178 = .ok (.iconst 0, 1) := by decide +kernel
theorem d_Lens_clash_179 : decode prog_1_method_23_code 179 = .ok (.invokevirtual 256, 3) := by decide +kernel
theorem d_Lens_clash_182 : decode prog_1_method_23_code 182 = .ok (.iinc 5 1, 3) := by decide +kernel
theorem d_Lens_clash_185 : decode prog_1_method_23_code 185 = .ok (.goto (-60), 3) := by decide +kernel
theorem d_Lens_clash_188 : decode prog_1_method_23_code 188 = .ok (.aload_n 0, 1) := by decide +kernel
theorem d_Lens_clash_189 : decode prog_1_method_23_code 189 = .ok (.getfield 44, 3) := by decide +kernel
theorem d_Lens_clash_192 : decode prog_1_method_23_code 192 = .ok (.aload_n 0, 1) := by decide +kernel
theorem d_Lens_clash_193 : decode prog_1_method_23_code 193 = .ok (.getfield 12, 3) := by decide +kernel
theorem d_Lens_clash_196 : decode prog_1_method_23_code 196 = .ok (.getfield 48, 3) := by decide +kernel
theorem d_Lens_clash_199 : decode prog_1_method_23_code 199 = .ok (.aload_n 2, 1) := by decide +kernel
theorem d_Lens_clash_200 : decode prog_1_method_23_code 200 = .ok (.getfield 243, 3) := by decide +kernel
theorem d_Lens_clash_203 : decode prog_1_method_23_code 203 = .ok (.aaload, 1) := by decide +kernel
theorem d_Lens_clash_204 : decode prog_1_method_23_code 204 = .ok (.getfield 56, 3) := by decide +kernel
theorem d_Lens_clash_207 : decode prog_1_method_23_code 207 = .ok (.invokevirtual 267, 3) := by decide +kernel
theorem d_Lens_clash_210 : decode prog_1_method_23_code 210 = .ok (.ifCond .eq 7, 3) := by decide +kernel
theorem d_Lens_clash_213 : decode prog_1_method_23_code 213 = .ok (.iconst 1, 1) := by decide +kernel
theorem d_Lens_clash_214 : decode prog_1_method_23_code 214 = .ok (.goto 4, 3) := by decide +kernel
theorem d_Lens_clash_217 : decode prog_1_method_23_code 217 = .ok (.iconst 0, 1) := by decide +kernel
theorem d_Lens_clash_218 : decode prog_1_method_23_code 218 = .ok (.ireturn, 1) := by decide +kernel
section TOver
variable {g : q_G} {sz te ar : Nat} {T : q_T} {I : q_I} {R : q_R} {J : q_J} {tb : List KT} {p : KP} {D : List KF} {Z : KZ}
def z_fws : List KP → KZ → KZ
  | [], Z => Z
  | p :: t, Z => z_fws t (z_go true p Z)
def z_bks : List KP → KZ → KZ
  | [], Z => Z
  | p :: t, Z => z_go false p (z_bks t Z)
theorem z_bks_snoc (p : KP) : ∀ (a : List KP) (Z : KZ), z_bks (a ++ [p]) Z = z_bks a (z_go false p Z)
  | [], Z => rfl
  | q :: t, Z => by
    show z_go false q (z_bks (t ++ [p]) Z) = z_go false q (z_bks t (z_go false p Z))
    rw [z_bks_snoc p t Z]
def z_run (fw : Bool) (ps : List KP) (Z : KZ) : KZ := if fw = true then z_fws ps Z else z_bks ps Z
def z_ld (fw : Bool) (st : KS) (zs : List KT) : KZ := fun s => zs.getD (if fw = true then s else st.sb.idxOf s) []
def z_st (fw : Bool) (st : KS) (zs : List KT) : List KT := (s_in (!fw) st).map (z_run fw st.pr (z_ld fw st zs))
/-- terms by field, in an array -/
def o_ar (ar : Nat) (L : List KF) (zs : List KT) (tb : List KT) (I : q_I) : Prop := ∀ a f, L[a]? = some f → (f.2.1 = 2 → I ar (nI a) = -1) ∧ (f.2.1 ≠ 2 → zs.getD a [] ∈ tb ∧ I ar (nI a) = nI (tb.idxOf (zs.getD a [])))
theorem o_ar.keep {L : List KF} {zs : List KT} {tb' : List KT} {I' : q_I} (h : o_ar ar L zs tb I) (hx : z_ex tb tb') (hI : I' ar = I ar) : o_ar ar L zs tb' I' := fun a f hf => by
  obtain ⟨h1, h2⟩ := h a f hf
  rw [hI]
  exact ⟨h1, fun z => ⟨hx.mem (h2 z).1, by rw [(h2 z).2, hx.ix (h2 z).1]⟩⟩
theorem k_fws_32 : ∀ {ps : List KP} {D : List KF}, (∀ f ∈ D, f.2.2.2.2 < 32) → (∀ p ∈ ps, p.sl < 32 ∧ (p.kind = 5 → p.rs < 32)) → ∀ f ∈ k_fws D ps, f.2.2.2.2 < 32
  | [], _, h, _ => h
  | p :: t, D, h, hp => k_fws_32 (ps := t) (D := k_fw p D) (fun f hf => by
      obtain ⟨q1, q2⟩ := hp p (List.mem_cons_self ..)
      rcases k_fw_sl f hf with ⟨q, q3, e⟩ | ⟨-, e⟩ | ⟨k5, e⟩
      · rw [e]; exact h q q3
      · rw [e]; exact q1
      · rw [e]; exact q2 k5) (fun q hq => hp q (List.mem_cons_of_mem _ hq))
set_option maxHeartbeats 1000000 in
theorem c_Terms_takeOver {x t i : Nat} {st : KS} {L E L2 : List KF} {fw : Bool} {zs : List KT} (hL : q_L 8 t_Terms te T R) (har : ar = te + 1 ∨ ar = te + 2) (ht : k_stp x t i st T I R) (hsk : s_ok st (k_rs 0 L) E) (hE : E.map k_st = L2.map k_st) (hx : te + 10 < x + 114) (h : o_tb te tb I) (hlen : tb.length + 2 * st.pr.length ≤ 152) (hz : o_ar ar (s_L fw L L2) zs tb I) : q_Cv g M_Terms_takeOver [.ref te, .ref ar, .ref t, .int (p_b fw)] (sz, T, I, R, J) 0 0 (fun h' => ∃ (I' : q_I) (tb' : List KT), h' = (sz, T, I', R, J) ∧ (∀ b, b ≠ te → b ≠ ar → b < te + 3 ∨ te + 10 < b → I' b = I b) ∧ o_tb te tb' I' ∧ z_ex tb tb' ∧ tb'.length ≤ tb.length + 2 * st.pr.length ∧ o_ar ar (s_L (!fw) L L2) (z_st fw st zs) tb' I') := by
  obtain ⟨s1, s2, s3⟩ := hsk.sin (fw := fw)
  obtain ⟨v1, v2, v3⟩ := hsk.sin (fw := !fw)
  have hskk := hsk
  obtain ⟨b1, b2, b3, b4, b5, b6, b7, b8⟩ := hsk
  have h24 : st.sb.length ≤ 24 := by rw [b7, List.length_map]; exact hskk.wfE
  have tar : T ar = some (0, 24) := by
    rcases har with e | e
    · rw [e]; exact (hL.2 0 _ _ _ rfl).2
    · rw [e]; exact (hL.2 1 _ _ _ rfl).2
  have tp := ht.2.1
  have ts := ht.2.2.2.2.2.2.2.2.2.2.1
  have tp1 := ht.2.2.2.2.2.2.2.2.1
  have r4 := ht.2.2.2.2.2.2.2.1
  have r6 := ht.2.2.2.2.2.2.2.2.2.1
  have htx := ht.1
  have eG := s_G_in (fw := fw) hskk
  have eG' := s_G_in (fw := !fw) hskk
  have lG : (s_G fw L E).length = (s_in fw st).length := by rw [eG, List.length_map]
  obtain ⟨Zf, hZf⟩ : ∃ Zf, Zf = z_run fw st.pr (z_ld fw st zs) := ⟨_, rfl⟩
  obtain ⟨Q, hQ⟩ : ∃ Q : q_O → q_H → Prop, Q = (fun o h' => o = .inl none ∧ ∃ (I' : q_I) (tb' : List KT), h' = (sz, T, I', R, J) ∧ (∀ b, b ≠ te → b ≠ ar → b < te + 3 ∨ te + 10 < b → I' b = I b) ∧ o_tb te tb' I' ∧ z_ex tb tb' ∧ tb'.length ≤ tb.length + 2 * st.pr.length ∧ o_ar ar (s_L (!fw) L L2) (z_st fw st zs) tb' I') := ⟨_, rfl⟩
  have kst : ∀ I1 : q_I, (∀ b, te + 10 < b → I1 b = I b) → k_stp x t i st T I1 R := fun I1 hI => ht.cong fun b hb => hI b (by omega)
  -- the slots go back into the array
  have out : ∀ (I3 : q_I) (tb3 : List KT) (mcc msc : Nat), mcc = 0 → msc = 0 → (∀ b, b ≠ te → b < te + 3 ∨ te + 10 < b → I3 b = I b) → o_tb te tb3 I3 → z_ex tb tb3 → tb3.length ≤ tb.length + 2 * st.pr.length → o_sl te (k_pr (s_G (!fw) L E)) Zf tb3 I3 → ∀ (l5 l6 : Option Value) (n : Nat), n = (s_in (!fw) st).length → ∀ (j q : Nat) (I4 : q_I), q + j = n → (∀ b, b ≠ ar → I4 b = I3 b) → (∀ a s, a < q → (s_in (!fw) st)[a]? = some s → I4 ar (nI a) = I3 (te + 3) (nI s)) → q_V g M_Terms_takeOver 0 0 mcc msc (sz, T, I4, R, J) Q 134 [some (.ref te), some (.ref ar), some (.ref t), some (.int (p_b fw)), l5, some (.int (nI n)), some (.int (nI q))] [] := by
    intro I3 tb3 mcc msc m1 m2 e1 e2 e3 e4 e5 l5 l6 n hn j
    subst m1 m2
    induction j with
    | zero =>
      intro q I4 hq f1 f2
      obtain rfl : q = n := by omega
      refine q_iload d_Terms_takeOver_134 rfl ?_
      refine q_iload d_Terms_takeOver_136 rfl ?_
      refine q_icmp_ge (tgt := 172) d_Terms_takeOver_138 rfl (fun hc => ?_) (fun hc => ?_)
      rotate_left
      · exact absurd (Int32.le_refl _) hc
      refine q_vret d_Terms_takeOver_172 rfl (by omega) (by omega) ?_
      rw [hQ]
      refine ⟨rfl, I4, tb3, rfl, fun b b1 b2 b3 => (f1 b b2).trans (e1 b b1 b3), e2.cong (fun b c1 c2 c3 => f1 b (by omega)), e3, e4, fun a f hf => ?_⟩
      have hal := (List.getElem?_eq_some_iff.mp hf).1
      have lG' : (s_G (!fw) L E).length = (s_L (!fw) L L2).length := s_G_len hE
      obtain ⟨e, he⟩ : ∃ e, (s_G (!fw) L E)[a]? = some e := ⟨_, List.getElem?_eq_getElem (by omega)⟩
      obtain ⟨f', g1, g2⟩ := s_G_so (L := L) hE he
      have ef : f' = f := Option.some.inj (g1.symm.trans hf)
      rw [ef] at g2
      have hso : f.2.1 = e.2.1 := (Prod.mk.inj (Prod.mk.inj g2).2).1
      have hs : (s_in (!fw) st)[a]? = some e.2.2.2.2 := by rw [eG', List.getElem?_map, he]; rfl
      have hv := f2 a _ (by rw [hn]; exact (List.getElem?_eq_some_iff.mp hs).1) hs
      have hz0 : (z_st fw st zs).getD a [] = Zf e.2.2.2.2 := by
        refine k_getD ?_
        show ((s_in (!fw) st).map _)[a]? = _
        rw [List.getElem?_map, hs, hZf]; rfl
      have ho := e5 _ (k_pr_of (List.mem_of_getElem? he))
      rw [hv, hz0, hso]
      exact ⟨fun z => ho.1 (decide_eq_true z), fun z => ho.2 (decide_eq_false z)⟩
    | succ j ih =>
      intro q I4 hq f1 f2
      obtain ⟨s, hs⟩ : ∃ s, (s_in (!fw) st)[q]? = some s := ⟨_, List.getElem?_eq_getElem (by omega)⟩
      have hs2 := v2 s (List.mem_of_getElem? hs)
      have ks := kst I4 (fun b hb => by rw [f1 b (by omega), e1 b (by omega) (by omega)])
      have after : ∀ mcc msc : Nat, mcc = 0 → msc = 0 → q_V g M_Terms_takeOver 0 0 mcc msc (sz, T, I4, R, J) Q 164 [some (.ref te), some (.ref ar), some (.ref t), some (.int (p_b fw)), l5, some (.int (nI n)), some (.int (nI q))] [.int (nI s), .ref (te + 3), .int (nI q), .ref ar] := by
        intro mcc msc m1 m2
        subst m1 m2
        refine q_iald d_Terms_takeOver_164 (hL.2 2 _ _ _ rfl).2 (by first | assumption | exact vp_in_nI (by omega) (by omega)) ?_
        rw [f1 (te + 3) (by omega)]
        refine q_iast d_Terms_takeOver_165 (by first | assumption | rfl | (simp (disch := omega) only [q_upT_self, q_upT_ne, q_upR_self, q_upR_nea, q_upR_nk, s_T_lo, s_T_hi, s_R_ne, *]; done) | (simp (disch := omega) only [q_upT_self, q_upT_ne, q_upR_self, q_upR_nea, q_upR_nk, s_T_lo, s_T_hi, s_R_ne, *]; rfl)) (by first | assumption | exact vp_in_nI (by omega) (by omega)) ?_
        first | refine q_iincN d_Terms_takeOver_166 rfl (Nat.le_of_ble_eq_true rfl) (by first | exact q_ok0 | exact q_okI rfl | exact q_okR rfl | exact q_okN rfl) rfl ?_ | refine q_iinc d_Terms_takeOver_166 rfl rfl (Nat.le_of_ble_eq_true rfl) (by first | exact q_ok0 | exact q_okI rfl | exact q_okR rfl | exact q_okN rfl) rfl ?_
        refine q_goto (tgt := 134) d_Terms_takeOver_169 rfl ?_
        refine ih (q + 1) _ (by omega) (fun b hb => by funext z; rw [q_upI_nea hb, f1 b hb]) (fun a s' ha hs' => ?_)
        by_cases haq : a = q
        · subst haq
          rw [q_upI_self, ← Option.some.inj (hs.symm.trans hs')]
        · have := (List.getElem?_eq_some_iff.mp hs').1
          rw [q_upI_nk (by omega)]
          exact f2 a s' (by omega) hs'
      refine q_iload d_Terms_takeOver_134 rfl ?_
      refine q_iload d_Terms_takeOver_136 rfl ?_
      refine q_icmp_ge (tgt := 172) d_Terms_takeOver_138 rfl (fun hc => ?_) (fun hc => ?_)
      · rw [nI_leI (by omega) (by omega)] at hc
        omega
      cases fw with
      | true =>
        have hs3 : st.sb[q]? = some s := hs
        have hlt := (List.getElem?_eq_some_iff.mp hs3).1
        refine q_aload_n d_Terms_takeOver_141 rfl rfl ?_
        refine q_iload d_Terms_takeOver_142 rfl ?_
        refine q_aload_n d_Terms_takeOver_144 rfl rfl ?_
        refine q_getR (ci := 8) (fk := 2) d_Terms_takeOver_145 rfl (Nat.le_of_ble_eq_true rfl) w_240 (fun _ _ => rfl) hL.1 (hL.2 2 _ _ _ rfl).1 ?_
        refine q_iload_n d_Terms_takeOver_148 rfl rfl ?_
        refine q_if_eq (tgt := 162) d_Terms_takeOver_149 rfl (fun hc => ?_) (fun hc => ?_)
        · exact absurd hc (by decide)
        refine q_aload_n d_Terms_takeOver_152 rfl rfl ?_
        refine q_getR (ci := 7) (fk := 6) d_Terms_takeOver_153 rfl (Nat.le_of_ble_eq_true rfl) w_663 (fun _ _ => rfl) (by first | assumption | rfl | (simp (disch := omega) only [q_upT_self, q_upT_ne, q_upR_self, q_upR_nea, q_upR_nk, s_T_lo, s_T_hi, s_R_ne, *]; done) | (simp (disch := omega) only [q_upT_self, q_upT_ne, q_upR_self, q_upR_nea, q_upR_nk, s_T_lo, s_T_hi, s_R_ne, *]; rfl)) (by first | assumption | rfl | (simp (disch := omega) only [q_upT_self, q_upT_ne, q_upR_self, q_upR_nea, q_upR_nk, s_T_lo, s_T_hi, s_R_ne, *]; done) | (simp (disch := omega) only [q_upT_self, q_upT_ne, q_upR_self, q_upR_nea, q_upR_nk, s_T_lo, s_T_hi, s_R_ne, *]; rfl)) ?_
        refine q_iload d_Terms_takeOver_156 rfl ?_
        refine q_iald d_Terms_takeOver_158 (by first | assumption | rfl | (simp (disch := omega) only [q_upT_self, q_upT_ne, q_upR_self, q_upR_nea, q_upR_nk, s_T_lo, s_T_hi, s_R_ne, *]; done) | (simp (disch := omega) only [q_upT_self, q_upT_ne, q_upR_self, q_upR_nea, q_upR_nk, s_T_lo, s_T_hi, s_R_ne, *]; rfl)) (by first | assumption | exact vp_in_nI (by omega) (by omega)) ?_
        rw [ks.2.2.2.2.2.2.2.2.2.2.2.2 q s hs3]
        refine q_goto (tgt := 164) d_Terms_takeOver_159 rfl ?_
        exact after _ _ rfl rfl
      | false =>
        refine q_aload_n d_Terms_takeOver_141 rfl rfl ?_
        refine q_iload d_Terms_takeOver_142 rfl ?_
        refine q_aload_n d_Terms_takeOver_144 rfl rfl ?_
        refine q_getR (ci := 8) (fk := 2) d_Terms_takeOver_145 rfl (Nat.le_of_ble_eq_true rfl) w_240 (fun _ _ => rfl) hL.1 (hL.2 2 _ _ _ rfl).1 ?_
        refine q_iload_n d_Terms_takeOver_148 rfl rfl ?_
        refine q_if_eq (tgt := 162) d_Terms_takeOver_149 rfl (fun hc => ?_) (fun hc => ?_)
        rotate_left
        · exact absurd rfl hc
        refine q_iload d_Terms_takeOver_162 rfl ?_
        have : s = q := by
          have hs3 : (List.range st.nb)[q]? = some s := hs
          have := (List.getElem?_eq_some_iff.mp hs3).2
          rw [List.getElem_range] at this
          exact this.symm
        have e := after _ _ rfl rfl
        rw [this] at e
        exact e
  have fin : ∀ (I3 : q_I) (tb3 : List KT) (l5 l6 : Option Value), (∀ b, b ≠ te → b < te + 3 ∨ te + 10 < b → I3 b = I b) → o_tb te tb3 I3 → z_ex tb tb3 → tb3.length ≤ tb.length + 2 * st.pr.length → o_sl te (k_pr (s_G (!fw) L E)) Zf tb3 I3 → q_V g M_Terms_takeOver 0 0 0 0 (sz, T, I3, R, J) Q 113 [some (.ref te), some (.ref ar), some (.ref t), some (.int (p_b fw)), some (.int (nI (s_in fw st).length)), l5, l6] [] := by
    intro I3 tb3 l5 l6 e1 e2 e3 e4 e5
    have ks := kst I3 (fun b hb => e1 b (by omega) (by omega))
    cases fw with
    | true =>
      refine q_iload_n d_Terms_takeOver_113 rfl rfl ?_
      refine q_if_eq (tgt := 125) d_Terms_takeOver_114 rfl (fun hc => ?_) (fun hc => ?_)
      · exact absurd hc (by decide)
      refine q_aload_n d_Terms_takeOver_117 rfl rfl ?_
      refine q_getR (ci := 7) (fk := 6) d_Terms_takeOver_118 rfl (Nat.le_of_ble_eq_true rfl) w_663 (fun _ _ => rfl) (by first | assumption | rfl | (simp (disch := omega) only [q_upT_self, q_upT_ne, q_upR_self, q_upR_nea, q_upR_nk, s_T_lo, s_T_hi, s_R_ne, *]; done) | (simp (disch := omega) only [q_upT_self, q_upT_ne, q_upR_self, q_upR_nea, q_upR_nk, s_T_lo, s_T_hi, s_R_ne, *]; rfl)) (by first | assumption | rfl | (simp (disch := omega) only [q_upT_self, q_upT_ne, q_upR_self, q_upR_nea, q_upR_nk, s_T_lo, s_T_hi, s_R_ne, *]; done) | (simp (disch := omega) only [q_upT_self, q_upT_ne, q_upR_self, q_upR_nea, q_upR_nk, s_T_lo, s_T_hi, s_R_ne, *]; rfl)) ?_
      refine q_alen d_Terms_takeOver_121 (by first | assumption | rfl | (simp (disch := omega) only [q_upT_self, q_upT_ne, q_upR_self, q_upR_nea, q_upR_nk, s_T_lo, s_T_hi, s_R_ne, *]; done) | (simp (disch := omega) only [q_upT_self, q_upT_ne, q_upR_self, q_upR_nea, q_upR_nk, s_T_lo, s_T_hi, s_R_ne, *]; rfl)) (Nat.le_of_ble_eq_true rfl) ?_
      refine q_goto (tgt := 129) d_Terms_takeOver_122 rfl ?_
      refine q_istore d_Terms_takeOver_129 (Nat.le_of_ble_eq_true rfl) (by first | exact q_ok0 | exact q_okI rfl | exact q_okR rfl | exact q_okN rfl) rfl ?_
      refine q_iconst (v := nI 0) d_Terms_takeOver_131 (by decide) ?_
      refine q_istore d_Terms_takeOver_132 (Nat.le_of_ble_eq_true rfl) (by first | exact q_ok0 | exact q_okI rfl | exact q_okR rfl | exact q_okN rfl) rfl ?_
      exact out I3 tb3 _ _ rfl rfl e1 e2 e3 e4 e5 _ none st.sb.length rfl st.sb.length 0 I3 (by omega) (fun _ _ => rfl) (fun a _ ha => absurd ha (Nat.not_lt_zero _))
    | false =>
      have hb : (s_in (!false) st).length = st.nb := List.length_range
      refine q_iload_n d_Terms_takeOver_113 rfl rfl ?_
      refine q_if_eq (tgt := 125) d_Terms_takeOver_114 rfl (fun hc => ?_) (fun hc => ?_)
      rotate_left
      · exact absurd rfl hc
      refine q_aload_n d_Terms_takeOver_125 rfl rfl ?_
      refine q_getI (ci := 7) (fk := 5) d_Terms_takeOver_126 rfl (Nat.le_of_ble_eq_true rfl) w_660 (fun _ _ => rfl) (by first | assumption | rfl | (simp (disch := omega) only [q_upT_self, q_upT_ne, q_upR_self, q_upR_nea, q_upR_nk, s_T_lo, s_T_hi, s_R_ne, *]; done) | (simp (disch := omega) only [q_upT_self, q_upT_ne, q_upR_self, q_upR_nea, q_upR_nk, s_T_lo, s_T_hi, s_R_ne, *]; rfl)) ?_
      rw [ks.2.2.2.2.2.2.1]
      refine q_istore d_Terms_takeOver_129 (Nat.le_of_ble_eq_true rfl) (by first | exact q_ok0 | exact q_okI rfl | exact q_okR rfl | exact q_okN rfl) rfl ?_
      refine q_iconst (v := nI 0) d_Terms_takeOver_131 (by decide) ?_
      refine q_istore d_Terms_takeOver_132 (Nat.le_of_ble_eq_true rfl) (by first | exact q_ok0 | exact q_okI rfl | exact q_okR rfl | exact q_okN rfl) rfl ?_
      exact out I3 tb3 _ _ rfl rfl e1 e2 e3 e4 e5 _ none st.nb hb.symm st.nb 0 I3 (by omega) (fun _ _ => rfl) (fun a _ ha => absurd ha (Nat.not_lt_zero _))
  have cnt : ∀ I1 : q_I, (∀ b, te + 10 < b → I1 b = I b) → I1 t (nI 3) = nI st.pr.length := fun I1 hI => (kst I1 hI).2.2.2.2.2.1
  have hD32 : ∀ f ∈ k_rs 0 L, f.2.2.2.2 < 32 := fun f hf => by
    have : f.2.2.2.2 ∈ (k_rs 0 L).map (fun f : KF => f.2.2.2.2) := List.mem_map_of_mem (f := fun f : KF => f.2.2.2.2) hf
    rw [b5] at this
    have := List.mem_range.mp this
    have hnb := hskk.nb
    have := b1.1
    omega
  -- the primitives
  have mid : ∀ (I2 : q_I), (∀ b, b ≠ te + 3 → I2 b = I b) → (∀ a s, (s_in fw st)[a]? = some s → I2 (te + 3) (nI s) = I ar (nI a)) → ∀ (l6 : Option Value), q_V g M_Terms_takeOver 0 0 0 0 (sz, T, I2, R, J) Q 62 [some (.ref te), some (.ref ar), some (.ref t), some (.int (p_b fw)), some (.int (nI (s_in fw st).length)), some (.int (nI 0)), l6] [] := by
    intro I2 g1 g2 l6
    have hs0 : o_sl te (k_pr (s_G fw L E)) (z_ld fw st zs) tb I2 := fun q hq => by
      obtain ⟨e, ee1, ee2, ee3⟩ := k_pr_mem hq
      obtain ⟨a, ha⟩ := List.getElem?_of_mem ee1
      obtain ⟨f, f1, f2⟩ := s_G_so (L := L) hE ha
      have hso : f.2.1 = e.2.1 := (Prod.mk.inj (Prod.mk.inj f2).2).1
      have hs : (s_in fw st)[a]? = some e.2.2.2.2 := by rw [eG, List.getElem?_map, ha]; rfl
      have hv := g2 a _ hs
      obtain ⟨z1, z2⟩ := hz a f f1
      have hld : z_ld fw st zs e.2.2.2.2 = zs.getD a [] := by
        unfold z_ld
        congr 1
        cases fw with
        | true =>
          rw [if_pos rfl]
          have hs3 : (List.range st.nb)[a]? = some e.2.2.2.2 := hs
          have := (List.getElem?_eq_some_iff.mp hs3).2
          rw [List.getElem_range] at this
          exact this.symm
        | false =>
          rw [if_neg (by decide)]
          exact k_idx s1 hs
      rw [← ee2, ← ee3, hld]
      unfold o_s1
      rw [hv, ← hso]
      exact ⟨fun z => z1 (of_decide_eq_true z), fun z => z2 (of_decide_eq_false z)⟩
    have h2 : o_tb te tb I2 := h.cong fun b c1 _ _ => g1 b c1
    have base : ∀ b, b ≠ te → b < te + 3 ∨ te + 10 < b → I2 b = I b := fun b c1 c2 => g1 b (by omega)
    cases fw with
    | true =>
      have loop : ∀ (ps : List KP) (q : Nat) (Dq : List KF) (Zq : KZ) (I1 : q_I) (tb1 : List KT), q + ps.length = st.pr.length → (∀ j, st.pr[q + j]? = ps[j]?) → k_chn Dq ps → k_wfL Dq → k_nds Dq → (∀ f ∈ Dq, f.2.2.2.2 < 32) → o_sl te (k_pr Dq) Zq tb1 I1 → o_tb te tb1 I1 → z_ex tb tb1 → tb1.length ≤ tb.length + 2 * q → z_fws ps Zq = Zf → k_fws Dq ps = k_fws (k_rs 0 L) st.pr → (∀ b, b ≠ te → b < te + 3 ∨ te + 10 < b → I1 b = I b) → q_V g M_Terms_takeOver 0 0 0 0 (sz, T, I1, R, J) Q 62 [some (.ref te), some (.ref ar), some (.ref t), some (.int (p_b true)), some (.int (nI (s_in true st).length)), some (.int (nI q)), l6] [] := by
        intro ps
        induction ps with
        | nil =>
          intro q Dq Zq I1 tb1 a1 a2 a3 a4 a5 a6 a7 a8 a9 a10 a11 a12 a13
          simp only [List.length_nil] at a1
          refine q_iload d_Terms_takeOver_62 rfl ?_
          refine q_aload_n d_Terms_takeOver_64 rfl rfl ?_
          refine q_getI (ci := 7) (fk := 3) d_Terms_takeOver_65 rfl (Nat.le_of_ble_eq_true rfl) w_654 (fun _ _ => rfl) (by first | assumption | rfl | (simp (disch := omega) only [q_upT_self, q_upT_ne, q_upR_self, q_upR_nea, q_upR_nk, s_T_lo, s_T_hi, s_R_ne, *]; done) | (simp (disch := omega) only [q_upT_self, q_upT_ne, q_upR_self, q_upR_nea, q_upR_nk, s_T_lo, s_T_hi, s_R_ne, *]; rfl)) ?_
          rw [cnt I1 (fun b hb => a13 b (by omega) (by omega))]
          refine q_icmp_ge (tgt := 113) d_Terms_takeOver_68 rfl (fun hc => ?_) (fun hc => ?_)
          · refine fin I1 tb1 _ _ a13 a8 a9 (by omega) ?_
            have e1 : Zq = Zf := a11
            rw [← e1]
            refine a7.imp fun q hq => ?_
            obtain ⟨f, f1, f2, f3⟩ := k_pr_mem hq
            have := k_pr_of (D := Dq) (f := f) (by rw [show Dq = k_fws (k_rs 0 L) st.pr from a12]; exact b6.mem_iff.mp f1)
            rw [f2, f3] at this
            exact this
          · exact absurd (by rw [nI_leI (by omega) (by omega)]; omega) hc
        | cons p ps ih =>
          intro q Dq Zq I1 tb1 a1 a2 a3 a4 a5 a6 a7 a8 a9 a10 a11 a12 a13
          simp only [List.length_cons] at a1
          have hpq : st.pr[q]? = some p := a2 0
          have ks := kst I1 (fun b hb => a13 b (by omega) (by omega))
          obtain ⟨po, o1, o2, o3⟩ := ks.2.2.2.2.2.2.2.2.2.2.2.1 q p hpq
          obtain ⟨q1, q2⟩ := b8.2 p (List.mem_of_getElem? hpq)
          refine q_iload d_Terms_takeOver_62 rfl ?_
          refine q_aload_n d_Terms_takeOver_64 rfl rfl ?_
          refine q_getI (ci := 7) (fk := 3) d_Terms_takeOver_65 rfl (Nat.le_of_ble_eq_true rfl) w_654 (fun _ _ => rfl) (by first | assumption | rfl | (simp (disch := omega) only [q_upT_self, q_upT_ne, q_upR_self, q_upR_nea, q_upR_nk, s_T_lo, s_T_hi, s_R_ne, *]; done) | (simp (disch := omega) only [q_upT_self, q_upT_ne, q_upR_self, q_upR_nea, q_upR_nk, s_T_lo, s_T_hi, s_R_ne, *]; rfl)) ?_
          rw [cnt I1 (fun b hb => a13 b (by omega) (by omega))]
          refine q_icmp_ge (tgt := 113) d_Terms_takeOver_68 rfl (fun hc => ?_) (fun hc => ?_)
          · rw [nI_leI (by omega) (by omega)] at hc
            omega
          refine q_iload_n d_Terms_takeOver_71 rfl rfl ?_
          refine q_if_eq (tgt := 89) d_Terms_takeOver_72 rfl (fun hc => ?_) (fun hc => ?_)
          · exact absurd hc (by decide)
          refine q_aload_n d_Terms_takeOver_75 rfl rfl ?_
          refine q_aload_n d_Terms_takeOver_76 rfl rfl ?_
          refine q_getR (ci := 7) (fk := 4) d_Terms_takeOver_77 rfl (Nat.le_of_ble_eq_true rfl) w_657 (fun _ _ => rfl) (by first | assumption | rfl | (simp (disch := omega) only [q_upT_self, q_upT_ne, q_upR_self, q_upR_nea, q_upR_nk, s_T_lo, s_T_hi, s_R_ne, *]; done) | (simp (disch := omega) only [q_upT_self, q_upT_ne, q_upR_self, q_upR_nea, q_upR_nk, s_T_lo, s_T_hi, s_R_ne, *]; rfl)) (by first | assumption | rfl | (simp (disch := omega) only [q_upT_self, q_upT_ne, q_upR_self, q_upR_nea, q_upR_nk, s_T_lo, s_T_hi, s_R_ne, *]; done) | (simp (disch := omega) only [q_upT_self, q_upT_ne, q_upR_self, q_upR_nea, q_upR_nk, s_T_lo, s_T_hi, s_R_ne, *]; rfl)) ?_
          refine q_iload d_Terms_takeOver_80 rfl ?_
          refine q_aaldR (kd := _) d_Terms_takeOver_82 rfl (Nat.le_of_ble_eq_true rfl) (Nat.le_of_ble_eq_true rfl) (by first | assumption | rfl | (simp (disch := omega) only [q_upT_self, q_upT_ne, q_upR_self, q_upR_nea, q_upR_nk, s_T_lo, s_T_hi, s_R_ne, *]; done) | (simp (disch := omega) only [q_upT_self, q_upT_ne, q_upR_self, q_upR_nea, q_upR_nk, s_T_lo, s_T_hi, s_R_ne, *]; rfl)) (by first | assumption | exact vp_in_nI (by omega) (by omega)) (by first | assumption | rfl | (simp (disch := omega) only [q_upT_self, q_upT_ne, q_upR_self, q_upR_nea, q_upR_nk, s_T_lo, s_T_hi, s_R_ne, *]; done) | (simp (disch := omega) only [q_upT_self, q_upT_ne, q_upR_self, q_upR_nea, q_upR_nk, s_T_lo, s_T_hi, s_R_ne, *]; rfl)) ?_
          refine q_callVv (M2 := M_Terms_passForth) d_Terms_takeOver_83 ⟨(Nat.le_of_ble_eq_true rfl), (Nat.le_of_ble_eq_true rfl), w_1059, w_9, ⟨by decide, by decide⟩, show _ = some 1 by decide +kernel⟩ w_1056 w_1058 (ci := 8) rfl s_39 hL.1 rfl (Nat.le_of_ble_eq_true rfl) (by omega) (by omega) (c_Terms_passForth hL a8 (by omega) o3 a4 a5 a3.1 a7 a6 q1 q2 (Or.inr (by omega))) ?_
          rintro _ ⟨I2', tb2, rfl, x1, x2, x3, x4, x5⟩
          refine q_goto (tgt := 107) d_Terms_takeOver_86 rfl ?_
          first | refine q_iincN d_Terms_takeOver_107 rfl (Nat.le_of_ble_eq_true rfl) (by first | exact q_ok0 | exact q_okI rfl | exact q_okR rfl | exact q_okN rfl) rfl ?_ | refine q_iinc d_Terms_takeOver_107 rfl rfl (Nat.le_of_ble_eq_true rfl) (by first | exact q_ok0 | exact q_okI rfl | exact q_okR rfl | exact q_okN rfl) rfl ?_
          refine q_goto (tgt := 62) d_Terms_takeOver_110 rfl ?_
          refine ih (q + 1) (k_fw p Dq) _ I2' tb2 (by omega) (fun j => by rw [show q + 1 + j = q + (j + 1) by omega]; exact a2 (j + 1)) a3.2 (k_fw_wf a4 a3.1) (k_fw_nds a5 a3.1) (fun f hf => ?_) x5 x2 (a9.trans x3) (by omega) a11 a12 (fun b c1 c2 => by rw [x1 b (by omega), a13 b c1 c2])
          exact k_fws_32 (ps := [p]) a6 (fun q hq => by rw [List.mem_singleton.mp hq]; exact ⟨q1, q2⟩) f hf
      exact loop st.pr 0 (k_rs 0 L) _ I2 tb (by omega) (fun j => by rw [Nat.zero_add]) b3 b1 b2 hD32 hs0 h2 (z_ex.refl tb) (by omega) hZf.symm rfl base
    | false =>
      have loop : ∀ (n q : Nat) (Zq : KZ) (I1 : q_I) (tb1 : List KT), q + n = st.pr.length → o_sl te (k_pr (k_fws (k_rs 0 L) (st.pr.take n))) Zq tb1 I1 → o_tb te tb1 I1 → z_ex tb tb1 → tb1.length ≤ tb.length + 2 * q → z_bks (st.pr.take n) Zq = Zf → (∀ b, b ≠ te → b < te + 3 ∨ te + 10 < b → I1 b = I b) → q_V g M_Terms_takeOver 0 0 0 0 (sz, T, I1, R, J) Q 62 [some (.ref te), some (.ref ar), some (.ref t), some (.int (p_b false)), some (.int (nI (s_in false st).length)), some (.int (nI q)), l6] [] := by
        intro n
        induction n with
        | zero =>
          intro q Zq I1 tb1 a1 a7 a8 a9 a10 a11 a13
          refine q_iload d_Terms_takeOver_62 rfl ?_
          refine q_aload_n d_Terms_takeOver_64 rfl rfl ?_
          refine q_getI (ci := 7) (fk := 3) d_Terms_takeOver_65 rfl (Nat.le_of_ble_eq_true rfl) w_654 (fun _ _ => rfl) (by first | assumption | rfl | (simp (disch := omega) only [q_upT_self, q_upT_ne, q_upR_self, q_upR_nea, q_upR_nk, s_T_lo, s_T_hi, s_R_ne, *]; done) | (simp (disch := omega) only [q_upT_self, q_upT_ne, q_upR_self, q_upR_nea, q_upR_nk, s_T_lo, s_T_hi, s_R_ne, *]; rfl)) ?_
          rw [cnt I1 (fun b hb => a13 b (by omega) (by omega))]
          refine q_icmp_ge (tgt := 113) d_Terms_takeOver_68 rfl (fun hc => ?_) (fun hc => ?_)
          · refine fin I1 tb1 _ _ a13 a8 a9 (by omega) ?_
            have e1 : Zq = Zf := a11
            rw [← e1]
            exact a7
          · exact absurd (by rw [nI_leI (by omega) (by omega)]; omega) hc
        | succ n ih =>
          intro q Zq I1 tb1 a1 a7 a8 a9 a10 a11 a13
          obtain ⟨p, hpq⟩ : ∃ p, st.pr[n]? = some p := ⟨_, List.getElem?_eq_getElem (by omega)⟩
          obtain ⟨c1, c2⟩ := k_chn_at b3 hpq
          have cw := k_chn_wf b1 (k_chn_take n b3)
          have cn := k_fws_nds b2 (k_chn_take n b3)
          have etk : st.pr.take (n + 1) = st.pr.take n ++ [p] := by rw [List.take_add_one, hpq]; rfl
          rw [etk, z_bks_snoc] at a11
          have h32 : ∀ f ∈ k_fws (k_rs 0 L) (st.pr.take (n + 1)), f.2.2.2.2 < 32 := k_fws_32 hD32 (fun q hq => b8.2 q (List.mem_of_mem_take hq))
          rw [c2] at a7 h32
          have ks := kst I1 (fun b hb => a13 b (by omega) (by omega))
          obtain ⟨po, o1, o2, o3⟩ := ks.2.2.2.2.2.2.2.2.2.2.2.1 n p hpq
          obtain ⟨q1, q2⟩ := b8.2 p (List.mem_of_getElem? hpq)
          have cn1 := cnt I1 (fun b hb => a13 b (by omega) (by omega))
          refine q_iload d_Terms_takeOver_62 rfl ?_
          refine q_aload_n d_Terms_takeOver_64 rfl rfl ?_
          refine q_getI (ci := 7) (fk := 3) d_Terms_takeOver_65 rfl (Nat.le_of_ble_eq_true rfl) w_654 (fun _ _ => rfl) (by first | assumption | rfl | (simp (disch := omega) only [q_upT_self, q_upT_ne, q_upR_self, q_upR_nea, q_upR_nk, s_T_lo, s_T_hi, s_R_ne, *]; done) | (simp (disch := omega) only [q_upT_self, q_upT_ne, q_upR_self, q_upR_nea, q_upR_nk, s_T_lo, s_T_hi, s_R_ne, *]; rfl)) ?_
          rw [cn1]
          refine q_icmp_ge (tgt := 113) d_Terms_takeOver_68 rfl (fun hc => ?_) (fun hc => ?_)
          · rw [nI_leI (by omega) (by omega)] at hc
            omega
          refine q_iload_n d_Terms_takeOver_71 rfl rfl ?_
          refine q_if_eq (tgt := 89) d_Terms_takeOver_72 rfl (fun hc => ?_) (fun hc => ?_)
          rotate_left
          · exact absurd rfl hc
          refine q_aload_n d_Terms_takeOver_89 rfl rfl ?_
          refine q_aload_n d_Terms_takeOver_90 rfl rfl ?_
          refine q_getR (ci := 7) (fk := 4) d_Terms_takeOver_91 rfl (Nat.le_of_ble_eq_true rfl) w_657 (fun _ _ => rfl) (by first | assumption | rfl | (simp (disch := omega) only [q_upT_self, q_upT_ne, q_upR_self, q_upR_nea, q_upR_nk, s_T_lo, s_T_hi, s_R_ne, *]; done) | (simp (disch := omega) only [q_upT_self, q_upT_ne, q_upR_self, q_upR_nea, q_upR_nk, s_T_lo, s_T_hi, s_R_ne, *]; rfl)) (by first | assumption | rfl | (simp (disch := omega) only [q_upT_self, q_upT_ne, q_upR_self, q_upR_nea, q_upR_nk, s_T_lo, s_T_hi, s_R_ne, *]; done) | (simp (disch := omega) only [q_upT_self, q_upT_ne, q_upR_self, q_upR_nea, q_upR_nk, s_T_lo, s_T_hi, s_R_ne, *]; rfl)) ?_
          refine q_aload_n d_Terms_takeOver_94 rfl rfl ?_
          refine q_getI (ci := 7) (fk := 3) d_Terms_takeOver_95 rfl (Nat.le_of_ble_eq_true rfl) w_654 (fun _ _ => rfl) (by first | assumption | rfl | (simp (disch := omega) only [q_upT_self, q_upT_ne, q_upR_self, q_upR_nea, q_upR_nk, s_T_lo, s_T_hi, s_R_ne, *]; done) | (simp (disch := omega) only [q_upT_self, q_upT_ne, q_upR_self, q_upR_nea, q_upR_nk, s_T_lo, s_T_hi, s_R_ne, *]; rfl)) ?_
          rw [cn1, show st.pr.length = q + n + 1 by omega]
          refine q_iconst (v := nI 1) d_Terms_takeOver_98 (by decide) ?_
          refine q_isub d_Terms_takeOver_99 ?_
          rw [nI_sb (q + n) 1]
          refine q_iload d_Terms_takeOver_100 rfl ?_
          refine q_isub d_Terms_takeOver_102 ?_
          rw [show q + n = n + q by omega, nI_sb n q]
          refine q_aaldR (kd := _) d_Terms_takeOver_103 rfl (Nat.le_of_ble_eq_true rfl) (Nat.le_of_ble_eq_true rfl) (by first | assumption | rfl | (simp (disch := omega) only [q_upT_self, q_upT_ne, q_upR_self, q_upR_nea, q_upR_nk, s_T_lo, s_T_hi, s_R_ne, *]; done) | (simp (disch := omega) only [q_upT_self, q_upT_ne, q_upR_self, q_upR_nea, q_upR_nk, s_T_lo, s_T_hi, s_R_ne, *]; rfl)) (by first | assumption | exact vp_in_nI (by omega) (by omega)) (by first | assumption | rfl | (simp (disch := omega) only [q_upT_self, q_upT_ne, q_upR_self, q_upR_nea, q_upR_nk, s_T_lo, s_T_hi, s_R_ne, *]; done) | (simp (disch := omega) only [q_upT_self, q_upT_ne, q_upR_self, q_upR_nea, q_upR_nk, s_T_lo, s_T_hi, s_R_ne, *]; rfl)) ?_
          refine q_callVv (M2 := M_Terms_passBack) d_Terms_takeOver_104 ⟨(Nat.le_of_ble_eq_true rfl), (Nat.le_of_ble_eq_true rfl), w_1080, w_9, ⟨by decide, by decide⟩, show _ = some 1 by decide +kernel⟩ w_1077 w_1079 (ci := 8) rfl s_43 hL.1 rfl (Nat.le_of_ble_eq_true rfl) (by omega) (by omega) (c_Terms_passBack hL a8 (by omega) o3 cw cn c1 a7 h32 q1 q2) ?_
          rintro _ ⟨I2', tb2, rfl, x1, x2, x3, x4, x5⟩
          first | refine q_iincN d_Terms_takeOver_107 rfl (Nat.le_of_ble_eq_true rfl) (by first | exact q_ok0 | exact q_okI rfl | exact q_okR rfl | exact q_okN rfl) rfl ?_ | refine q_iinc d_Terms_takeOver_107 rfl rfl (Nat.le_of_ble_eq_true rfl) (by first | exact q_ok0 | exact q_okI rfl | exact q_okR rfl | exact q_okN rfl) rfl ?_
          refine q_goto (tgt := 62) d_Terms_takeOver_110 rfl ?_
          exact ih (q + 1) _ I2' tb2 (by omega) x5 x2 (a9.trans x3) (by omega) a11 (fun b c1 c2 => by rw [x1 b (by omega), a13 b c1 c2])
      have eall : st.pr.take st.pr.length = st.pr := List.take_length
      refine loop st.pr.length 0 _ I2 tb (by omega) ?_ h2 (z_ex.refl tb) (by omega) (by rw [eall]; exact hZf.symm) base
      rw [eall]
      refine hs0.imp fun q hq => ?_
      obtain ⟨f, f1, f2, f3⟩ := k_pr_mem hq
      have := k_pr_of (D := E) (f := f) (b6.mem_iff.mpr f1)
      rw [f2, f3] at this
      exact this
  -- the array goes into the slots
  have load : ∀ (j q : Nat) (I1 : q_I), q + j = (s_in fw st).length → (∀ b, b ≠ te + 3 → I1 b = I b) → (∀ a s, a < q → (s_in fw st)[a]? = some s → I1 (te + 3) (nI s) = I ar (nI a)) → q_V g M_Terms_takeOver 0 0 0 0 (sz, T, I1, R, J) Q 21 [some (.ref te), some (.ref ar), some (.ref t), some (.int (p_b fw)), some (.int (nI (s_in fw st).length)), some (.int (nI q)), none] [] := by
    intro j
    induction j with
    | zero =>
      intro q I1 hq g1 g2
      obtain rfl : q = (s_in fw st).length := by omega
      refine q_iload d_Terms_takeOver_21 rfl ?_
      refine q_iload d_Terms_takeOver_23 rfl ?_
      refine q_icmp_ge (tgt := 59) d_Terms_takeOver_25 rfl (fun hc => ?_) (fun hc => ?_)
      rotate_left
      · exact absurd (Int32.le_refl _) hc
      refine q_iconst (v := nI 0) d_Terms_takeOver_59 (by decide) ?_
      refine q_istore d_Terms_takeOver_60 (Nat.le_of_ble_eq_true rfl) (by first | exact q_ok0 | exact q_okI rfl | exact q_okR rfl | exact q_okN rfl) rfl ?_
      exact mid I1 g1 (fun a s hs => g2 a s (List.getElem?_eq_some_iff.mp hs).1 hs) _
    | succ j ih =>
      intro q I1 hq g1 g2
      obtain ⟨s, hs⟩ : ∃ s, (s_in fw st)[q]? = some s := ⟨_, List.getElem?_eq_getElem (by omega)⟩
      have hs2 := s2 s (List.mem_of_getElem? hs)
      have ks := kst I1 (fun b hb => g1 b (by omega))
      have after : ∀ mcc msc : Nat, mcc = 0 → msc = 0 → q_V g M_Terms_takeOver 0 0 mcc msc (sz, T, I1, R, J) Q 48 [some (.ref te), some (.ref ar), some (.ref t), some (.int (p_b fw)), some (.int (nI (s_in fw st).length)), some (.int (nI q)), none] [.int (nI s), .ref (te + 3)] := by
        intro mcc msc m1 m2
        subst m1 m2
        refine q_aload_n d_Terms_takeOver_48 rfl rfl ?_
        refine q_iload d_Terms_takeOver_49 rfl ?_
        refine q_iald d_Terms_takeOver_51 (by first | assumption | rfl | (simp (disch := omega) only [q_upT_self, q_upT_ne, q_upR_self, q_upR_nea, q_upR_nk, s_T_lo, s_T_hi, s_R_ne, *]; done) | (simp (disch := omega) only [q_upT_self, q_upT_ne, q_upR_self, q_upR_nea, q_upR_nk, s_T_lo, s_T_hi, s_R_ne, *]; rfl)) (by first | assumption | exact vp_in_nI (by omega) (by omega)) ?_
        rw [g1 ar (by omega)]
        refine q_iast d_Terms_takeOver_52 (hL.2 2 _ _ _ rfl).2 (by first | assumption | exact vp_in_nI (by omega) (by omega)) ?_
        first | refine q_iincN d_Terms_takeOver_53 rfl (Nat.le_of_ble_eq_true rfl) (by first | exact q_ok0 | exact q_okI rfl | exact q_okR rfl | exact q_okN rfl) rfl ?_ | refine q_iinc d_Terms_takeOver_53 rfl rfl (Nat.le_of_ble_eq_true rfl) (by first | exact q_ok0 | exact q_okI rfl | exact q_okR rfl | exact q_okN rfl) rfl ?_
        refine q_goto (tgt := 21) d_Terms_takeOver_56 rfl ?_
        refine ih (q + 1) _ (by omega) (fun b hb => by funext z; rw [q_upI_nea hb, g1 b hb]) (fun a s' ha hs' => ?_)
        by_cases haq : a = q
        · subst haq
          rw [← Option.some.inj (hs.symm.trans hs'), q_upI_self]
        · have hne : s' ≠ s := fun z => haq ((k_idx s1 hs').symm.trans (by rw [z]; exact k_idx s1 hs))
          have := s2 s' (List.mem_of_getElem? hs')
          rw [q_upI_nk (by omega)]
          exact g2 a s' (by omega) hs'
      refine q_iload d_Terms_takeOver_21 rfl ?_
      refine q_iload d_Terms_takeOver_23 rfl ?_
      refine q_icmp_ge (tgt := 59) d_Terms_takeOver_25 rfl (fun hc => ?_) (fun hc => ?_)
      · rw [nI_leI (by omega) (by omega)] at hc
        omega
      cases fw with
      | true =>
        refine q_aload_n d_Terms_takeOver_28 rfl rfl ?_
        refine q_getR (ci := 8) (fk := 2) d_Terms_takeOver_29 rfl (Nat.le_of_ble_eq_true rfl) w_240 (fun _ _ => rfl) hL.1 (hL.2 2 _ _ _ rfl).1 ?_
        refine q_iload_n d_Terms_takeOver_32 rfl rfl ?_
        refine q_if_eq (tgt := 41) d_Terms_takeOver_33 rfl (fun hc => ?_) (fun hc => ?_)
        · exact absurd hc (by decide)
        refine q_iload d_Terms_takeOver_36 rfl ?_
        refine q_goto (tgt := 48) d_Terms_takeOver_38 rfl ?_
        have : s = q := by
          have hs3 : (List.range st.nb)[q]? = some s := hs
          have := (List.getElem?_eq_some_iff.mp hs3).2
          rw [List.getElem_range] at this
          exact this.symm
        have e := after _ _ rfl rfl
        rw [this] at e
        exact e
      | false =>
        have hs3 : st.sb[q]? = some s := hs
        have hlt := (List.getElem?_eq_some_iff.mp hs3).1
        refine q_aload_n d_Terms_takeOver_28 rfl rfl ?_
        refine q_getR (ci := 8) (fk := 2) d_Terms_takeOver_29 rfl (Nat.le_of_ble_eq_true rfl) w_240 (fun _ _ => rfl) hL.1 (hL.2 2 _ _ _ rfl).1 ?_
        refine q_iload_n d_Terms_takeOver_32 rfl rfl ?_
        refine q_if_eq (tgt := 41) d_Terms_takeOver_33 rfl (fun hc => ?_) (fun hc => ?_)
        rotate_left
        · exact absurd rfl hc
        refine q_aload_n d_Terms_takeOver_41 rfl rfl ?_
        refine q_getR (ci := 7) (fk := 6) d_Terms_takeOver_42 rfl (Nat.le_of_ble_eq_true rfl) w_663 (fun _ _ => rfl) (by first | assumption | rfl | (simp (disch := omega) only [q_upT_self, q_upT_ne, q_upR_self, q_upR_nea, q_upR_nk, s_T_lo, s_T_hi, s_R_ne, *]; done) | (simp (disch := omega) only [q_upT_self, q_upT_ne, q_upR_self, q_upR_nea, q_upR_nk, s_T_lo, s_T_hi, s_R_ne, *]; rfl)) (by first | assumption | rfl | (simp (disch := omega) only [q_upT_self, q_upT_ne, q_upR_self, q_upR_nea, q_upR_nk, s_T_lo, s_T_hi, s_R_ne, *]; done) | (simp (disch := omega) only [q_upT_self, q_upT_ne, q_upR_self, q_upR_nea, q_upR_nk, s_T_lo, s_T_hi, s_R_ne, *]; rfl)) ?_
        refine q_iload d_Terms_takeOver_45 rfl ?_
        refine q_iald d_Terms_takeOver_47 (by first | assumption | rfl | (simp (disch := omega) only [q_upT_self, q_upT_ne, q_upR_self, q_upR_nea, q_upR_nk, s_T_lo, s_T_hi, s_R_ne, *]; done) | (simp (disch := omega) only [q_upT_self, q_upT_ne, q_upR_self, q_upR_nea, q_upR_nk, s_T_lo, s_T_hi, s_R_ne, *]; rfl)) (by first | assumption | exact vp_in_nI (by omega) (by omega)) ?_
        rw [ks.2.2.2.2.2.2.2.2.2.2.2.2 q s hs3]
        exact after _ _ rfl rfl
  refine q_C.of (ls0 := [some (.ref te), some (.ref ar), some (.ref t), some (.int (p_b fw)), none, none, none]) (by decide) rfl (by decide) (Nat.le_of_ble_eq_true rfl) rfl ?_
  rw [← hQ]
  cases fw with
  | true =>
    have hb : (s_in true st).length = st.nb := List.length_range
    refine q_iload_n d_Terms_takeOver_0 rfl rfl ?_
    refine q_if_eq (tgt := 11) d_Terms_takeOver_1 rfl (fun hc => ?_) (fun hc => ?_)
    · exact absurd hc (by decide)
    refine q_aload_n d_Terms_takeOver_4 rfl rfl ?_
    refine q_getI (ci := 7) (fk := 5) d_Terms_takeOver_5 rfl (Nat.le_of_ble_eq_true rfl) w_660 (fun _ _ => rfl) (by first | assumption | rfl | (simp (disch := omega) only [q_upT_self, q_upT_ne, q_upR_self, q_upR_nea, q_upR_nk, s_T_lo, s_T_hi, s_R_ne, *]; done) | (simp (disch := omega) only [q_upT_self, q_upT_ne, q_upR_self, q_upR_nea, q_upR_nk, s_T_lo, s_T_hi, s_R_ne, *]; rfl)) ?_
    rw [ht.2.2.2.2.2.2.1, ← hb]
    refine q_goto (tgt := 16) d_Terms_takeOver_8 rfl ?_
    refine q_istore d_Terms_takeOver_16 (Nat.le_of_ble_eq_true rfl) (by first | exact q_ok0 | exact q_okI rfl | exact q_okR rfl | exact q_okN rfl) rfl ?_
    refine q_iconst (v := nI 0) d_Terms_takeOver_18 (by decide) ?_
    refine q_istore d_Terms_takeOver_19 (Nat.le_of_ble_eq_true rfl) (by first | exact q_ok0 | exact q_okI rfl | exact q_okR rfl | exact q_okN rfl) rfl ?_
    exact load (s_in true st).length 0 I (by omega) (fun _ _ => rfl) (fun a _ ha => absurd ha (Nat.not_lt_zero _))
  | false =>
    refine q_iload_n d_Terms_takeOver_0 rfl rfl ?_
    refine q_if_eq (tgt := 11) d_Terms_takeOver_1 rfl (fun hc => ?_) (fun hc => ?_)
    rotate_left
    · exact absurd rfl hc
    refine q_aload_n d_Terms_takeOver_11 rfl rfl ?_
    refine q_getR (ci := 7) (fk := 6) d_Terms_takeOver_12 rfl (Nat.le_of_ble_eq_true rfl) w_663 (fun _ _ => rfl) (by first | assumption | rfl | (simp (disch := omega) only [q_upT_self, q_upT_ne, q_upR_self, q_upR_nea, q_upR_nk, s_T_lo, s_T_hi, s_R_ne, *]; done) | (simp (disch := omega) only [q_upT_self, q_upT_ne, q_upR_self, q_upR_nea, q_upR_nk, s_T_lo, s_T_hi, s_R_ne, *]; rfl)) (by first | assumption | rfl | (simp (disch := omega) only [q_upT_self, q_upT_ne, q_upR_self, q_upR_nea, q_upR_nk, s_T_lo, s_T_hi, s_R_ne, *]; done) | (simp (disch := omega) only [q_upT_self, q_upT_ne, q_upR_self, q_upR_nea, q_upR_nk, s_T_lo, s_T_hi, s_R_ne, *]; rfl)) ?_
    refine q_alen d_Terms_takeOver_15 (by first | assumption | rfl | (simp (disch := omega) only [q_upT_self, q_upT_ne, q_upR_self, q_upR_nea, q_upR_nk, s_T_lo, s_T_hi, s_R_ne, *]; done) | (simp (disch := omega) only [q_upT_self, q_upT_ne, q_upR_self, q_upR_nea, q_upR_nk, s_T_lo, s_T_hi, s_R_ne, *]; rfl)) (Nat.le_of_ble_eq_true rfl) ?_
    refine q_istore d_Terms_takeOver_16 (Nat.le_of_ble_eq_true rfl) (by first | exact q_ok0 | exact q_okI rfl | exact q_okR rfl | exact q_okN rfl) rfl ?_
    refine q_iconst (v := nI 0) d_Terms_takeOver_18 (by decide) ?_
    refine q_istore d_Terms_takeOver_19 (Nat.le_of_ble_eq_true rfl) (by first | exact q_ok0 | exact q_okI rfl | exact q_okR rfl | exact q_okN rfl) rfl ?_
    exact load (s_in false st).length 0 I (by omega) (fun _ _ => rfl) (fun a _ ha => absurd ha (Nat.not_lt_zero _))
end TOver
