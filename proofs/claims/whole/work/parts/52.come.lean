/-! the reference's fields come and go -/
abbrev M_Model_number : q_M := (⟨"LensPathsModel", "number", "(I)I"⟩, prog_14_method_19_code, 2, (some .int), "LensPathsModel", [], false, 1, 28)
abbrev M_Model_known : q_M := (⟨"LensPathsModel", "known", "(IIIIII)I"⟩, prog_14_method_18_code, 9, (some .int), "LensPathsModel", [], false, 0, 0)
abbrev M_Model_come : q_M := (⟨"LensPathsModel", "come", "(IIII)I"⟩, prog_14_method_12_code, 7, (some .int), "LensPathsModel", [], false, 2, 49)
theorem d_Model_come_0 : decode prog_14_method_12_code 0 = .ok (.aload_n 0, 1) := by decide +kernel
theorem d_Model_come_1 : decode prog_14_method_12_code 1 = .ok (.getfield 108, 3) := by decide +kernel
theorem d_Model_come_4 : decode prog_14_method_12_code 4 = .ok (.istore 5, 2) := by decide +kernel
theorem d_Model_come_6 : decode prog_14_method_12_code 6 = .ok (.aload_n 0, 1) := by decide +kernel
theorem d_Model_come_7 : decode prog_14_method_12_code 7 = .ok (.dup, 1) := by decide +kernel
theorem d_Model_come_8 : decode prog_14_method_12_code 8 = .ok (.getfield 108, 3) := by decide +kernel
theorem d_Model_come_11 : decode prog_14_method_12_code 11 = .ok (.iconst 1, 1) := by decide +kernel
theorem d_Model_come_12 : decode prog_14_method_12_code 12 = .ok (.iadd, 1) := by decide +kernel
theorem d_Model_come_13 : decode prog_14_method_12_code 13 = .ok (.putfield 108, 3) := by decide +kernel
theorem d_Model_come_16 : decode prog_14_method_12_code 16 = .ok (.aload_n 0, 1) := by decide +kernel
theorem d_Model_come_17 : decode prog_14_method_12_code 17 = .ok (.getfield 53, 3) := by decide +kernel
theorem d_Model_come_20 : decode prog_14_method_12_code 20 = .ok (.iload 5, 2) := by decide +kernel
theorem d_Model_come_22 : decode prog_14_method_12_code 22 = .ok (.iload_n 1, 1) := by decide +kernel
theorem d_Model_come_23 : decode prog_14_method_12_code 23 = .ok (.iastore, 1) := by decide +kernel
theorem d_Model_come_24 : decode prog_14_method_12_code 24 = .ok (.aload_n 0, 1) := by decide +kernel
theorem d_Model_come_25 : decode prog_14_method_12_code 25 = .ok (.getfield 56, 3) := by decide +kernel
theorem d_Model_come_28 : decode prog_14_method_12_code 28 = .ok (.iload 5, 2) := by decide +kernel
theorem d_Model_come_30 : decode prog_14_method_12_code 30 = .ok (.iload_n 2, 1) := by decide +kernel
theorem d_Model_come_31 : decode prog_14_method_12_code 31 = .ok (.iastore, 1) := by decide +kernel
theorem d_Model_come_32 : decode prog_14_method_12_code 32 = .ok (.aload_n 0, 1) := by decide +kernel
theorem d_Model_come_33 : decode prog_14_method_12_code 33 = .ok (.getfield 59, 3) := by decide +kernel
theorem d_Model_come_36 : decode prog_14_method_12_code 36 = .ok (.iload 5, 2) := by decide +kernel
theorem d_Model_come_38 : decode prog_14_method_12_code 38 = .ok (.iload_n 3, 1) := by decide +kernel
theorem d_Model_come_39 : decode prog_14_method_12_code 39 = .ok (.iastore, 1) := by decide +kernel
theorem d_Model_come_40 : decode prog_14_method_12_code 40 = .ok (.aload_n 0, 1) := by decide +kernel
theorem d_Model_come_41 : decode prog_14_method_12_code 41 = .ok (.getfield 62, 3) := by decide +kernel
theorem d_Model_come_44 : decode prog_14_method_12_code 44 = .ok (.iload 5, 2) := by decide +kernel
theorem d_Model_come_46 : decode prog_14_method_12_code 46 = .ok (.iload 4, 2) := by decide +kernel
theorem d_Model_come_48 : decode prog_14_method_12_code 48 = .ok (.iastore, 1) := by decide +kernel
theorem d_Model_come_49 : decode prog_14_method_12_code 49 = .ok (.iconst 0, 1) := by decide +kernel
theorem d_Model_come_50 : decode prog_14_method_12_code 50 = .ok (.istore 6, 2) := by decide +kernel
theorem d_Model_come_52 : decode prog_14_method_12_code 52 = .ok (.iload 6, 2) := by decide +kernel
theorem d_Model_come_54 : decode prog_14_method_12_code 54 = .ok (.bipush 7, 2) := by decide +kernel
theorem d_Model_come_56 : decode prog_14_method_12_code 56 = .ok (.if_icmp .ge 23, 3) := by decide +kernel
theorem d_Model_come_59 : decode prog_14_method_12_code 59 = .ok (.aload_n 0, 1) := by decide +kernel
theorem d_Model_come_60 : decode prog_14_method_12_code 60 = .ok (.getfield 65, 3) := by decide +kernel
theorem d_Model_come_63 : decode prog_14_method_12_code 63 = .ok (.bipush 7, 2) := by decide +kernel
theorem d_Model_come_65 : decode prog_14_method_12_code 65 = .ok (.iload 5, 2) := by decide +kernel
theorem d_Model_come_67 : decode prog_14_method_12_code 67 = .ok (.imul, 1) := by decide +kernel
theorem d_Model_come_68 : decode prog_14_method_12_code 68 = .ok (.iload 6, 2) := by decide +kernel
theorem d_Model_come_70 : decode prog_14_method_12_code 70 = .ok (.iadd, 1) := by decide +kernel
theorem d_Model_come_71 : decode prog_14_method_12_code 71 = .ok (.iconst 0, 1) := by decide +kernel
theorem d_Model_come_72 : decode prog_14_method_12_code 72 = .ok (.iastore, 1) := by decide +kernel
theorem d_Model_come_73 : decode prog_14_method_12_code 73 = .ok (.iinc 6 1, 3) := by decide +kernel
theorem d_Model_come_76 : decode prog_14_method_12_code 76 = .ok (.goto (-24), 3) := by decide +kernel
theorem d_Model_come_79 : decode prog_14_method_12_code 79 = .ok (.iload_n 2, 1) := by decide +kernel
theorem d_Model_come_80 : decode prog_14_method_12_code 80 = .ok (.ifCond .ne 32, 3) := by decide +kernel
theorem d_Model_come_83 : decode prog_14_method_12_code 83 = .ok (.aload_n 0, 1) := by decide +kernel
theorem d_Model_come_84 : decode prog_14_method_12_code 84 = .ok (.getfield 65, 3) := by decide +kernel
theorem d_Model_come_87 : decode prog_14_method_12_code 87 = .ok (.bipush 7, 2) := by decide +kernel
theorem d_Model_come_89 : decode prog_14_method_12_code 89 = .ok (.iload 5, 2) := by decide +kernel
theorem d_Model_come_91 : decode prog_14_method_12_code 91 = .ok (.imul, 1) := by decide +kernel
theorem d_Model_come_92 : decode prog_14_method_12_code 92 = .ok (.iconst 1, 1) := by decide +kernel
theorem d_Model_come_93 : decode prog_14_method_12_code 93 = .ok (.iastore, 1) := by decide +kernel
theorem d_Model_come_94 : decode prog_14_method_12_code 94 = .ok (.aload_n 0, 1) := by decide +kernel
theorem d_Model_come_95 : decode prog_14_method_12_code 95 = .ok (.getfield 65, 3) := by decide +kernel
theorem d_Model_come_98 : decode prog_14_method_12_code 98 = .ok (.bipush 7, 2) := by decide +kernel
theorem d_Model_come_100 : decode prog_14_method_12_code 100 = .ok (.iload 5, 2) := by decide +kernel
theorem d_Model_come_102 : decode prog_14_method_12_code 102 = .ok (.imul, 1) := by decide +kernel
theorem d_Model_come_103 : decode prog_14_method_12_code 103 = .ok (.iconst 1, 1) := by decide +kernel
theorem d_Model_come_104 : decode prog_14_method_12_code 104 = .ok (.iadd, 1) := by decide +kernel
theorem d_Model_come_105 : decode prog_14_method_12_code 105 = .ok (.iload_n 3, 1) := by decide +kernel
theorem d_Model_come_106 : decode prog_14_method_12_code 106 = .ok (.iload 4, 2) := by decide +kernel
theorem d_Model_come_108 : decode prog_14_method_12_code 108 = .ok (.invokestatic 115, 3) := by decide +kernel
theorem d_Model_come_111 : decode prog_14_method_12_code 111 = .ok (.iastore, 1) := by decide +kernel
theorem d_Model_come_112 : decode prog_14_method_12_code 112 = .ok (.aload_n 0, 1) := by decide +kernel
theorem d_Model_come_113 : decode prog_14_method_12_code 113 = .ok (.getfield 68, 3) := by decide +kernel
theorem d_Model_come_116 : decode prog_14_method_12_code 116 = .ok (.iload 5, 2) := by decide +kernel
theorem d_Model_come_118 : decode prog_14_method_12_code 118 = .ok (.aload_n 0, 1) := by decide +kernel
theorem d_Model_come_119 : decode prog_14_method_12_code 119 = .ok (.getfield 118, 3) := by decide +kernel
theorem d_Model_come_122 : decode prog_14_method_12_code 122 = .ok (.iconst 2, 1) := by decide +kernel
theorem d_Model_come_123 : decode prog_14_method_12_code 123 = .ok (.if_icmp .eq 7, 3) := by decide +kernel
theorem d_Model_come_126 : decode prog_14_method_12_code 126 = .ok (.iconst 0, 1) := by decide +kernel
theorem d_Model_come_127 : decode prog_14_method_12_code 127 = .ok (.goto 30, 3) := by decide +kernel
theorem d_Model_come_130 : decode prog_14_method_12_code 130 = .ok (.iload_n 2, 1) := by decide +kernel
theorem d_Model_come_131 : decode prog_14_method_12_code 131 = .ok (.ifCond .ne 16, 3) := by decide +kernel
theorem d_Model_come_134 : decode prog_14_method_12_code 134 = .ok (.aload_n 0, 1) := by decide +kernel
theorem d_Model_come_135 : decode prog_14_method_12_code 135 = .ok (.iload_n 3, 1) := by decide +kernel
theorem d_Model_come_136 : decode prog_14_method_12_code 136 = .ok (.iload 4, 2) := by decide +kernel
theorem d_Model_come_138 : decode prog_14_method_12_code 138 = .ok (.invokestatic 115, 3) := by decide +kernel
theorem d_Model_come_141 : decode prog_14_method_12_code 141 = .ok (.invokevirtual 121, 3) := by decide +kernel
theorem d_Model_come_144 : decode prog_14_method_12_code 144 = .ok (.goto 13, 3) := by decide +kernel
theorem d_Model_come_147 : decode prog_14_method_12_code 147 = .ok (.aload_n 0, 1) := by decide +kernel
theorem d_Model_come_148 : decode prog_14_method_12_code 148 = .ok (.iconst 2, 1) := by decide +kernel
theorem d_Model_come_149 : decode prog_14_method_12_code 149 = .ok (.iconst 0, 1) := by decide +kernel
theorem d_Model_come_150 : decode prog_14_method_12_code 150 = .ok (.iconst 0, 1) := by decide +kernel
theorem d_Model_come_151 : decode prog_14_method_12_code 151 = .ok (.iconst 0, 1) := by decide +kernel
theorem d_Model_come_152 : decode prog_14_method_12_code 152 = .ok (.iconst 0, 1) := by decide +kernel
theorem d_Model_come_153 : decode prog_14_method_12_code 153 = .ok (.iconst 0, 1) := by decide +kernel
theorem d_Model_come_154 : decode prog_14_method_12_code 154 = .ok (.invokevirtual 124, 3) := by decide +kernel
theorem d_Model_come_157 : decode prog_14_method_12_code 157 = .ok (.iastore, 1) := by decide +kernel
theorem d_Model_come_158 : decode prog_14_method_12_code 158 = .ok (.iload 5, 2) := by decide +kernel
theorem d_Model_come_160 : decode prog_14_method_12_code 160 = .ok (.ireturn, 1) := by decide +kernel
abbrev M_Model_go : q_M := (⟨"LensPathsModel", "go", "(I)V"⟩, prog_14_method_13_code, 2, none, "LensPathsModel", [], false, 1, 24)
theorem d_Model_go_0 : decode prog_14_method_13_code 0 = .ok (.aload_n 0, 1) := by decide +kernel
theorem d_Model_go_1 : decode prog_14_method_13_code 1 = .ok (.dup, 1) := by decide +kernel
theorem d_Model_go_2 : decode prog_14_method_13_code 2 = .ok (.getfield 108, 3) := by decide +kernel
theorem d_Model_go_5 : decode prog_14_method_13_code 5 = .ok (.iconst 1, 1) := by decide +kernel
theorem d_Model_go_6 : decode prog_14_method_13_code 6 = .ok (.isub, 1) := by decide +kernel
theorem d_Model_go_7 : decode prog_14_method_13_code 7 = .ok (.putfield 108, 3) := by decide +kernel
theorem d_Model_go_10 : decode prog_14_method_13_code 10 = .ok (.aload_n 0, 1) := by decide +kernel
theorem d_Model_go_11 : decode prog_14_method_13_code 11 = .ok (.getfield 53, 3) := by decide +kernel
theorem d_Model_go_14 : decode prog_14_method_13_code 14 = .ok (.iload_n 1, 1) := by decide +kernel
theorem d_Model_go_15 : decode prog_14_method_13_code 15 = .ok (.aload_n 0, 1) := by decide +kernel
theorem d_Model_go_16 : decode prog_14_method_13_code 16 = .ok (.getfield 53, 3) := by decide +kernel
theorem d_Model_go_19 : decode prog_14_method_13_code 19 = .ok (.aload_n 0, 1) := by decide +kernel
theorem d_Model_go_20 : decode prog_14_method_13_code 20 = .ok (.getfield 108, 3) := by decide +kernel
theorem d_Model_go_23 : decode prog_14_method_13_code 23 = .ok (.iaload, 1) := by decide +kernel
theorem d_Model_go_24 : decode prog_14_method_13_code 24 = .ok (.iastore, 1) := by decide +kernel
theorem d_Model_go_25 : decode prog_14_method_13_code 25 = .ok (.aload_n 0, 1) := by decide +kernel
theorem d_Model_go_26 : decode prog_14_method_13_code 26 = .ok (.getfield 56, 3) := by decide +kernel
theorem d_Model_go_29 : decode prog_14_method_13_code 29 = .ok (.iload_n 1, 1) := by decide +kernel
theorem d_Model_go_30 : decode prog_14_method_13_code 30 = .ok (.aload_n 0, 1) := by decide +kernel
theorem d_Model_go_31 : decode prog_14_method_13_code 31 = .ok (.getfield 56, 3) := by decide +kernel
theorem d_Model_go_34 : decode prog_14_method_13_code 34 = .ok (.aload_n 0, 1) := by decide +kernel
theorem d_Model_go_35 : decode prog_14_method_13_code 35 = .ok (.getfield 108, 3) := by decide +kernel
theorem d_Model_go_38 : decode prog_14_method_13_code 38 = .ok (.iaload, 1) := by decide +kernel
theorem d_Model_go_39 : decode prog_14_method_13_code 39 = .ok (.iastore, 1) := by decide +kernel
theorem d_Model_go_40 : decode prog_14_method_13_code 40 = .ok (.aload_n 0, 1) := by decide +kernel
theorem d_Model_go_41 : decode prog_14_method_13_code 41 = .ok (.getfield 59, 3) := by decide +kernel
theorem d_Model_go_44 : decode prog_14_method_13_code 44 = .ok (.iload_n 1, 1) := by decide +kernel
theorem d_Model_go_45 : decode prog_14_method_13_code 45 = .ok (.aload_n 0, 1) := by decide +kernel
theorem d_Model_go_46 : decode prog_14_method_13_code 46 = .ok (.getfield 59, 3) := by decide +kernel
theorem d_Model_go_49 : decode prog_14_method_13_code 49 = .ok (.aload_n 0, 1) := by decide +kernel
theorem d_Model_go_50 : decode prog_14_method_13_code 50 = .ok (.getfield 108, 3) := by decide +kernel
theorem d_Model_go_53 : decode prog_14_method_13_code 53 = .ok (.iaload, 1) := by decide +kernel
theorem d_Model_go_54 : decode prog_14_method_13_code 54 = .ok (.iastore, 1) := by decide +kernel
theorem d_Model_go_55 : decode prog_14_method_13_code 55 = .ok (.aload_n 0, 1) := by decide +kernel
theorem d_Model_go_56 : decode prog_14_method_13_code 56 = .ok (.getfield 62, 3) := by decide +kernel
theorem d_Model_go_59 : decode prog_14_method_13_code 59 = .ok (.iload_n 1, 1) := by decide +kernel
theorem d_Model_go_60 : decode prog_14_method_13_code 60 = .ok (.aload_n 0, 1) := by decide +kernel
theorem d_Model_go_61 : decode prog_14_method_13_code 61 = .ok (.getfield 62, 3) := by decide +kernel
theorem d_Model_go_64 : decode prog_14_method_13_code 64 = .ok (.aload_n 0, 1) := by decide +kernel
theorem d_Model_go_65 : decode prog_14_method_13_code 65 = .ok (.getfield 108, 3) := by decide +kernel
theorem d_Model_go_68 : decode prog_14_method_13_code 68 = .ok (.iaload, 1) := by decide +kernel
theorem d_Model_go_69 : decode prog_14_method_13_code 69 = .ok (.iastore, 1) := by decide +kernel
theorem d_Model_go_70 : decode prog_14_method_13_code 70 = .ok (.aload_n 0, 1) := by decide +kernel
theorem d_Model_go_71 : decode prog_14_method_13_code 71 = .ok (.getfield 68, 3) := by decide +kernel
theorem d_Model_go_74 : decode prog_14_method_13_code 74 = .ok (.iload_n 1, 1) := by decide +kernel
theorem d_Model_go_75 : decode prog_14_method_13_code 75 = .ok (.aload_n 0, 1) := by decide +kernel
theorem d_Model_go_76 : decode prog_14_method_13_code 76 = .ok (.getfield 68, 3) := by decide +kernel
theorem d_Model_go_79 : decode prog_14_method_13_code 79 = .ok (.aload_n 0, 1) := by decide +kernel
theorem d_Model_go_80 : decode prog_14_method_13_code 80 = .ok (.getfield 108, 3) := by decide +kernel
theorem d_Model_go_83 : decode prog_14_method_13_code 83 = .ok (.iaload, 1) := by decide +kernel
theorem d_Model_go_84 : decode prog_14_method_13_code 84 = .ok (.iastore, 1) := by decide +kernel
theorem d_Model_go_85 : decode prog_14_method_13_code 85 = .ok (.aload_n 0, 1) := by decide +kernel
theorem d_Model_go_86 : decode prog_14_method_13_code 86 = .ok (.getfield 65, 3) := by decide +kernel
theorem d_Model_go_89 : decode prog_14_method_13_code 89 = .ok (.bipush 7, 2) := by decide +kernel
theorem d_Model_go_91 : decode prog_14_method_13_code 91 = .ok (.aload_n 0, 1) := by decide +kernel
theorem d_Model_go_92 : decode prog_14_method_13_code 92 = .ok (.getfield 108, 3) := by decide +kernel
theorem d_Model_go_95 : decode prog_14_method_13_code 95 = .ok (.imul, 1) := by decide +kernel
theorem d_Model_go_96 : decode prog_14_method_13_code 96 = .ok (.aload_n 0, 1) := by decide +kernel
theorem d_Model_go_97 : decode prog_14_method_13_code 97 = .ok (.getfield 65, 3) := by decide +kernel
theorem d_Model_go_100 : decode prog_14_method_13_code 100 = .ok (.bipush 7, 2) := by decide +kernel
theorem d_Model_go_102 : decode prog_14_method_13_code 102 = .ok (.iload_n 1, 1) := by decide +kernel
theorem d_Model_go_103 : decode prog_14_method_13_code 103 = .ok (.imul, 1) := by decide +kernel
theorem d_Model_go_104 : decode prog_14_method_13_code 104 = .ok (.invokestatic 128, 3) := by decide +kernel
theorem d_Model_go_107 : decode prog_14_method_13_code 107 = .ok (.return_, 1) := by decide +kernel
abbrev M_Model_take : q_M := (⟨"LensPathsModel", "take", "(I)V"⟩, prog_14_method_17_code, 3, none, "LensPathsModel", [], false, 3, 75)
theorem d_Model_take_0 : decode prog_14_method_17_code 0 = .ok (.aload_n 0, 1) := by decide +kernel
theorem d_Model_take_1 : decode prog_14_method_17_code 1 = .ok (.iconst 0, 1) := by decide +kernel
theorem d_Model_take_2 : decode prog_14_method_17_code 2 = .ok (.putfield 108, 3) := by decide +kernel
theorem d_Model_take_5 : decode prog_14_method_17_code 5 = .ok (.iconst 0, 1) := by decide +kernel
theorem d_Model_take_6 : decode prog_14_method_17_code 6 = .ok (.istore_n 2, 1) := by decide +kernel
theorem d_Model_take_7 : decode prog_14_method_17_code 7 = .ok (.iload_n 2, 1) := by decide +kernel
theorem d_Model_take_8 : decode prog_14_method_17_code 8 = .ok (.aload_n 0, 1) := by decide +kernel
theorem d_Model_take_9 : decode prog_14_method_17_code 9 = .ok (.getfield 13, 3) := by decide +kernel
theorem d_Model_take_12 : decode prog_14_method_17_code 12 = .ok (.iload_n 1, 1) := by decide +kernel
theorem d_Model_take_13 : decode prog_14_method_17_code 13 = .ok (.iaload, 1) := by decide +kernel
theorem d_Model_take_14 : decode prog_14_method_17_code 14 = .ok (.if_icmp .ge 58, 3) := by decide +kernel
theorem d_Model_take_17 : decode prog_14_method_17_code 17 = .ok (.aload_n 0, 1) := by decide +kernel
theorem d_Model_take_18 : decode prog_14_method_17_code 18 = .ok (.aload_n 0, 1) := by decide +kernel
theorem d_Model_take_19 : decode prog_14_method_17_code 19 = .ok (.getfield 17, 3) := by decide +kernel
theorem d_Model_take_22 : decode prog_14_method_17_code 22 = .ok (.bipush 24, 2) := by decide +kernel
theorem d_Model_take_24 : decode prog_14_method_17_code 24 = .ok (.iload_n 1, 1) := by decide +kernel
theorem d_Model_take_25 : decode prog_14_method_17_code 25 = .ok (.imul, 1) := by decide +kernel
theorem d_Model_take_26 : decode prog_14_method_17_code 26 = .ok (.iload_n 2, 1) := by decide +kernel
theorem d_Model_take_27 : decode prog_14_method_17_code 27 = .ok (.iadd, 1) := by decide +kernel
theorem d_Model_take_28 : decode prog_14_method_17_code 28 = .ok (.iaload, 1) := by decide +kernel
theorem d_Model_take_29 : decode prog_14_method_17_code 29 = .ok (.aload_n 0, 1) := by decide +kernel
theorem d_Model_take_30 : decode prog_14_method_17_code 30 = .ok (.getfield 20, 3) := by decide +kernel
theorem d_Model_take_33 : decode prog_14_method_17_code 33 = .ok (.bipush 24, 2) := by decide +kernel
theorem d_Model_take_35 : decode prog_14_method_17_code 35 = .ok (.iload_n 1, 1) := by decide +kernel
theorem d_Model_take_36 : decode prog_14_method_17_code 36 = .ok (.imul, 1) := by decide +kernel
theorem d_Model_take_37 : decode prog_14_method_17_code 37 = .ok (.iload_n 2, 1) := by decide +kernel
theorem d_Model_take_38 : decode prog_14_method_17_code 38 = .ok (.iadd, 1) := by decide +kernel
theorem d_Model_take_39 : decode prog_14_method_17_code 39 = .ok (.iaload, 1) := by decide +kernel
theorem d_Model_take_40 : decode prog_14_method_17_code 40 = .ok (.aload_n 0, 1) := by decide +kernel
theorem d_Model_take_41 : decode prog_14_method_17_code 41 = .ok (.getfield 23, 3) := by decide +kernel
theorem d_Model_take_44 : decode prog_14_method_17_code 44 = .ok (.bipush 24, 2) := by decide +kernel
theorem d_Model_take_46 : decode prog_14_method_17_code 46 = .ok (.iload_n 1, 1) := by decide +kernel
theorem d_Model_take_47 : decode prog_14_method_17_code 47 = .ok (.imul, 1) := by decide +kernel
theorem d_Model_take_48 : decode prog_14_method_17_code 48 = .ok (.iload_n 2, 1) := by decide +kernel
theorem d_Model_take_49 : decode prog_14_method_17_code 49 = .ok (.iadd, 1) := by decide +kernel
theorem d_Model_take_50 : decode prog_14_method_17_code 50 = .ok (.iaload, 1) := by decide +kernel
theorem d_Model_take_51 : decode prog_14_method_17_code 51 = .ok (.aload_n 0, 1) := by decide +kernel
theorem d_Model_take_52 : decode prog_14_method_17_code 52 = .ok (.getfield 26, 3) := by decide +kernel
theorem d_Model_take_55 : decode prog_14_method_17_code 55 = .ok (.bipush 24, 2) := by decide +kernel
theorem d_Model_take_57 : decode prog_14_method_17_code 57 = .ok (.iload_n 1, 1) := by decide +kernel
theorem d_Model_take_58 : decode prog_14_method_17_code 58 = .ok (.imul, 1) := by decide +kernel
theorem d_Model_take_59 : decode prog_14_method_17_code 59 = .ok (.iload_n 2, 1) := by decide +kernel
theorem d_Model_take_60 : decode prog_14_method_17_code 60 = .ok (.iadd, 1) := by decide +kernel
theorem d_Model_take_61 : decode prog_14_method_17_code 61 = .ok (.iaload, 1) := by decide +kernel
theorem d_Model_take_62 : decode prog_14_method_17_code 62 = .ok (.invokevirtual 139, 3) := by decide +kernel
theorem d_Model_take_65 : decode prog_14_method_17_code 65 = .ok (.pop, 1) := by decide +kernel
theorem d_Model_take_66 : decode prog_14_method_17_code 66 = .ok (.iinc 2 1, 3) := by decide +kernel
theorem d_Model_take_69 : decode prog_14_method_17_code 69 = .ok (.goto (-62), 3) := by decide +kernel
theorem d_Model_take_72 : decode prog_14_method_17_code 72 = .ok (.return_, 1) := by decide +kernel
section MCome
variable {g : q_G} {sz : Nat} {T : q_T} {I : q_I} {R : q_R} {J : q_J}
/-- what stays when fields are worked on -/
def m_wk (m : Nat) (I I' : q_I) : Prop := (∀ b, b ≠ m → b < m + 14 ∨ m + 20 ≤ b → I' b = I b) ∧ ∀ i, i ≠ nI 18 → I' m i = I m i
theorem m_wk.refl (m : Nat) (I : q_I) : m_wk m I I := ⟨fun _ _ _ => rfl, fun _ _ => rfl⟩
theorem m_wk.trans {m : Nat} {I I1 I2 : q_I} (h : m_wk m I I1) (h2 : m_wk m I1 I2) : m_wk m I I2 := ⟨fun b h3 h4 => (h2.1 b h3 h4).trans (h.1 b h3 h4), fun i hi => (h2.2 i hi).trans (h.2 i hi)⟩
theorem k_mw.snoc {m : Nat} {M : List KF} {I2 : q_I} {f : KF} (h : k_mw m M I) (hlt : M.length < 26) (e1 : I2 m (nI 18) = nI (M.length + 1)) (e2 : ∀ j, 14 ≤ j → j ≤ 17 → ∀ i, i < M.length → I2 (m + j) (nI i) = I (m + j) (nI i)) (e3 : I2 (m + 14) (nI M.length) = nI (k_path f.1) ∧ I2 (m + 15) (nI M.length) = f.2.1 ∧ I2 (m + 16) (nI M.length) = f.2.2.1 ∧ I2 (m + 17) (nI M.length) = f.2.2.2.1) : k_mw m (M ++ [f]) I2 := by
  refine ⟨by rw [e1, List.length_append]; rfl, by rw [List.length_append]; show M.length + 1 ≤ 26; omega, fun i e he => ?_⟩
  by_cases hi : i < M.length
  · rw [List.getElem?_append_left hi] at he
    obtain ⟨a1, a2, a3, a4⟩ := h.2.2 i e he
    rw [e2 14 (by omega) (by omega) i hi, e2 15 (by omega) (by omega) i hi, e2 16 (by omega) (by omega) i hi, e2 17 (by omega) (by omega) i hi]
    exact ⟨a1, a2, a3, a4⟩
  · have hi2 : i = M.length := by
      have := (List.getElem?_eq_some_iff.mp he).1
      rw [List.length_append] at this
      have h1 : ([f] : List KF).length = 1 := rfl
      omega
    subst hi2
    rw [List.getElem?_append_right (Nat.le_refl _), Nat.sub_self] at he
    have : f = e := by simpa using he
    subst this
    exact e3
/-- what coming does, whatever the term -/
def m_come (m : Nat) (M : List KF) (f : KF) (I I' : q_I) : Prop := k_mw m (M ++ [f]) I' ∧ k_rw (I' (m + 18)) (7 * M.length) (k_dfl f.2.1 f.2.2.1 f.2.2.2.1) ∧ (∀ j, j < 7 * M.length → I' (m + 18) (nI j) = I (m + 18) (nI j)) ∧ ∀ j, j < M.length → I' (m + 19) (nI j) = I (m + 19) (nI j)
set_option maxHeartbeats 1000000 in
theorem c_Model_come0 {m : Nat} {M : List KF} (hL : q_L 11 t_Model m T R) (hM : k_mw m M I) (hlt : M.length < 26) (hmd : I m (nI 27) ≠ nI 2) (f : KF) : q_Ci g M_Model_come [.ref m, .int (nI (k_path f.1)), .int f.2.1, .int f.2.2.1, .int f.2.2.2.1] (sz, T, I, R, J) 0 0 (fun r h' => r = nI M.length ∧ ∃ I' : q_I, h' = (sz, T, I', R, J) ∧ m_wk m I I' ∧ m_come m M f I I') := by
  obtain ⟨l, s, a, b, sl⟩ := f
  have hn := hM.1
  obtain ⟨k, hk⟩ : ∃ k, k = M.length := ⟨_, rfl⟩
  rw [← hk] at hn hlt ⊢
  have fin : ∀ I2 : q_I, m_wk m I I2 → I2 m (nI 18) = nI (k + 1) → (∀ j, 14 ≤ j → j ≤ 17 → ∀ i, i < k → I2 (m + j) (nI i) = I (m + j) (nI i)) → (I2 (m + 14) (nI k) = nI (k_path l) ∧ I2 (m + 15) (nI k) = s ∧ I2 (m + 16) (nI k) = a ∧ I2 (m + 17) (nI k) = b) → I2 (m + 19) = I (m + 19) → k_rw (I2 (m + 18)) (7 * k) (k_dfl s a b) → (∀ j, j < 7 * k → I2 (m + 18) (nI j) = I (m + 18) (nI j)) → ∀ x6, q_V g M_Model_come 0 0 0 0 (sz, T, I2, R, J) (fun o h' => ∃ r : Int32, o = .inl (some (.int r)) ∧ (r = nI k ∧ ∃ I' : q_I, h' = (sz, T, I', R, J) ∧ m_wk m I I' ∧ m_come m M (l, s, a, b, sl) I I')) 112 [some (.ref m), some (.int (nI (k_path l))), some (.int s), some (.int a), some (.int b), some (.int (nI k)), x6] [] := by
    intro I2 w1 w2 w3 w4 w5 w6 w7 x6
    have hmd2 : I2 m (nI 27) ≠ nI 2 := by rw [w1.2 _ (fun z => absurd (q_nI_inj z) (by decide))]; exact hmd
    refine q_aload_n d_Model_come_112 rfl rfl ?_
    refine q_getR (ci := 11) (fk := 24) d_Model_come_113 rfl (Nat.le_of_ble_eq_true rfl) w_1128 (fun _ _ => rfl) hL.1 (hL.2 24 _ _ _ rfl).1 ?_
    refine q_iload d_Model_come_116 rfl ?_
    refine q_aload_n d_Model_come_118 rfl rfl ?_
    refine q_getI (ci := 11) (fk := 27) d_Model_come_119 rfl (Nat.le_of_ble_eq_true rfl) w_1131 (fun _ _ => rfl) hL.1 ?_
    refine q_iconst (v := nI 2) d_Model_come_122 (by decide) ?_
    refine q_icmp_eq (tgt := 130) d_Model_come_123 rfl (fun hc => ?_) (fun hc => ?_)
    · exact absurd hc hmd2
    · refine q_iconst (v := nI 0) d_Model_come_126 (by decide) ?_
      refine q_goto (tgt := 157) d_Model_come_127 rfl ?_
      refine q_iast d_Model_come_157 (hL.2 24 _ _ _ rfl).2 (by first | assumption | exact vp_in_nI (by omega) (by omega)) ?_
      refine q_iload d_Model_come_158 rfl ?_
      refine q_iret d_Model_come_160 rfl (by omega) (by omega) ?_
      refine ⟨_, rfl, rfl, _, rfl, ⟨fun c h1 h2 => ?_, fun i hi => ?_⟩, k_mw.snoc (I := I) hM (by omega) ?_ ?_ ?_, ?_, ?_, ?_⟩
      · funext i
        rw [q_upI_nea (by omega), w1.1 c h1 h2]
      · rw [q_upI_nea (by omega), w1.2 i hi]
      · rw [q_upI_nea (by omega), w2, hk]
      · intro j h1 h2 i hi
        rw [q_upI_nea (by omega), w3 j h1 h2 i (by omega)]
      · rw [← hk]
        rw [q_upI_nea (by omega), q_upI_nea (by omega), q_upI_nea (by omega), q_upI_nea (by omega)]
        exact w4
      · rw [← hk]
        have e : q_upI I2 (m + 19) (nI k) (nI 0) (m + 18) = I2 (m + 18) := by funext i; rw [q_upI_nea (by omega)]
        rw [e]; exact w6
      · intro j hj
        rw [q_upI_nea (by omega)]
        exact w7 j (by omega)
      · intro j hj
        rw [q_upI_nk (by omega), w5]
  have loop : ∀ (j i : Nat) (I1 I2 : q_I), i + j = 7 → m_wk m I I1 → I1 m (nI 18) = nI (k + 1) → (∀ j, 14 ≤ j → j ≤ 17 → ∀ i, i < k → I1 (m + j) (nI i) = I (m + j) (nI i)) → (I1 (m + 14) (nI k) = nI (k_path l) ∧ I1 (m + 15) (nI k) = s ∧ I1 (m + 16) (nI k) = a ∧ I1 (m + 17) (nI k) = b) → I1 (m + 19) = I (m + 19) → I1 (m + 18) = I (m + 18) → (∀ b, b ≠ m + 18 → I2 b = I1 b) → (∀ q, q < i → I2 (m + 18) (nI (7 * k + q)) = 0) → (∀ q, q < 7 * k → I2 (m + 18) (nI q) = I (m + 18) (nI q)) → q_V g M_Model_come 0 0 0 0 (sz, T, I2, R, J) (fun o h' => ∃ r : Int32, o = .inl (some (.int r)) ∧ (r = nI k ∧ ∃ I' : q_I, h' = (sz, T, I', R, J) ∧ m_wk m I I' ∧ m_come m M (l, s, a, b, sl) I I')) 52 [some (.ref m), some (.int (nI (k_path l))), some (.int s), some (.int a), some (.int b), some (.int (nI k)), some (.int (nI i))] [] := by
    intro j
    induction j with
    | zero =>
      intro i I1 I2 hij v1 v2 v3 v4 v5 v6 u1 u2 u3
      obtain rfl : i = 7 := by omega
      have z1 : m_wk m I I2 := ⟨fun c h1 h2 => by rw [u1 c (by omega), v1.1 c h1 h2], fun i hi => by rw [u1 m (by omega), v1.2 i hi]⟩
      have z2 : I2 m (nI 18) = nI (k + 1) := by rw [u1 m (by omega)]; exact v2
      have z3 : ∀ j, 14 ≤ j → j ≤ 17 → ∀ i, i < k → I2 (m + j) (nI i) = I (m + j) (nI i) := fun j h1 h2 i hi => by rw [u1 (m + j) (by omega)]; exact v3 j h1 h2 i hi
      have z4 : I2 (m + 14) (nI k) = nI (k_path l) ∧ I2 (m + 15) (nI k) = s ∧ I2 (m + 16) (nI k) = a ∧ I2 (m + 17) (nI k) = b := by
        rw [u1 (m + 14) (by omega), u1 (m + 15) (by omega), u1 (m + 16) (by omega), u1 (m + 17) (by omega)]; exact v4
      have z5 : I2 (m + 19) = I (m + 19) := by rw [u1 (m + 19) (by omega)]; exact v5
      refine q_iload d_Model_come_52 rfl ?_
      refine q_bipush (v := nI 7) d_Model_come_54 (by decide) ?_
      refine q_icmp_ge (tgt := 79) d_Model_come_56 rfl (fun hc => ?_) (fun hc => ?_)
      · refine q_iload_n d_Model_come_79 rfl rfl ?_
        refine q_if_ne (tgt := 112) d_Model_come_80 rfl (fun hc => ?_) (fun hc => ?_)
        · have hs : ¬ s = 0 := hc
          refine fin I2 z1 z2 z3 z4 z5 ?_ u3 _
          rw [k_dfl, if_neg hs]
          exact ⟨by decide, by have := u2 0 (by omega); rw [Nat.add_zero] at this; exact this, fun i x hx => by cases hx⟩
        · have hs : s = 0 := by have := hc; simpa using this
          refine q_aload_n d_Model_come_83 rfl rfl ?_
          refine q_getR (ci := 11) (fk := 23) d_Model_come_84 rfl (Nat.le_of_ble_eq_true rfl) w_1127 (fun _ _ => rfl) hL.1 (hL.2 23 _ _ _ rfl).1 ?_
          refine q_bipush (v := nI 7) d_Model_come_87 (by decide) ?_
          refine q_iload d_Model_come_89 rfl ?_
          first | refine q_imulN d_Model_come_91 ?_ | refine q_imul d_Model_come_91 ?_
          refine q_iconst (v := nI 1) d_Model_come_92 (by decide) ?_
          refine q_iast d_Model_come_93 (hL.2 23 _ _ _ rfl).2 (by first | assumption | exact vp_in_nI (by omega) (by omega)) ?_
          refine q_aload_n d_Model_come_94 rfl rfl ?_
          refine q_getR (ci := 11) (fk := 23) d_Model_come_95 rfl (Nat.le_of_ble_eq_true rfl) w_1127 (fun _ _ => rfl) hL.1 (hL.2 23 _ _ _ rfl).1 ?_
          refine q_bipush (v := nI 7) d_Model_come_98 (by decide) ?_
          refine q_iload d_Model_come_100 rfl ?_
          first | refine q_imulN d_Model_come_102 ?_ | refine q_imul d_Model_come_102 ?_
          refine q_iconst (v := nI 1) d_Model_come_103 (by decide) ?_
          first | refine q_iaddN d_Model_come_104 ?_ | refine q_iadd d_Model_come_104 ?_
          refine q_iload_n d_Model_come_105 rfl rfl ?_
          refine q_iload d_Model_come_106 rfl ?_
          refine q_callSi (M2 := M_Model_nearest) d_Model_come_108 ⟨(Nat.le_of_ble_eq_true rfl), (Nat.le_of_ble_eq_true rfl), w_1240, w_10, ⟨by decide, by decide⟩, show _ = some 2 by decide +kernel⟩ w_1238 w_1239 rfl (Nat.le_of_ble_eq_true rfl) (by omega) (by omega) (c_Model_nearest a b) ?_
          rintro _ _ ⟨rfl, rfl⟩
          refine q_iast d_Model_come_111 (hL.2 23 _ _ _ rfl).2 (by first | assumption | exact vp_in_nI (by omega) (by omega)) ?_
          have o : ∀ c, c ≠ m + 18 → q_upI (q_upI I2 (m + 18) (nI (7 * k)) (nI 1)) (m + 18) (nI (7 * k + 1)) (p_near a b) c = I2 c := fun c hc => by funext i; rw [q_upI_nea hc, q_upI_nea hc]
          refine fin _ ⟨fun c h1 h2 => by rw [o c (by omega), z1.1 c h1 h2], fun i hi => by rw [o m (by omega), z1.2 i hi]⟩ (by rw [o m (by omega)]; exact z2) (fun j h1 h2 i hi => by rw [o (m + j) (by omega)]; exact z3 j h1 h2 i hi) (by rw [o (m + 14) (by omega), o (m + 15) (by omega), o (m + 16) (by omega), o (m + 17) (by omega)]; exact z4) (by rw [o (m + 19) (by omega)]; exact z5) ?_ ?_ _
          · rw [k_dfl, if_pos hs]
            exact k_rw_wn _ _ _ _ (by omega)
          · intro q hq
            rw [q_upI_nk (by omega), q_upI_nk (by omega)]
            exact u3 q hq
      · exact absurd (Int32.le_refl _) hc
    | succ j ih =>
      intro i I1 I2 hij v1 v2 v3 v4 v5 v6 u1 u2 u3
      refine q_iload d_Model_come_52 rfl ?_
      refine q_bipush (v := nI 7) d_Model_come_54 (by decide) ?_
      refine q_icmp_ge (tgt := 79) d_Model_come_56 rfl (fun hc => ?_) (fun hc => ?_)
      · rw [nI_leI (by omega) (by omega)] at hc
        omega
      · refine q_aload_n d_Model_come_59 rfl rfl ?_
        refine q_getR (ci := 11) (fk := 23) d_Model_come_60 rfl (Nat.le_of_ble_eq_true rfl) w_1127 (fun _ _ => rfl) hL.1 (hL.2 23 _ _ _ rfl).1 ?_
        refine q_bipush (v := nI 7) d_Model_come_63 (by decide) ?_
        refine q_iload d_Model_come_65 rfl ?_
        first | refine q_imulN d_Model_come_67 ?_ | refine q_imul d_Model_come_67 ?_
        refine q_iload d_Model_come_68 rfl ?_
        first | refine q_iaddN d_Model_come_70 ?_ | refine q_iadd d_Model_come_70 ?_
        refine q_iconst (v := nI 0) d_Model_come_71 (by decide) ?_
        refine q_iast d_Model_come_72 (hL.2 23 _ _ _ rfl).2 (by first | assumption | exact vp_in_nI (by omega) (by omega)) ?_
        first | refine q_iincN d_Model_come_73 rfl (Nat.le_of_ble_eq_true rfl) (by first | exact q_ok0 | exact q_okI rfl | exact q_okR rfl | exact q_okN rfl) rfl ?_ | refine q_iinc d_Model_come_73 rfl rfl (Nat.le_of_ble_eq_true rfl) (by first | exact q_ok0 | exact q_okI rfl | exact q_okR rfl | exact q_okN rfl) rfl ?_
        refine q_goto (tgt := 52) d_Model_come_76 rfl ?_
        refine ih (i + 1) I1 _ (by omega) v1 v2 v3 v4 v5 v6 (fun c hc => ?_) (fun q hq => ?_) (fun q hq => ?_)
        · funext z
          rw [q_upI_nea hc, u1 c hc]
        · by_cases hqi : q = i
          · rw [hqi, q_upI_self]; rfl
          · rw [q_upI_nk (by omega)]; exact u2 q (by omega)
        · rw [q_upI_nk (by omega)]; exact u3 q hq
  refine q_C.of (ls0 := [some (.ref m), some (.int (nI (k_path l))), some (.int s), some (.int a), some (.int b), none, none]) (by decide) rfl (by decide) (Nat.le_of_ble_eq_true rfl) rfl ?_
  refine q_aload_n d_Model_come_0 rfl rfl ?_
  refine q_getI (ci := 11) (fk := 18) d_Model_come_1 rfl (Nat.le_of_ble_eq_true rfl) w_1122 (fun _ _ => rfl) hL.1 ?_
  rw [hn]
  refine q_istore d_Model_come_4 (Nat.le_of_ble_eq_true rfl) (by first | exact q_ok0 | exact q_okI rfl | exact q_okR rfl | exact q_okN rfl) rfl ?_
  refine q_aload_n d_Model_come_6 rfl rfl ?_
  refine q_dup d_Model_come_7 rfl ?_
  refine q_getI (ci := 11) (fk := 18) d_Model_come_8 rfl (Nat.le_of_ble_eq_true rfl) w_1122 (fun _ _ => rfl) hL.1 ?_
  rw [hn]
  refine q_iconst (v := nI 1) d_Model_come_11 (by decide) ?_
  first | refine q_iaddN d_Model_come_12 ?_ | refine q_iadd d_Model_come_12 ?_
  refine q_putI (ci := 11) (fk := 18) d_Model_come_13 rfl (Nat.le_of_ble_eq_true rfl) w_1122 (Or.inl rfl) (fun _ _ => rfl) rfl rfl hL.1 ?_
  refine q_aload_n d_Model_come_16 rfl rfl ?_
  refine q_getR (ci := 11) (fk := 19) d_Model_come_17 rfl (Nat.le_of_ble_eq_true rfl) w_1123 (fun _ _ => rfl) hL.1 (hL.2 19 _ _ _ rfl).1 ?_
  refine q_iload d_Model_come_20 rfl ?_
  refine q_iload_n d_Model_come_22 rfl rfl ?_
  refine q_iast d_Model_come_23 (hL.2 19 _ _ _ rfl).2 (by first | assumption | exact vp_in_nI (by omega) (by omega)) ?_
  refine q_aload_n d_Model_come_24 rfl rfl ?_
  refine q_getR (ci := 11) (fk := 20) d_Model_come_25 rfl (Nat.le_of_ble_eq_true rfl) w_1124 (fun _ _ => rfl) hL.1 (hL.2 20 _ _ _ rfl).1 ?_
  refine q_iload d_Model_come_28 rfl ?_
  refine q_iload_n d_Model_come_30 rfl rfl ?_
  refine q_iast d_Model_come_31 (hL.2 20 _ _ _ rfl).2 (by first | assumption | exact vp_in_nI (by omega) (by omega)) ?_
  refine q_aload_n d_Model_come_32 rfl rfl ?_
  refine q_getR (ci := 11) (fk := 21) d_Model_come_33 rfl (Nat.le_of_ble_eq_true rfl) w_1125 (fun _ _ => rfl) hL.1 (hL.2 21 _ _ _ rfl).1 ?_
  refine q_iload d_Model_come_36 rfl ?_
  refine q_iload_n d_Model_come_38 rfl rfl ?_
  refine q_iast d_Model_come_39 (hL.2 21 _ _ _ rfl).2 (by first | assumption | exact vp_in_nI (by omega) (by omega)) ?_
  refine q_aload_n d_Model_come_40 rfl rfl ?_
  refine q_getR (ci := 11) (fk := 22) d_Model_come_41 rfl (Nat.le_of_ble_eq_true rfl) w_1126 (fun _ _ => rfl) hL.1 (hL.2 22 _ _ _ rfl).1 ?_
  refine q_iload d_Model_come_44 rfl ?_
  refine q_iload d_Model_come_46 rfl ?_
  refine q_iast d_Model_come_48 (hL.2 22 _ _ _ rfl).2 (by first | assumption | exact vp_in_nI (by omega) (by omega)) ?_
  refine q_iconst (v := nI 0) d_Model_come_49 (by decide) ?_
  refine q_istore d_Model_come_50 (Nat.le_of_ble_eq_true rfl) (by first | exact q_ok0 | exact q_okI rfl | exact q_okR rfl | exact q_okN rfl) rfl ?_
  refine loop 7 0 _ _ (by omega) ⟨fun c h1 h2 => ?_, fun i hi => ?_⟩ ?_ ?_ ⟨?_, ?_, ?_, ?_⟩ ?_ ?_ (fun c hc => rfl) (fun q hq => absurd hq (Nat.not_lt_zero _)) (fun q hq => ?_)
  · funext i
    rw [q_upI_nea (by omega), q_upI_nea (by omega), q_upI_nea (by omega), q_upI_nea (by omega), q_upI_nea (by omega)]
  · rw [q_upI_nea (by omega), q_upI_nea (by omega), q_upI_nea (by omega), q_upI_nea (by omega), q_upI_nei hi]
  · rw [q_upI_nea (by omega), q_upI_nea (by omega), q_upI_nea (by omega), q_upI_nea (by omega), q_upI_self]
  · intro j h1 h2 i hi
    rw [q_upI_nk (by omega), q_upI_nk (by omega), q_upI_nk (by omega), q_upI_nk (by omega), q_upI_nea (by omega)]
  · rw [q_upI_nea (by omega), q_upI_nea (by omega), q_upI_nea (by omega), q_upI_self]
  · rw [q_upI_nea (by omega), q_upI_nea (by omega), q_upI_self]
  · rw [q_upI_nea (by omega), q_upI_self]
  · rw [q_upI_self]
  · funext i
    rw [q_upI_nea (by omega), q_upI_nea (by omega), q_upI_nea (by omega), q_upI_nea (by omega), q_upI_nea (by omega)]
  · funext i
    rw [q_upI_nea (by omega), q_upI_nea (by omega), q_upI_nea (by omega), q_upI_nea (by omega), q_upI_nea (by omega)]
  · rw [q_upI_nea (by omega), q_upI_nea (by omega), q_upI_nea (by omega), q_upI_nea (by omega), q_upI_nea (by omega)]
end MCome
