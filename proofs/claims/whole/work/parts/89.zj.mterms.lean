/-! clash, by the reference: its table of terms -/
theorem d_Model_known_0 : decode prog_14_method_18_code 0 = .ok (.iconst 0, 1) := by decide +kernel
theorem d_Model_known_1 : decode prog_14_method_18_code 1 = .ok (.istore 7, 2) := by decide +kernel
theorem d_Model_known_3 : decode prog_14_method_18_code 3 = .ok (.iload 7, 2) := by decide +kernel
theorem d_Model_known_5 : decode prog_14_method_18_code 5 = .ok (.aload_n 0, 1) := by decide +kernel
theorem d_Model_known_6 : decode prog_14_method_18_code 6 = .ok (.getfield 143, 3) := by decide +kernel
theorem d_Model_known_9 : decode prog_14_method_18_code 9 = .ok (.if_icmp .ge 95, 3) := by decide +kernel
theorem d_Model_known_12 : decode prog_14_method_18_code 12 = .ok (.iconst 5, 1) := by decide +kernel
theorem d_Model_known_13 : decode prog_14_method_18_code 13 = .ok (.iload 7, 2) := by decide +kernel
theorem d_Model_known_15 : decode prog_14_method_18_code 15 = .ok (.imul, 1) := by decide +kernel
theorem d_Model_known_16 : decode prog_14_method_18_code 16 = .ok (.istore 8, 2) := by decide +kernel
theorem d_Model_known_18 : decode prog_14_method_18_code 18 = .ok (.aload_n 0, 1) := by decide +kernel
theorem d_Model_known_19 : decode prog_14_method_18_code 19 = .ok (.getfield 77, 3) := by decide +kernel
theorem d_Model_known_22 : decode prog_14_method_18_code 22 = .ok (.iload 7, 2) := by decide +kernel
theorem d_Model_known_24 : decode prog_14_method_18_code 24 = .ok (.iaload, 1) := by decide +kernel
theorem d_Model_known_25 : decode prog_14_method_18_code 25 = .ok (.iload_n 1, 1) := by decide +kernel
theorem d_Model_known_26 : decode prog_14_method_18_code 26 = .ok (.if_icmp .ne 72, 3) := by decide +kernel
theorem d_Model_known_29 : decode prog_14_method_18_code 29 = .ok (.aload_n 0, 1) := by decide +kernel
theorem d_Model_known_30 : decode prog_14_method_18_code 30 = .ok (.getfield 80, 3) := by decide +kernel
theorem d_Model_known_33 : decode prog_14_method_18_code 33 = .ok (.iload 8, 2) := by decide +kernel
theorem d_Model_known_35 : decode prog_14_method_18_code 35 = .ok (.iaload, 1) := by decide +kernel
theorem d_Model_known_36 : decode prog_14_method_18_code 36 = .ok (.iload_n 2, 1) := by decide +kernel
theorem d_Model_known_37 : decode prog_14_method_18_code 37 = .ok (.if_icmp .ne 61, 3) := by decide +kernel
theorem d_Model_known_40 : decode prog_14_method_18_code 40 = .ok (.aload_n 0, 1) := by decide +kernel
theorem d_Model_known_41 : decode prog_14_method_18_code 41 = .ok (.getfield 80, 3) := by decide +kernel
theorem d_Model_known_44 : decode prog_14_method_18_code 44 = .ok (.iload 8, 2) := by decide +kernel
theorem d_Model_known_46 : decode prog_14_method_18_code 46 = .ok (.iconst 1, 1) := by decide +kernel
theorem d_Model_known_47 : decode prog_14_method_18_code 47 = .ok (.iadd, 1) := by decide +kernel
theorem d_Model_known_48 : decode prog_14_method_18_code 48 = .ok (.iaload, 1) := by decide +kernel
theorem d_Model_known_49 : decode prog_14_method_18_code 49 = .ok (.iload_n 3, 1) := by decide +kernel
theorem d_Model_known_50 : decode prog_14_method_18_code 50 = .ok (.if_icmp .ne 48, 3) := by decide +kernel
theorem d_Model_known_53 : decode prog_14_method_18_code 53 = .ok (.aload_n 0, 1) := by decide +kernel
theorem d_Model_known_54 : decode prog_14_method_18_code 54 = .ok (.getfield 80, 3) := by decide +kernel
theorem d_Model_known_57 : decode prog_14_method_18_code 57 = .ok (.iload 8, 2) := by decide +kernel
theorem d_Model_known_59 : decode prog_14_method_18_code 59 = .ok (.iconst 2, 1) := by decide +kernel
theorem d_Model_known_60 : decode prog_14_method_18_code 60 = .ok (.iadd, 1) := by decide +kernel
theorem d_Model_known_61 : decode prog_14_method_18_code 61 = .ok (.iaload, 1) := by decide +kernel
theorem d_Model_known_62 : decode prog_14_method_18_code 62 = .ok (.iload 4, 2) := by decide +kernel
theorem d_Model_known_64 : decode prog_14_method_18_code 64 = .ok (.if_icmp .ne 34, 3) := by decide +kernel
theorem d_Model_known_67 : decode prog_14_method_18_code 67 = .ok (.aload_n 0, 1) := by decide +kernel
theorem d_Model_known_68 : decode prog_14_method_18_code 68 = .ok (.getfield 80, 3) := by decide +kernel
theorem d_Model_known_71 : decode prog_14_method_18_code 71 = .ok (.iload 8, 2) := by decide +kernel
theorem d_Model_known_73 : decode prog_14_method_18_code 73 = .ok (.iconst 3, 1) := by decide +kernel
theorem d_Model_known_74 : decode prog_14_method_18_code 74 = .ok (.iadd, 1) := by decide +kernel
theorem d_Model_known_75 : decode prog_14_method_18_code 75 = .ok (.iaload, 1) := by decide +kernel
theorem d_Model_known_76 : decode prog_14_method_18_code 76 = .ok (.iload 5, 2) := by decide +kernel
theorem d_Model_known_78 : decode prog_14_method_18_code 78 = .ok (.if_icmp .ne 20, 3) := by decide +kernel
theorem d_Model_known_81 : decode prog_14_method_18_code 81 = .ok (.aload_n 0, 1) := by decide +kernel
theorem d_Model_known_82 : decode prog_14_method_18_code 82 = .ok (.getfield 80, 3) := by decide +kernel
theorem d_Model_known_85 : decode prog_14_method_18_code 85 = .ok (.iload 8, 2) := by decide +kernel
theorem d_Model_known_87 : decode prog_14_method_18_code 87 = .ok (.iconst 4, 1) := by decide +kernel
theorem d_Model_known_88 : decode prog_14_method_18_code 88 = .ok (.iadd, 1) := by decide +kernel
theorem d_Model_known_89 : decode prog_14_method_18_code 89 = .ok (.iaload, 1) := by decide +kernel
theorem d_Model_known_90 : decode prog_14_method_18_code 90 = .ok (.iload 6, 2) := by decide +kernel
theorem d_Model_known_92 : decode prog_14_method_18_code 92 = .ok (.if_icmp .ne 6, 3) := by decide +kernel
theorem d_Model_known_95 : decode prog_14_method_18_code 95 = .ok (.iload 7, 2) := by decide +kernel
theorem d_Model_known_97 : decode prog_14_method_18_code 97 = .ok (.ireturn, 1) := by decide +kernel
theorem d_Model_known_98 : decode prog_14_method_18_code 98 = .ok (.iinc 7 1, 3) := by decide +kernel
theorem d_Model_known_101 : decode prog_14_method_18_code 101 = .ok (.goto (-98), 3) := by decide +kernel
theorem d_Model_known_104 : decode prog_14_method_18_code 104 = .ok (.aload_n 0, 1) := by decide +kernel
theorem d_Model_known_105 : decode prog_14_method_18_code 105 = .ok (.getfield 77, 3) := by decide +kernel
theorem d_Model_known_108 : decode prog_14_method_18_code 108 = .ok (.aload_n 0, 1) := by decide +kernel
theorem d_Model_known_109 : decode prog_14_method_18_code 109 = .ok (.getfield 143, 3) := by decide +kernel
theorem d_Model_known_112 : decode prog_14_method_18_code 112 = .ok (.iload_n 1, 1) := by decide +kernel
theorem d_Model_known_113 : decode prog_14_method_18_code 113 = .ok (.iastore, 1) := by decide +kernel
theorem d_Model_known_114 : decode prog_14_method_18_code 114 = .ok (.aload_n 0, 1) := by decide +kernel
theorem d_Model_known_115 : decode prog_14_method_18_code 115 = .ok (.getfield 80, 3) := by decide +kernel
theorem d_Model_known_118 : decode prog_14_method_18_code 118 = .ok (.iconst 5, 1) := by decide +kernel
theorem d_Model_known_119 : decode prog_14_method_18_code 119 = .ok (.aload_n 0, 1) := by decide +kernel
theorem d_Model_known_120 : decode prog_14_method_18_code 120 = .ok (.getfield 143, 3) := by decide +kernel
theorem d_Model_known_123 : decode prog_14_method_18_code 123 = .ok (.imul, 1) := by decide +kernel
theorem d_Model_known_124 : decode prog_14_method_18_code 124 = .ok (.iload_n 2, 1) := by decide +kernel
theorem d_Model_known_125 : decode prog_14_method_18_code 125 = .ok (.iastore, 1) := by decide +kernel
theorem d_Model_known_126 : decode prog_14_method_18_code 126 = .ok (.aload_n 0, 1) := by decide +kernel
theorem d_Model_known_127 : decode prog_14_method_18_code 127 = .ok (.getfield 80, 3) := by decide +kernel
theorem d_Model_known_130 : decode prog_14_method_18_code 130 = .ok (.iconst 5, 1) := by decide +kernel
theorem d_Model_known_131 : decode prog_14_method_18_code 131 = .ok (.aload_n 0, 1) := by decide +kernel
theorem d_Model_known_132 : decode prog_14_method_18_code 132 = .ok (.getfield 143, 3) := by decide +kernel
theorem d_Model_known_135 : decode prog_14_method_18_code 135 = .ok (.imul, 1) := by decide +kernel
theorem d_Model_known_136 : decode prog_14_method_18_code 136 = .ok (.iconst 1, 1) := by decide +kernel
theorem d_Model_known_137 : decode prog_14_method_18_code 137 = .ok (.iadd, 1) := by decide +kernel
theorem d_Model_known_138 : decode prog_14_method_18_code 138 = .ok (.iload_n 3, 1) := by decide +kernel
theorem d_Model_known_139 : decode prog_14_method_18_code 139 = .ok (.iastore, 1) := by decide +kernel
theorem d_Model_known_140 : decode prog_14_method_18_code 140 = .ok (.aload_n 0, 1) := by decide +kernel
theorem d_Model_known_141 : decode prog_14_method_18_code 141 = .ok (.getfield 80, 3) := by decide +kernel
theorem d_Model_known_144 : decode prog_14_method_18_code 144 = .ok (.iconst 5, 1) := by decide +kernel
theorem d_Model_known_145 : decode prog_14_method_18_code 145 = .ok (.aload_n 0, 1) := by decide +kernel
theorem d_Model_known_146 : decode prog_14_method_18_code 146 = .ok (.getfield 143, 3) := by decide +kernel
theorem d_Model_known_149 : decode prog_14_method_18_code 149 = .ok (.imul, 1) := by decide +kernel
theorem d_Model_known_150 : decode prog_14_method_18_code 150 = .ok (.iconst 2, 1) := by decide +kernel
theorem d_Model_known_151 : decode prog_14_method_18_code 151 = .ok (.iadd, 1) := by decide +kernel
theorem d_Model_known_152 : decode prog_14_method_18_code 152 = .ok (.iload 4, 2) := by decide +kernel
theorem d_Model_known_154 : decode prog_14_method_18_code 154 = .ok (.iastore, 1) := by decide +kernel
theorem d_Model_known_155 : decode prog_14_method_18_code 155 = .ok (.aload_n 0, 1) := by decide +kernel
theorem d_Model_known_156 : decode prog_14_method_18_code 156 = .ok (.getfield 80, 3) := by decide +kernel
theorem d_Model_known_159 : decode prog_14_method_18_code 159 = .ok (.iconst 5, 1) := by decide +kernel
theorem d_Model_known_160 : decode prog_14_method_18_code 160 = .ok (.aload_n 0, 1) := by decide +kernel
theorem d_Model_known_161 : decode prog_14_method_18_code 161 = .ok (.getfield 143, 3) := by decide +kernel
theorem d_Model_known_164 : decode prog_14_method_18_code 164 = .ok (.imul, 1) := by decide +kernel
theorem d_Model_known_165 : decode prog_14_method_18_code 165 = .ok (.iconst 3, 1) := by decide +kernel
theorem d_Model_known_166 : decode prog_14_method_18_code 166 = .ok (.iadd, 1) := by decide +kernel
theorem d_Model_known_167 : decode prog_14_method_18_code 167 = .ok (.iload 5, 2) := by decide +kernel
theorem d_Model_known_169 : decode prog_14_method_18_code 169 = .ok (.iastore, 1) := by decide +kernel
theorem d_Model_known_170 : decode prog_14_method_18_code 170 = .ok (.aload_n 0, 1) := by decide +kernel
theorem d_Model_known_171 : decode prog_14_method_18_code 171 = .ok (.getfield 80, 3) := by decide +kernel
theorem d_Model_known_174 : decode prog_14_method_18_code 174 = .ok (.iconst 5, 1) := by decide +kernel
theorem d_Model_known_175 : decode prog_14_method_18_code 175 = .ok (.aload_n 0, 1) := by decide +kernel
theorem d_Model_known_176 : decode prog_14_method_18_code 176 = .ok (.getfield 143, 3) := by decide +kernel
theorem d_Model_known_179 : decode prog_14_method_18_code 179 = .ok (.imul, 1) := by decide +kernel
theorem d_Model_known_180 : decode prog_14_method_18_code 180 = .ok (.iconst 4, 1) := by decide +kernel
theorem d_Model_known_181 : decode prog_14_method_18_code 181 = .ok (.iadd, 1) := by decide +kernel
theorem d_Model_known_182 : decode prog_14_method_18_code 182 = .ok (.iload 6, 2) := by decide +kernel
theorem d_Model_known_184 : decode prog_14_method_18_code 184 = .ok (.iastore, 1) := by decide +kernel
theorem d_Model_known_185 : decode prog_14_method_18_code 185 = .ok (.aload_n 0, 1) := by decide +kernel
theorem d_Model_known_186 : decode prog_14_method_18_code 186 = .ok (.dup, 1) := by decide +kernel
theorem d_Model_known_187 : decode prog_14_method_18_code 187 = .ok (.getfield 143, 3) := by decide +kernel
theorem d_Model_known_190 : decode prog_14_method_18_code 190 = .ok (.iconst 1, 1) := by decide +kernel
theorem d_Model_known_191 : decode prog_14_method_18_code 191 = .ok (.iadd, 1) := by decide +kernel
theorem d_Model_known_192 : decode prog_14_method_18_code 192 = .ok (.putfield 143, 3) := by decide +kernel
theorem d_Model_known_195 : decode prog_14_method_18_code 195 = .ok (.aload_n 0, 1) := by decide +kernel
theorem d_Model_known_196 : decode prog_14_method_18_code 196 = .ok (.getfield 143, 3) := by decide +kernel
theorem d_Model_known_199 : decode prog_14_method_18_code 199 = .ok (.iconst 1, 1) := by decide +kernel
theorem d_Model_known_200 : decode prog_14_method_18_code 200 = .ok (.isub, 1) := by decide +kernel
theorem d_Model_known_201 : decode prog_14_method_18_code 201 = .ok (.ireturn, 1) := by decide +kernel
theorem d_Model_number_0 : decode prog_14_method_19_code 0 = .ok (.aload_n 0, 1) := by decide +kernel
theorem d_Model_number_1 : decode prog_14_method_19_code 1 = .ok (.iconst 1, 1) := by decide +kernel
theorem d_Model_number_2 : decode prog_14_method_19_code 2 = .ok (.iload_n 1, 1) := by decide +kernel
theorem d_Model_number_3 : decode prog_14_method_19_code 3 = .ok (.iconst 0, 1) := by decide +kernel
theorem d_Model_number_4 : decode prog_14_method_19_code 4 = .ok (.iconst 0, 1) := by decide +kernel
theorem d_Model_number_5 : decode prog_14_method_19_code 5 = .ok (.iconst 0, 1) := by decide +kernel
theorem d_Model_number_6 : decode prog_14_method_19_code 6 = .ok (.iconst 0, 1) := by decide +kernel
theorem d_Model_number_7 : decode prog_14_method_19_code 7 = .ok (.invokevirtual 124, 3) := by decide +kernel
theorem d_Model_number_10 : decode prog_14_method_19_code 10 = .ok (.ireturn, 1) := by decide +kernel
abbrev M_Model_opened : q_M := (⟨"LensPathsModel", "opened", "(I)I"⟩, prog_14_method_35_code, 3, (some .int), "LensPathsModel", [], false, 2, 49)
theorem d_Model_opened_0 : decode prog_14_method_35_code 0 = .ok (.aload_n 0, 1) := by decide +kernel
theorem d_Model_opened_1 : decode prog_14_method_35_code 1 = .ok (.getfield 68, 3) := by decide +kernel
theorem d_Model_opened_4 : decode prog_14_method_35_code 4 = .ok (.iload_n 1, 1) := by decide +kernel
theorem d_Model_opened_5 : decode prog_14_method_35_code 5 = .ok (.iaload, 1) := by decide +kernel
theorem d_Model_opened_6 : decode prog_14_method_35_code 6 = .ok (.istore_n 2, 1) := by decide +kernel
theorem d_Model_opened_7 : decode prog_14_method_35_code 7 = .ok (.aload_n 0, 1) := by decide +kernel
theorem d_Model_opened_8 : decode prog_14_method_35_code 8 = .ok (.getfield 77, 3) := by decide +kernel
theorem d_Model_opened_11 : decode prog_14_method_35_code 11 = .ok (.iload_n 2, 1) := by decide +kernel
theorem d_Model_opened_12 : decode prog_14_method_35_code 12 = .ok (.iaload, 1) := by decide +kernel
theorem d_Model_opened_13 : decode prog_14_method_35_code 13 = .ok (.iconst 3, 1) := by decide +kernel
theorem d_Model_opened_14 : decode prog_14_method_35_code 14 = .ok (.if_icmp .ne 12, 3) := by decide +kernel
theorem d_Model_opened_17 : decode prog_14_method_35_code 17 = .ok (.aload_n 0, 1) := by decide +kernel
theorem d_Model_opened_18 : decode prog_14_method_35_code 18 = .ok (.iload_n 2, 1) := by decide +kernel
theorem d_Model_opened_19 : decode prog_14_method_35_code 19 = .ok (.iconst 0, 1) := by decide +kernel
theorem d_Model_opened_20 : decode prog_14_method_35_code 20 = .ok (.invokevirtual 207, 3) := by decide +kernel
theorem d_Model_opened_23 : decode prog_14_method_35_code 23 = .ok (.goto 45, 3) := by decide +kernel
theorem d_Model_opened_26 : decode prog_14_method_35_code 26 = .ok (.aload_n 0, 1) := by decide +kernel
theorem d_Model_opened_27 : decode prog_14_method_35_code 27 = .ok (.getfield 77, 3) := by decide +kernel
theorem d_Model_opened_30 : decode prog_14_method_35_code 30 = .ok (.iload_n 2, 1) := by decide +kernel
theorem d_Model_opened_31 : decode prog_14_method_35_code 31 = .ok (.iaload, 1) := by decide +kernel
theorem d_Model_opened_32 : decode prog_14_method_35_code 32 = .ok (.iconst 2, 1) := by decide +kernel
theorem d_Model_opened_33 : decode prog_14_method_35_code 33 = .ok (.if_icmp .ne 25, 3) := by decide +kernel
theorem d_Model_opened_36 : decode prog_14_method_35_code 36 = .ok (.aload_n 0, 1) := by decide +kernel
theorem d_Model_opened_37 : decode prog_14_method_35_code 37 = .ok (.aload_n 0, 1) := by decide +kernel
theorem d_Model_opened_38 : decode prog_14_method_35_code 38 = .ok (.getfield 59, 3) := by decide +kernel
theorem d_Model_opened_41 : decode prog_14_method_35_code 41 = .ok (.iload_n 1, 1) := by decide +kernel
theorem d_Model_opened_42 : decode prog_14_method_35_code 42 = .ok (.iaload, 1) := by decide +kernel
theorem d_Model_opened_43 : decode prog_14_method_35_code 43 = .ok (.aload_n 0, 1) := by decide +kernel
theorem d_Model_opened_44 : decode prog_14_method_35_code 44 = .ok (.getfield 62, 3) := by decide +kernel
theorem d_Model_opened_47 : decode prog_14_method_35_code 47 = .ok (.iload_n 1, 1) := by decide +kernel
theorem d_Model_opened_48 : decode prog_14_method_35_code 48 = .ok (.iaload, 1) := by decide +kernel
theorem d_Model_opened_49 : decode prog_14_method_35_code 49 = .ok (.invokestatic 115, 3) := by decide +kernel
theorem d_Model_opened_52 : decode prog_14_method_35_code 52 = .ok (.invokevirtual 121, 3) := by decide +kernel
theorem d_Model_opened_55 : decode prog_14_method_35_code 55 = .ok (.goto 13, 3) := by decide +kernel
theorem d_Model_opened_58 : decode prog_14_method_35_code 58 = .ok (.aload_n 0, 1) := by decide +kernel
theorem d_Model_opened_59 : decode prog_14_method_35_code 59 = .ok (.iconst 4, 1) := by decide +kernel
theorem d_Model_opened_60 : decode prog_14_method_35_code 60 = .ok (.iload_n 2, 1) := by decide +kernel
theorem d_Model_opened_61 : decode prog_14_method_35_code 61 = .ok (.iconst 0, 1) := by decide +kernel
theorem d_Model_opened_62 : decode prog_14_method_35_code 62 = .ok (.iconst 0, 1) := by decide +kernel
theorem d_Model_opened_63 : decode prog_14_method_35_code 63 = .ok (.iconst 0, 1) := by decide +kernel
theorem d_Model_opened_64 : decode prog_14_method_35_code 64 = .ok (.iconst 0, 1) := by decide +kernel
theorem d_Model_opened_65 : decode prog_14_method_35_code 65 = .ok (.invokevirtual 124, 3) := by decide +kernel
theorem d_Model_opened_68 : decode prog_14_method_35_code 68 = .ok (.ireturn, 1) := by decide +kernel
abbrev M_Model_takeTerms : q_M := (⟨"LensPathsModel", "takeTerms", "(I)V"⟩, prog_14_method_77_code, 4, none, "LensPathsModel", [], false, 4, 97)
theorem d_Model_takeTerms_0 : decode prog_14_method_77_code 0 = .ok (.aload_n 0, 1) := by decide +kernel
theorem d_Model_takeTerms_1 : decode prog_14_method_77_code 1 = .ok (.iconst 2, 1) := by decide +kernel
theorem d_Model_takeTerms_2 : decode prog_14_method_77_code 2 = .ok (.putfield 118, 3) := by decide +kernel
theorem d_Model_takeTerms_5 : decode prog_14_method_77_code 5 = .ok (.aload_n 0, 1) := by decide +kernel
theorem d_Model_takeTerms_6 : decode prog_14_method_77_code 6 = .ok (.iload_n 1, 1) := by decide +kernel
theorem d_Model_takeTerms_7 : decode prog_14_method_77_code 7 = .ok (.invokevirtual 237, 3) := by decide +kernel
theorem d_Model_takeTerms_10 : decode prog_14_method_77_code 10 = .ok (.iconst 0, 1) := by decide +kernel
theorem d_Model_takeTerms_11 : decode prog_14_method_77_code 11 = .ok (.istore_n 2, 1) := by decide +kernel
theorem d_Model_takeTerms_12 : decode prog_14_method_77_code 12 = .ok (.iconst 0, 1) := by decide +kernel
theorem d_Model_takeTerms_13 : decode prog_14_method_77_code 13 = .ok (.istore_n 3, 1) := by decide +kernel
theorem d_Model_takeTerms_14 : decode prog_14_method_77_code 14 = .ok (.iload_n 3, 1) := by decide +kernel
theorem d_Model_takeTerms_15 : decode prog_14_method_77_code 15 = .ok (.aload_n 0, 1) := by decide +kernel
theorem d_Model_takeTerms_16 : decode prog_14_method_77_code 16 = .ok (.getfield 108, 3) := by decide +kernel
theorem d_Model_takeTerms_19 : decode prog_14_method_77_code 19 = .ok (.if_icmp .ge 38, 3) := by decide +kernel
theorem d_Model_takeTerms_22 : decode prog_14_method_77_code 22 = .ok (.aload_n 0, 1) := by decide +kernel
theorem d_Model_takeTerms_23 : decode prog_14_method_77_code 23 = .ok (.getfield 56, 3) := by decide +kernel
theorem d_Model_takeTerms_26 : decode prog_14_method_77_code 26 = .ok (.iload_n 3, 1) := by decide +kernel
theorem d_Model_takeTerms_27 : decode prog_14_method_77_code 27 = .ok (.iaload, 1) := by decide +kernel
theorem d_Model_takeTerms_28 : decode prog_14_method_77_code 28 = .ok (.iconst 2, 1) := by decide +kernel
theorem d_Model_takeTerms_29 : decode prog_14_method_77_code 29 = .ok (.if_icmp .ge 22, 3) := by decide +kernel
theorem d_Model_takeTerms_32 : decode prog_14_method_77_code 32 = .ok (.aload_n 0, 1) := by decide +kernel
theorem d_Model_takeTerms_33 : decode prog_14_method_77_code 33 = .ok (.getfield 68, 3) := by decide +kernel
theorem d_Model_takeTerms_36 : decode prog_14_method_77_code 36 = .ok (.iload_n 3, 1) := by decide +kernel
theorem d_Model_takeTerms_37 : decode prog_14_method_77_code 37 = .ok (.aload_n 0, 1) := by decide +kernel
theorem d_Model_takeTerms_38 : decode prog_14_method_77_code 38 = .ok (.iconst 0, 1) := by decide +kernel
theorem d_Model_takeTerms_39 : decode prog_14_method_77_code 39 = .ok (.iload_n 2, 1) := by decide +kernel
theorem d_Model_takeTerms_40 : decode prog_14_method_77_code 40 = .ok (.iconst 0, 1) := by decide +kernel
theorem d_Model_takeTerms_41 : decode prog_14_method_77_code 41 = .ok (.iconst 0, 1) := by decide +kernel
theorem d_Model_takeTerms_42 : decode prog_14_method_77_code 42 = .ok (.iconst 0, 1) := by decide +kernel
theorem d_Model_takeTerms_43 : decode prog_14_method_77_code 43 = .ok (.iconst 0, 1) := by decide +kernel
theorem d_Model_takeTerms_44 : decode prog_14_method_77_code 44 = .ok (.invokevirtual 124, 3) := by decide +kernel
theorem d_Model_takeTerms_47 : decode prog_14_method_77_code 47 = .ok (.iastore, 1) := by decide +kernel
theorem d_Model_takeTerms_48 : decode prog_14_method_77_code 48 = .ok (.iinc 2 1, 3) := by decide +kernel
theorem d_Model_takeTerms_51 : decode prog_14_method_77_code 51 = .ok (.iinc 3 1, 3) := by decide +kernel
theorem d_Model_takeTerms_54 : decode prog_14_method_77_code 54 = .ok (.goto (-40), 3) := by decide +kernel
theorem d_Model_takeTerms_57 : decode prog_14_method_77_code 57 = .ok (.return_, 1) := by decide +kernel
abbrev M_Model_clash : q_M := (⟨"LensPathsModel", "clash", "(I)I"⟩, prog_14_method_78_code, 6, (some .int), "LensPathsModel", [], false, 6, 160)
theorem d_Model_clash_0 : decode prog_14_method_78_code 0 = .ok (.aload_n 0, 1) := by decide +kernel
theorem d_Model_clash_1 : decode prog_14_method_78_code 1 = .ok (.iload_n 1, 1) := by decide +kernel
theorem d_Model_clash_2 : decode prog_14_method_78_code 2 = .ok (.ifCond .lt 15, 3) := by decide +kernel
theorem d_Model_clash_5 : decode prog_14_method_78_code 5 = .ok (.iload_n 1, 1) := by decide +kernel
theorem d_Model_clash_6 : decode prog_14_method_78_code 6 = .ok (.aload_n 0, 1) := by decide +kernel
theorem d_Model_clash_7 : decode prog_14_method_78_code 7 = .ok (.getfield 260, 3) := by decide +kernel
theorem d_Model_clash_10 : decode prog_14_method_78_code 10 = .ok (.if_icmp .ge 7, 3) := by decide +kernel
theorem d_Model_clash_13 : decode prog_14_method_78_code 13 = .ok (.iconst 0, 1) := by decide +kernel
theorem d_Model_clash_14 : decode prog_14_method_78_code 14 = .ok (.goto 4, 3) := by decide +kernel
theorem d_Model_clash_17 : decode prog_14_method_78_code 17 = .ok (.iconst 1, 1) := by decide +kernel
theorem d_Model_clash_18 : decode prog_14_method_78_code 18 = .ok (.putfield 101, 3) := by decide +kernel
theorem d_Model_clash_21 : decode prog_14_method_78_code 21 = .ok (.aload_n 0, 1) := by decide +kernel
theorem d_Model_clash_22 : decode prog_14_method_78_code 22 = .ok (.getfield 101, 3) := by decide +kernel
theorem d_Model_clash_25 : decode prog_14_method_78_code 25 = .ok (.ifCond .le 5, 3) := by decide +kernel
theorem d_Model_clash_28 : decode prog_14_method_78_code 28 = .ok (.iconst 0, 1) := by decide +kernel
theorem d_Model_clash_29 : decode prog_14_method_78_code 29 = .ok (.ireturn, 1) := by decide +kernel
theorem d_Model_clash_30 : decode prog_14_method_78_code 30 = .ok (.aload_n 0, 1) := by decide +kernel
theorem d_Model_clash_31 : decode prog_14_method_78_code 31 = .ok (.getfield 29, 3) := by decide +kernel
theorem d_Model_clash_34 : decode prog_14_method_78_code 34 = .ok (.iload_n 1, 1) := by decide +kernel
theorem d_Model_clash_35 : decode prog_14_method_78_code 35 = .ok (.iaload, 1) := by decide +kernel
theorem d_Model_clash_36 : decode prog_14_method_78_code 36 = .ok (.istore_n 2, 1) := by decide +kernel
theorem d_Model_clash_37 : decode prog_14_method_78_code 37 = .ok (.aload_n 0, 1) := by decide +kernel
theorem d_Model_clash_38 : decode prog_14_method_78_code 38 = .ok (.getfield 32, 3) := by decide +kernel
theorem d_Model_clash_41 : decode prog_14_method_78_code 41 = .ok (.iload_n 1, 1) := by decide +kernel
theorem d_Model_clash_42 : decode prog_14_method_78_code 42 = .ok (.iaload, 1) := by decide +kernel
theorem d_Model_clash_43 : decode prog_14_method_78_code 43 = .ok (.istore_n 3, 1) := by decide +kernel
theorem d_Model_clash_44 : decode prog_14_method_78_code 44 = .ok (.aload_n 0, 1) := by decide +kernel
theorem d_Model_clash_45 : decode prog_14_method_78_code 45 = .ok (.iconst 0, 1) := by decide +kernel
theorem d_Model_clash_46 : decode prog_14_method_78_code 46 = .ok (.putfield 143, 3) := by decide +kernel
theorem d_Model_clash_49 : decode prog_14_method_78_code 49 = .ok (.aload_n 0, 1) := by decide +kernel
theorem d_Model_clash_50 : decode prog_14_method_78_code 50 = .ok (.iload_n 2, 1) := by decide +kernel
theorem d_Model_clash_51 : decode prog_14_method_78_code 51 = .ok (.invokevirtual 314, 3) := by decide +kernel
theorem d_Model_clash_54 : decode prog_14_method_78_code 54 = .ok (.iconst 0, 1) := by decide +kernel
theorem d_Model_clash_55 : decode prog_14_method_78_code 55 = .ok (.istore 4, 2) := by decide +kernel
theorem d_Model_clash_57 : decode prog_14_method_78_code 57 = .ok (.iload 4, 2) := by decide +kernel
theorem d_Model_clash_59 : decode prog_14_method_78_code 59 = .ok (.aload_n 0, 1) := by decide +kernel
theorem d_Model_clash_60 : decode prog_14_method_78_code 60 = .ok (.getfield 35, 3) := by decide +kernel
theorem d_Model_clash_63 : decode prog_14_method_78_code 63 = .ok (.iload_n 1, 1) := by decide +kernel
theorem d_Model_clash_64 : decode prog_14_method_78_code 64 = .ok (.iaload, 1) := by decide +kernel
theorem d_Model_clash_65 : decode prog_14_method_78_code 65 = .ok (.if_icmp .ge 16, 3) := by decide +kernel
theorem d_Model_clash_68 : decode prog_14_method_78_code 68 = .ok (.aload_n 0, 1) := by decide +kernel
theorem d_Model_clash_69 : decode prog_14_method_78_code 69 = .ok (.iload_n 1, 1) := by decide +kernel
theorem d_Model_clash_70 : decode prog_14_method_78_code 70 = .ok (.iload 4, 2) := by decide +kernel
theorem d_Model_clash_72 : decode prog_14_method_78_code 72 = .ok (.invokevirtual 263, 3) := by decide +kernel
theorem d_Model_clash_75 : decode prog_14_method_78_code 75 = .ok (.iinc 4 1, 3) := by decide +kernel
theorem d_Model_clash_78 : decode prog_14_method_78_code 78 = .ok (.goto (-21), 3) := by decide +kernel
theorem d_Model_clash_81 : decode prog_14_method_78_code 81 = .ok (.iconst 0, 1) := by decide +kernel
theorem d_Model_clash_82 : decode prog_14_method_78_code 82 = .ok (.istore 4, 2) := by decide +kernel
theorem d_Model_clash_84 : decode prog_14_method_78_code 84 = .ok (.iload 4, 2) := by decide +kernel
theorem d_Model_clash_86 : decode prog_14_method_78_code 86 = .ok (.aload_n 0, 1) := by decide +kernel
theorem d_Model_clash_87 : decode prog_14_method_78_code 87 = .ok (.getfield 13, 3) := by decide +kernel
theorem d_Model_clash_90 : decode prog_14_method_78_code 90 = .ok (.iload_n 3, 1) := by decide +kernel
theorem d_Model_clash_91 : decode prog_14_method_78_code 91 = .ok (.iaload, 1) := by decide +kernel
theorem d_Model_clash_92 : decode prog_14_method_78_code 92 = .ok (.if_icmp .ge 37, 3) := by decide +kernel
theorem d_Model_clash_95 : decode prog_14_method_78_code 95 = .ok (.aload_n 0, 1) := by decide +kernel
theorem d_Model_clash_96 : decode prog_14_method_78_code 96 = .ok (.getfield 83, 3) := by decide +kernel
theorem d_Model_clash_99 : decode prog_14_method_78_code 99 = .ok (.iload 4, 2) := by decide +kernel
theorem d_Model_clash_101 : decode prog_14_method_78_code 101 = .ok (.aload_n 0, 1) := by decide +kernel
theorem d_Model_clash_102 : decode prog_14_method_78_code 102 = .ok (.getfield 68, 3) := by decide +kernel
theorem d_Model_clash_105 : decode prog_14_method_78_code 105 = .ok (.aload_n 0, 1) := by decide +kernel
theorem d_Model_clash_106 : decode prog_14_method_78_code 106 = .ok (.aload_n 0, 1) := by decide +kernel
theorem d_Model_clash_107 : decode prog_14_method_78_code 107 = .ok (.getfield 17, 3) := by decide +kernel
theorem d_Model_clash_110 : decode prog_14_method_78_code 110 = .ok (.bipush 24, 2) := by decide +kernel
theorem d_Model_clash_112 : decode prog_14_method_78_code 112 = .ok (.iload_n 3, 1) := by decide +kernel
theorem d_Model_clash_113 : decode prog_14_method_78_code 113 = .ok (.imul, 1) := by decide +kernel
theorem d_Model_clash_114 : decode prog_14_method_78_code 114 = .ok (.iload 4, 2) := by decide +kernel
theorem d_Model_clash_116 : decode prog_14_method_78_code 116 = .ok (.iadd, 1) := by decide +kernel
theorem d_Model_clash_117 : decode prog_14_method_78_code 117 = .ok (.iaload, 1) := by decide +kernel
theorem d_Model_clash_118 : decode prog_14_method_78_code 118 = .ok (.invokevirtual 111, 3) := by decide +kernel
theorem d_Model_clash_121 : decode prog_14_method_78_code 121 = .ok (.iaload, 1) := by decide +kernel
theorem d_Model_clash_122 : decode prog_14_method_78_code 122 = .ok (.iastore, 1) := by decide +kernel
theorem d_Model_clash_123 : decode prog_14_method_78_code 123 = .ok (.iinc 4 1, 3) := by decide +kernel
theorem d_Model_clash_126 : decode prog_14_method_78_code 126 = .ok (.goto (-42), 3) := by decide +kernel
theorem d_Model_clash_129 : decode prog_14_method_78_code 129 = .ok (.aload_n 0, 1) := by decide +kernel
theorem d_Model_clash_130 : decode prog_14_method_78_code 130 = .ok (.iload_n 2, 1) := by decide +kernel
theorem d_Model_clash_131 : decode prog_14_method_78_code 131 = .ok (.iload_n 3, 1) := by decide +kernel
theorem d_Model_clash_132 : decode prog_14_method_78_code 132 = .ok (.iload_n 1, 1) := by decide +kernel
theorem d_Model_clash_133 : decode prog_14_method_78_code 133 = .ok (.invokevirtual 308, 3) := by decide +kernel
theorem d_Model_clash_136 : decode prog_14_method_78_code 136 = .ok (.ifCond .ne 5, 3) := by decide +kernel
theorem d_Model_clash_139 : decode prog_14_method_78_code 139 = .ok (.iconst (-1), 1) := by decide +kernel
theorem d_Model_clash_140 : decode prog_14_method_78_code 140 = .ok (.ireturn, 1) := by decide +kernel
theorem d_Model_clash_141 : decode prog_14_method_78_code 141 = .ok (.aload_n 0, 1) := by decide +kernel
theorem d_Model_clash_142 : decode prog_14_method_78_code 142 = .ok (.iload_n 2, 1) := by decide +kernel
theorem d_Model_clash_143 : decode prog_14_method_78_code 143 = .ok (.invokevirtual 314, 3) := by decide +kernel
theorem d_Model_clash_146 : decode prog_14_method_78_code 146 = .ok (.aload_n 0, 1) := by decide +kernel
theorem d_Model_clash_147 : decode prog_14_method_78_code 147 = .ok (.invokevirtual 311, 3) := by decide +kernel
theorem d_Model_clash_150 : decode prog_14_method_78_code 150 = .ok (.iconst 1, 1) := by decide +kernel
theorem d_Model_clash_151 : decode prog_14_method_78_code 151 = .ok (.istore 4, 2) := by decide +kernel
theorem d_Model_clash_153 : decode prog_14_method_78_code 153 = .ok (.iconst 0, 1) := by decide +kernel
theorem d_Model_clash_154 : decode prog_14_method_78_code 154 = .ok (.istore 5, 2) := by decide +kernel
theorem d_Model_clash_156 : decode prog_14_method_78_code 156 = .ok (.iload 5, 2) := by decide +kernel
theorem d_Model_clash_158 : decode prog_14_method_78_code 158 = .ok (.aload_n 0, 1) := by decide +kernel
theorem d_Model_clash_159 : decode prog_14_method_78_code 159 = .ok (.getfield 13, 3) := by decide +kernel
theorem d_Model_clash_162 : decode prog_14_method_78_code 162 = .ok (.iload_n 3, 1) := by decide +kernel
theorem d_Model_clash_163 : decode prog_14_method_78_code 163 = .ok (.iaload, 1) := by decide +kernel
theorem d_Model_clash_164 : decode prog_14_method_78_code 164 = .ok (.if_icmp .ge 68, 3) := by decide +kernel
theorem d_Model_clash_167 : decode prog_14_method_78_code 167 = .ok (.iload 4, 2) := by decide +kernel
theorem d_Model_clash_169 : decode prog_14_method_78_code 169 = .ok (.ifCond .eq 54, 3) := by decide +kernel
theorem d_Model_clash_172 : decode prog_14_method_78_code 172 = .ok (.aload_n 0, 1) := by decide +kernel
theorem d_Model_clash_173 : decode prog_14_method_78_code 173 = .ok (.getfield 20, 3) := by decide +kernel
theorem d_Model_clash_176 : decode prog_14_method_78_code 176 = .ok (.bipush 24, 2) := by decide +kernel
theorem d_Model_clash_178 : decode prog_14_method_78_code 178 = .ok (.iload_n 3, 1) := by decide +kernel
theorem d_Model_clash_179 : decode prog_14_method_78_code 179 = .ok (.imul, 1) := by decide +kernel
theorem d_Model_clash_180 : decode prog_14_method_78_code 180 = .ok (.iload 5, 2) := by decide +kernel
theorem d_Model_clash_182 : decode prog_14_method_78_code 182 = .ok (.iadd, 1) := by decide +kernel
theorem d_Model_clash_183 : decode prog_14_method_78_code 183 = .ok (.iaload, 1) := by decide +kernel
theorem d_Model_clash_184 : decode prog_14_method_78_code 184 = .ok (.iconst 2, 1) := by decide +kernel
theorem d_Model_clash_185 : decode prog_14_method_78_code 185 = .ok (.if_icmp .eq 34, 3) := by decide +kernel
theorem d_Model_clash_188 : decode prog_14_method_78_code 188 = .ok (.aload_n 0, 1) := by decide +kernel
theorem d_Model_clash_189 : decode prog_14_method_78_code 189 = .ok (.getfield 83, 3) := by decide +kernel
theorem d_Model_clash_192 : decode prog_14_method_78_code 192 = .ok (.iload 5, 2) := by decide +kernel
theorem d_Model_clash_194 : decode prog_14_method_78_code 194 = .ok (.iaload, 1) := by decide +kernel
theorem d_Model_clash_195 : decode prog_14_method_78_code 195 = .ok (.aload_n 0, 1) := by decide +kernel
theorem d_Model_clash_196 : decode prog_14_method_78_code 196 = .ok (.getfield 68, 3) := by decide +kernel
theorem d_Model_clash_199 : decode prog_14_method_78_code 199 = .ok (.aload_n 0, 1) := by decide +kernel
theorem d_Model_clash_200 : decode prog_14_method_78_code 200 = .ok (.aload_n 0, 1) := by decide +kernel
theorem d_Model_clash_201 : decode prog_14_method_78_code 201 = .ok (.getfield 17, 3) := by decide +kernel
theorem d_Model_clash_204 : decode prog_14_method_78_code 204 = .ok (.bipush 24, 2) := by decide +kernel
theorem d_Model_clash_206 : decode prog_14_method_78_code 206 = .ok (.iload_n 3, 1) := by decide +kernel
theorem d_Model_clash_207 : decode prog_14_method_78_code 207 = .ok (.imul, 1) := by decide +kernel
theorem d_Model_clash_208 : decode prog_14_method_78_code 208 = .ok (.iload 5, 2) := by decide +kernel
theorem d_Model_clash_210 : decode prog_14_method_78_code 210 = .ok (.iadd, 1) := by decide +kernel
theorem d_Model_clash_211 : decode prog_14_method_78_code 211 = .ok (.iaload, 1) := by decide +kernel
theorem d_Model_clash_212 : decode prog_14_method_78_code 212 = .ok (.invokevirtual 111, 3) := by decide +kernel
theorem d_Model_clash_215 : decode prog_14_method_78_code 215 = .ok (.iaload, 1) := by decide +kernel
theorem d_Model_clash_216 : decode prog_14_method_78_code 216 = .ok (.if_icmp .ne 7, 3) := by decide +kernel
theorem d_Model_clash_219 : decode prog_14_method_78_code 219 = .ok (.iconst 1, 1) := by decide +kernel
theorem d_Model_clash_220 : decode prog_14_method_78_code 220 = .ok (.goto 4, 3) := by decide +kernel
theorem d_Model_clash_223 : decode prog_14_method_78_code 223 = .ok (.iconst 0, 1) := by decide +kernel
theorem d_Model_clash_224 : decode prog_14_method_78_code 224 = .ok (.istore 4, 2) := by decide +kernel
theorem d_Model_clash_226 : decode prog_14_method_78_code 226 = .ok (.iinc 5 1, 3) := by decide +kernel
theorem d_Model_clash_229 : decode prog_14_method_78_code 229 = .ok (.goto (-73), 3) := by decide +kernel
theorem d_Model_clash_232 : decode prog_14_method_78_code 232 = .ok (.iload 4, 2) := by decide +kernel
theorem d_Model_clash_234 : decode prog_14_method_78_code 234 = .ok (.ifCond .eq 7, 3) := by decide +kernel
theorem d_Model_clash_237 : decode prog_14_method_78_code 237 = .ok (.iconst 0, 1) := by decide +kernel
theorem d_Model_clash_238 : decode prog_14_method_78_code 238 = .ok (.goto 4, 3) := by decide +kernel
theorem d_Model_clash_241 : decode prog_14_method_78_code 241 = .ok (.iconst 1, 1) := by decide +kernel
theorem d_Model_clash_242 : decode prog_14_method_78_code 242 = .ok (.ireturn, 1) := by decide +kernel
theorem d_Model_changed_0 : decode prog_14_method_40_code 0 = .ok (.iload_n 2, 1) := by decide +kernel
theorem d_Model_changed_1 : decode prog_14_method_40_code 1 = .ok (.bipush 6, 2) := by decide +kernel
theorem d_Model_changed_3 : decode prog_14_method_40_code 3 = .ok (.if_icmp .ne 119, 3) := by decide +kernel
theorem d_Model_changed_6 : decode prog_14_method_40_code 6 = .ok (.iload_n 3, 1) := by decide +kernel
theorem d_Model_changed_7 : decode prog_14_method_40_code 7 = .ok (.iload 4, 2) := by decide +kernel
theorem d_Model_changed_9 : decode prog_14_method_40_code 9 = .ok (.if_icmp .ne 5, 3) := by decide +kernel
theorem d_Model_changed_12 : decode prog_14_method_40_code 12 = .ok (.iload_n 1, 1) := by decide +kernel
theorem d_Model_changed_13 : decode prog_14_method_40_code 13 = .ok (.ireturn, 1) := by decide +kernel
theorem d_Model_changed_14 : decode prog_14_method_40_code 14 = .ok (.aload_n 0, 1) := by decide +kernel
theorem d_Model_changed_15 : decode prog_14_method_40_code 15 = .ok (.iload_n 1, 1) := by decide +kernel
theorem d_Model_changed_16 : decode prog_14_method_40_code 16 = .ok (.invokevirtual 210, 3) := by decide +kernel
theorem d_Model_changed_19 : decode prog_14_method_40_code 19 = .ok (.ifCond .eq 13, 3) := by decide +kernel
theorem d_Model_changed_22 : decode prog_14_method_40_code 22 = .ok (.aload_n 0, 1) := by decide +kernel
theorem d_Model_changed_23 : decode prog_14_method_40_code 23 = .ok (.iload_n 1, 1) := by decide +kernel
theorem d_Model_changed_24 : decode prog_14_method_40_code 24 = .ok (.iconst 0, 1) := by decide +kernel
theorem d_Model_changed_25 : decode prog_14_method_40_code 25 = .ok (.invokevirtual 207, 3) := by decide +kernel
theorem d_Model_changed_28 : decode prog_14_method_40_code 28 = .ok (.i2l, 1) := by decide +kernel
theorem d_Model_changed_29 : decode prog_14_method_40_code 29 = .ok (.goto 4, 3) := by decide +kernel
theorem d_Model_changed_32 : decode prog_14_method_40_code 32 = .ok (.lconst 0, 1) := by decide +kernel
theorem d_Model_changed_33 : decode prog_14_method_40_code 33 = .ok (.lstore 8, 2) := by decide +kernel
theorem d_Model_changed_35 : decode prog_14_method_40_code 35 = .ok (.aload_n 0, 1) := by decide +kernel
theorem d_Model_changed_36 : decode prog_14_method_40_code 36 = .ok (.iload_n 1, 1) := by decide +kernel
theorem d_Model_changed_37 : decode prog_14_method_40_code 37 = .ok (.invokevirtual 210, 3) := by decide +kernel
theorem d_Model_changed_40 : decode prog_14_method_40_code 40 = .ok (.ifCond .eq 47, 3) := by decide +kernel
theorem d_Model_changed_43 : decode prog_14_method_40_code 43 = .ok (.aload_n 0, 1) := by decide +kernel
theorem d_Model_changed_44 : decode prog_14_method_40_code 44 = .ok (.iload 5, 2) := by decide +kernel
theorem d_Model_changed_46 : decode prog_14_method_40_code 46 = .ok (.ifCond .eq 18, 3) := by decide +kernel
theorem d_Model_changed_49 : decode prog_14_method_40_code 49 = .ok (.iload_n 3, 1) := by decide +kernel
theorem d_Model_changed_50 : decode prog_14_method_40_code 50 = .ok (.i2l, 1) := by decide +kernel
theorem d_Model_changed_51 : decode prog_14_method_40_code 51 = .ok (.lload 8, 2) := by decide +kernel
theorem d_Model_changed_53 : decode prog_14_method_40_code 53 = .ok (.lmul, 1) := by decide +kernel
theorem d_Model_changed_54 : decode prog_14_method_40_code 54 = .ok (.iload 4, 2) := by decide +kernel
theorem d_Model_changed_56 : decode prog_14_method_40_code 56 = .ok (.i2l, 1) := by decide +kernel
theorem d_Model_changed_57 : decode prog_14_method_40_code 57 = .ok (.invokestatic 184, 3) := by decide +kernel
theorem d_Model_changed_60 : decode prog_14_method_40_code 60 = .ok (.l2i, 1) := by decide +kernel
theorem d_Model_changed_61 : decode prog_14_method_40_code 61 = .ok (.goto 22, 3) := by decide +kernel
theorem d_Model_changed_64 : decode prog_14_method_40_code 64 = .ok (.iload 4, 2) := by decide +kernel
theorem d_Model_changed_66 : decode prog_14_method_40_code 66 = .ok (.i2l, 1) := by decide +kernel
theorem d_Model_changed_67 : decode prog_14_method_40_code 67 = .ok (.lload 8, 2) := by decide +kernel
theorem d_Model_changed_69 : decode prog_14_method_40_code 69 = .ok (.lmul, 1) := by decide +kernel
theorem d_Model_changed_70 : decode prog_14_method_40_code 70 = .ok (.iload_n 3, 1) := by decide +kernel
theorem d_Model_changed_71 : decode prog_14_method_40_code 71 = .ok (.i2l, 1) := by decide +kernel
theorem d_Model_changed_72 : decode prog_14_method_40_code 72 = .ok (.invokestatic 184, 3) := by decide +kernel
theorem d_Model_changed_75 : decode prog_14_method_40_code 75 = .ok (.iload 6, 2) := by decide +kernel
theorem d_Model_changed_77 : decode prog_14_method_40_code 77 = .ok (.iload 7, 2) := by decide +kernel
theorem d_Model_changed_79 : decode prog_14_method_40_code 79 = .ok (.invokestatic 218, 3) := by decide +kernel
theorem d_Model_changed_82 : decode prog_14_method_40_code 82 = .ok (.l2i, 1) := by decide +kernel
theorem d_Model_changed_83 : decode prog_14_method_40_code 83 = .ok (.invokevirtual 121, 3) := by decide +kernel
theorem d_Model_changed_86 : decode prog_14_method_40_code 86 = .ok (.ireturn, 1) := by decide +kernel
theorem d_Model_changed_87 : decode prog_14_method_40_code 87 = .ok (.iload 5, 2) := by decide +kernel
theorem d_Model_changed_89 : decode prog_14_method_40_code 89 = .ok (.ifCond .eq 18, 3) := by decide +kernel
theorem d_Model_changed_92 : decode prog_14_method_40_code 92 = .ok (.aload_n 0, 1) := by decide +kernel
theorem d_Model_changed_93 : decode prog_14_method_40_code 93 = .ok (.bipush 8, 2) := by decide +kernel
theorem d_Model_changed_95 : decode prog_14_method_40_code 95 = .ok (.iload_n 1, 1) := by decide +kernel
theorem d_Model_changed_96 : decode prog_14_method_40_code 96 = .ok (.iload_n 3, 1) := by decide +kernel
theorem d_Model_changed_97 : decode prog_14_method_40_code 97 = .ok (.iload 4, 2) := by decide +kernel
theorem d_Model_changed_99 : decode prog_14_method_40_code 99 = .ok (.iconst 0, 1) := by decide +kernel
theorem d_Model_changed_100 : decode prog_14_method_40_code 100 = .ok (.iconst 0, 1) := by decide +kernel
theorem d_Model_changed_101 : decode prog_14_method_40_code 101 = .ok (.invokevirtual 124, 3) := by decide +kernel
theorem d_Model_changed_104 : decode prog_14_method_40_code 104 = .ok (.goto 17, 3) := by decide +kernel
theorem d_Model_changed_107 : decode prog_14_method_40_code 107 = .ok (.aload_n 0, 1) := by decide +kernel
theorem d_Model_changed_108 : decode prog_14_method_40_code 108 = .ok (.bipush 9, 2) := by decide +kernel
theorem d_Model_changed_110 : decode prog_14_method_40_code 110 = .ok (.iload_n 1, 1) := by decide +kernel
theorem d_Model_changed_111 : decode prog_14_method_40_code 111 = .ok (.iload_n 3, 1) := by decide +kernel
theorem d_Model_changed_112 : decode prog_14_method_40_code 112 = .ok (.iload 4, 2) := by decide +kernel
theorem d_Model_changed_114 : decode prog_14_method_40_code 114 = .ok (.iload 6, 2) := by decide +kernel
theorem d_Model_changed_116 : decode prog_14_method_40_code 116 = .ok (.iload 7, 2) := by decide +kernel
theorem d_Model_changed_118 : decode prog_14_method_40_code 118 = .ok (.invokevirtual 124, 3) := by decide +kernel
theorem d_Model_changed_121 : decode prog_14_method_40_code 121 = .ok (.ireturn, 1) := by decide +kernel
theorem d_Model_changed_122 : decode prog_14_method_40_code 122 = .ok (.iload 5, 2) := by decide +kernel
theorem d_Model_changed_124 : decode prog_14_method_40_code 124 = .ok (.ifCond .ne 5, 3) := by decide +kernel
theorem d_Model_changed_127 : decode prog_14_method_40_code 127 = .ok (.iload_n 1, 1) := by decide +kernel
theorem d_Model_changed_128 : decode prog_14_method_40_code 128 = .ok (.ireturn, 1) := by decide +kernel
theorem d_Model_changed_129 : decode prog_14_method_40_code 129 = .ok (.iload_n 2, 1) := by decide +kernel
theorem d_Model_changed_130 : decode prog_14_method_40_code 130 = .ok (.bipush 7, 2) := by decide +kernel
theorem d_Model_changed_132 : decode prog_14_method_40_code 132 = .ok (.if_icmp .ne 52, 3) := by decide +kernel
theorem d_Model_changed_135 : decode prog_14_method_40_code 135 = .ok (.aload_n 0, 1) := by decide +kernel
theorem d_Model_changed_136 : decode prog_14_method_40_code 136 = .ok (.iload_n 1, 1) := by decide +kernel
theorem d_Model_changed_137 : decode prog_14_method_40_code 137 = .ok (.invokevirtual 210, 3) := by decide +kernel
theorem d_Model_changed_140 : decode prog_14_method_40_code 140 = .ok (.ifCond .eq 31, 3) := by decide +kernel
theorem d_Model_changed_143 : decode prog_14_method_40_code 143 = .ok (.aload_n 0, 1) := by decide +kernel
theorem d_Model_changed_144 : decode prog_14_method_40_code 144 = .ok (.aload_n 0, 1) := by decide +kernel
theorem d_Model_changed_145 : decode prog_14_method_40_code 145 = .ok (.iload_n 1, 1) := by decide +kernel
theorem d_Model_changed_146 : decode prog_14_method_40_code 146 = .ok (.iconst 0, 1) := by decide +kernel
theorem d_Model_changed_147 : decode prog_14_method_40_code 147 = .ok (.invokevirtual 207, 3) := by decide +kernel
theorem d_Model_changed_150 : decode prog_14_method_40_code 150 = .ok (.iload_n 3, 1) := by decide +kernel
theorem d_Model_changed_151 : decode prog_14_method_40_code 151 = .ok (.if_icmp .ne 8, 3) := by decide +kernel
theorem d_Model_changed_154 : decode prog_14_method_40_code 154 = .ok (.iload 4, 2) := by decide +kernel
theorem d_Model_changed_156 : decode prog_14_method_40_code 156 = .ok (.goto 9, 3) := by decide +kernel
theorem d_Model_changed_159 : decode prog_14_method_40_code 159 = .ok (.aload_n 0, 1) := by decide +kernel
theorem d_Model_changed_160 : decode prog_14_method_40_code 160 = .ok (.iload_n 1, 1) := by decide +kernel
theorem d_Model_changed_161 : decode prog_14_method_40_code 161 = .ok (.iconst 0, 1) := by decide +kernel
theorem d_Model_changed_162 : decode prog_14_method_40_code 162 = .ok (.invokevirtual 207, 3) := by decide +kernel
theorem d_Model_changed_165 : decode prog_14_method_40_code 165 = .ok (.invokevirtual 121, 3) := by decide +kernel
theorem d_Model_changed_168 : decode prog_14_method_40_code 168 = .ok (.goto 15, 3) := by decide +kernel
theorem d_Model_changed_171 : decode prog_14_method_40_code 171 = .ok (.aload_n 0, 1) := by decide +kernel
theorem d_Model_changed_172 : decode prog_14_method_40_code 172 = .ok (.bipush 10, 2) := by decide +kernel
theorem d_Model_changed_174 : decode prog_14_method_40_code 174 = .ok (.iload_n 1, 1) := by decide +kernel
theorem d_Model_changed_175 : decode prog_14_method_40_code 175 = .ok (.iload_n 3, 1) := by decide +kernel
theorem d_Model_changed_176 : decode prog_14_method_40_code 176 = .ok (.iload 4, 2) := by decide +kernel
theorem d_Model_changed_178 : decode prog_14_method_40_code 178 = .ok (.iconst 0, 1) := by decide +kernel
theorem d_Model_changed_179 : decode prog_14_method_40_code 179 = .ok (.iconst 0, 1) := by decide +kernel
theorem d_Model_changed_180 : decode prog_14_method_40_code 180 = .ok (.invokevirtual 124, 3) := by decide +kernel
theorem d_Model_changed_183 : decode prog_14_method_40_code 183 = .ok (.ireturn, 1) := by decide +kernel
theorem d_Model_changed_184 : decode prog_14_method_40_code 184 = .ok (.aload_n 0, 1) := by decide +kernel
theorem d_Model_changed_185 : decode prog_14_method_40_code 185 = .ok (.getfield 77, 3) := by decide +kernel
theorem d_Model_changed_188 : decode prog_14_method_40_code 188 = .ok (.iload_n 1, 1) := by decide +kernel
theorem d_Model_changed_189 : decode prog_14_method_40_code 189 = .ok (.iaload, 1) := by decide +kernel
theorem d_Model_changed_190 : decode prog_14_method_40_code 190 = .ok (.iconst 2, 1) := by decide +kernel
theorem d_Model_changed_191 : decode prog_14_method_40_code 191 = .ok (.if_icmp .eq 24, 3) := by decide +kernel
theorem d_Model_changed_194 : decode prog_14_method_40_code 194 = .ok (.aload_n 0, 1) := by decide +kernel
theorem d_Model_changed_195 : decode prog_14_method_40_code 195 = .ok (.getfield 77, 3) := by decide +kernel
theorem d_Model_changed_198 : decode prog_14_method_40_code 198 = .ok (.iload_n 1, 1) := by decide +kernel
theorem d_Model_changed_199 : decode prog_14_method_40_code 199 = .ok (.iaload, 1) := by decide +kernel
theorem d_Model_changed_200 : decode prog_14_method_40_code 200 = .ok (.iconst 3, 1) := by decide +kernel
theorem d_Model_changed_201 : decode prog_14_method_40_code 201 = .ok (.if_icmp .eq 14, 3) := by decide +kernel
theorem d_Model_changed_204 : decode prog_14_method_40_code 204 = .ok (.aload_n 0, 1) := by decide +kernel
theorem d_Model_changed_205 : decode prog_14_method_40_code 205 = .ok (.getfield 77, 3) := by decide +kernel
theorem d_Model_changed_208 : decode prog_14_method_40_code 208 = .ok (.iload_n 1, 1) := by decide +kernel
theorem d_Model_changed_209 : decode prog_14_method_40_code 209 = .ok (.iaload, 1) := by decide +kernel
theorem d_Model_changed_210 : decode prog_14_method_40_code 210 = .ok (.bipush 11, 2) := by decide +kernel
theorem d_Model_changed_212 : decode prog_14_method_40_code 212 = .ok (.if_icmp .ne 7, 3) := by decide +kernel
theorem d_Model_changed_215 : decode prog_14_method_40_code 215 = .ok (.iload_n 1, 1) := by decide +kernel
theorem d_Model_changed_216 : decode prog_14_method_40_code 216 = .ok (.goto 14, 3) := by decide +kernel
theorem d_Model_changed_219 : decode prog_14_method_40_code 219 = .ok (.aload_n 0, 1) := by decide +kernel
theorem d_Model_changed_220 : decode prog_14_method_40_code 220 = .ok (.bipush 11, 2) := by decide +kernel
theorem d_Model_changed_222 : decode prog_14_method_40_code 222 = .ok (.iload_n 1, 1) := by decide +kernel
theorem d_Model_changed_223 : decode prog_14_method_40_code 223 = .ok (.iconst 0, 1) := by decide +kernel
theorem d_Model_changed_224 : decode prog_14_method_40_code 224 = .ok (.iconst 0, 1) := by decide +kernel
theorem d_Model_changed_225 : decode prog_14_method_40_code 225 = .ok (.iconst 0, 1) := by decide +kernel
theorem d_Model_changed_226 : decode prog_14_method_40_code 226 = .ok (.iconst 0, 1) := by decide +kernel
theorem d_Model_changed_227 : decode prog_14_method_40_code 227 = .ok (.invokevirtual 124, 3) := by decide +kernel
theorem d_Model_changed_230 : decode prog_14_method_40_code 230 = .ok (.ireturn, 1) := by decide +kernel
section MTerms
variable {g : q_G} {sz m : Nat} {T : q_T} {I : q_I} {R : q_R} {J : q_J} {tb : List KT} {t u : KT} {M : List KF}
def z_r1 (tb : List KT) (t : KT) : Int32 := if z_k t = 7 then nI (tb.idxOf (z_c2 t)) else z_a t
def z_r2 (t : KT) : Int32 := if z_k t = 7 then z_a t else z_b t
def m_en (m : Nat) (tb : List KT) (i : Nat) (t : KT) (I : q_I) : Prop := I (m + 22) (nI i) = nI (z_k t) ∧ I (m + 23) (nI (5 * i)) = z_e1 tb t ∧ I (m + 23) (nI (5 * i + 1)) = z_r1 tb t ∧ I (m + 23) (nI (5 * i + 2)) = z_r2 t ∧ I (m + 23) (nI (5 * i + 3)) = z_lo t ∧ I (m + 23) (nI (5 * i + 4)) = z_hi t
def m_tb (m : Nat) (tb : List KT) (I : q_I) : Prop := I m (nI 29) = nI tb.length ∧ z_tok tb ∧ ∀ i t, tb[i]? = some t → m_en m tb i t I
theorem z_inj2 (h31 : tb.length < 2 ^ 31) (ht : z_ok t) (hu : z_ok u) (ct : z_cl tb t) (cu : z_cl tb u) (hk : z_k t = z_k u) (h1 : z_e1 tb t = z_e1 tb u) (h2 : z_r1 tb t = z_r1 tb u) (h3 : z_r2 t = z_r2 u) (hl : z_lo t = z_lo u) (hh : z_hi t = z_hi u) : t = u := by
  unfold z_r1 at h2
  unfold z_r2 at h3
  by_cases k7 : z_k t = 7
  · have k7' : z_k u = 7 := by rw [← hk]; exact k7
    rw [if_pos k7, if_pos k7'] at h2 h3
    refine z_inj h31 ht hu ct cu hk h1 ?_ h3 ?_ hl hh
    · unfold z_e2
      rw [if_pos k7, if_pos k7']; exact h2
    · have e1 : z_b t = 0 := by rw [ht.2.2.2 k7]; rfl
      have e2 : z_b u = 0 := by rw [hu.2.2.2 k7']; rfl
      rw [e1, e2]
  · have k7' : ¬ z_k u = 7 := by rw [← hk]; exact k7
    rw [if_neg k7, if_neg k7'] at h2 h3
    refine z_inj h31 ht hu ct cu hk h1 ?_ h2 h3 hl hh
    unfold z_e2
    rw [if_neg k7, if_neg k7']
theorem z_ex.r1 {tb' : List KT} (h : z_ex tb tb') (ht : z_cl tb t) : z_r1 tb' t = z_r1 tb t := by
  unfold z_r1
  by_cases k7 : z_k t = 7
  · rw [if_pos k7, if_pos k7, h.ix (ht.2 k7)]
  · rw [if_neg k7, if_neg k7]
def m_fk (m : Nat) (I I' : q_I) : Prop := (∀ b, b ≠ m → b ≠ m + 22 → b ≠ m + 23 → I' b = I b) ∧ ∀ i, i ≠ nI 29 → I' m i = I m i
theorem m_fk.refl : m_fk m I I := ⟨fun _ _ _ _ => rfl, fun _ _ => rfl⟩
def m_rt2 (m : Nat) (tb : List KT) (t : KT) (n sz : Nat) (T : q_T) (I : q_I) (R : q_R) (J : q_J) (r : Int32) (h' : q_H) : Prop := ∃ (I' : q_I) (tb' : List KT), h' = (sz, T, I', R, J) ∧ m_fk m I I' ∧ m_tb m tb' I' ∧ z_ex tb tb' ∧ tb'.length ≤ tb.length + n ∧ t ∈ tb' ∧ r = nI (tb'.idxOf t)
theorem m_rt2.old (h : m_tb m tb I) (ht : t ∈ tb) {n : Nat} : m_rt2 m tb t n sz T I R J (nI (tb.idxOf t)) (sz, T, I, R, J) := ⟨I, tb, rfl, m_fk.refl, h, z_ex.refl tb, by omega, ht, rfl⟩
theorem m_tb.at (h : m_tb m tb I) (ht : t ∈ tb) : m_en m tb (tb.idxOf t) t I := h.2.2 _ t (z_ix ht)
set_option maxHeartbeats 1000000 in
theorem c_Model_known (hL : q_L 11 t_Model m T R) (h : m_tb m tb I) (hlen : tb.length < 1024) (ht : z_ok t) (hcl : z_cl tb t) : q_Ci g M_Model_known [.ref m, .int (nI (z_k t)), .int (z_e1 tb t), .int (z_r1 tb t), .int (z_r2 t), .int (z_lo t), .int (z_hi t)] (sz, T, I, R, J) 0 0 (m_rt2 m tb t 1 sz T I R J) := by
  obtain ⟨Q, hQ⟩ : ∃ Q : q_O → q_H → Prop, Q = (fun o h' => ∃ r : Int32, o = .inl (some (.int r)) ∧ m_rt2 m tb t 1 sz T I R J r h') := ⟨_, rfl⟩
  have hn := h.1
  refine q_C.of (ls0 := [some (.ref m), some (.int (nI (z_k t))), some (.int (z_e1 tb t)), some (.int (z_r1 tb t)), some (.int (z_r2 t)), some (.int (z_lo t)), some (.int (z_hi t)), none, none]) (by decide) rfl (by decide) (Nat.le_of_ble_eq_true rfl) rfl ?_
  rw [← hQ]
  have loop : ∀ (j i : Nat) (l8 : Option Value), i + j = tb.length → (∀ a u, a < i → tb[a]? = some u → u ≠ t) → q_V g M_Model_known 0 0 0 0 (sz, T, I, R, J) Q 3 [some (.ref m), some (.int (nI (z_k t))), some (.int (z_e1 tb t)), some (.int (z_r1 tb t)), some (.int (z_r2 t)), some (.int (z_lo t)), some (.int (z_hi t)), some (.int (nI i)), l8] [] := by
    intro j
    induction j with
    | zero =>
      intro i l8 hi hno
      obtain rfl : i = tb.length := by omega
      have hnm : t ∉ tb := fun hm => by
        obtain ⟨a, ha⟩ := List.getElem?_of_mem hm
        exact hno a t (List.getElem?_eq_some_iff.mp ha).1 ha rfl
      have ead : z_add tb t = tb ++ [t] := by unfold z_add; rw [if_neg hnm]
      refine q_iload d_Model_known_3 rfl ?_
      refine q_aload_n d_Model_known_5 rfl rfl ?_
      refine q_getI (ci := 11) (fk := 29) d_Model_known_6 rfl (Nat.le_of_ble_eq_true rfl) w_1133 (fun _ _ => rfl) hL.1 ?_
      rw [hn]
      refine q_icmp_ge (tgt := 104) d_Model_known_9 rfl (fun hc => ?_) (fun hc => ?_)
      rotate_left
      · exact absurd (Int32.le_refl _) hc
      refine q_aload_n d_Model_known_104 rfl rfl ?_
      refine q_getR (ci := 11) (fk := 30) d_Model_known_105 rfl (Nat.le_of_ble_eq_true rfl) w_1134 (fun _ _ => rfl) hL.1 (hL.2 30 _ _ _ rfl).1 ?_
      refine q_aload_n d_Model_known_108 rfl rfl ?_
      refine q_getI (ci := 11) (fk := 29) d_Model_known_109 rfl (Nat.le_of_ble_eq_true rfl) w_1133 (fun _ _ => rfl) hL.1 ?_
      rw [hn]
      refine q_iload_n d_Model_known_112 rfl rfl ?_
      refine q_iast d_Model_known_113 (hL.2 30 _ _ _ rfl).2 (by first | assumption | exact vp_in_nI (by omega) (by omega)) ?_
      refine q_aload_n d_Model_known_114 rfl rfl ?_
      refine q_getR (ci := 11) (fk := 31) d_Model_known_115 rfl (Nat.le_of_ble_eq_true rfl) w_1135 (fun _ _ => rfl) hL.1 (hL.2 31 _ _ _ rfl).1 ?_
      refine q_iconst (v := nI 5) d_Model_known_118 (by decide) ?_
      refine q_aload_n d_Model_known_119 rfl rfl ?_
      refine q_getI (ci := 11) (fk := 29) d_Model_known_120 rfl (Nat.le_of_ble_eq_true rfl) w_1133 (fun _ _ => rfl) hL.1 ?_
      rw [q_upI_nea (by omega), hn]
      first | refine q_imulN d_Model_known_123 ?_ | refine q_imul d_Model_known_123 ?_
      refine q_iload_n d_Model_known_124 rfl rfl ?_
      refine q_iast d_Model_known_125 (hL.2 31 _ _ _ rfl).2 (by first | assumption | exact vp_in_nI (by omega) (by omega)) ?_
      refine q_aload_n d_Model_known_126 rfl rfl ?_
      refine q_getR (ci := 11) (fk := 31) d_Model_known_127 rfl (Nat.le_of_ble_eq_true rfl) w_1135 (fun _ _ => rfl) hL.1 (hL.2 31 _ _ _ rfl).1 ?_
      refine q_iconst (v := nI 5) d_Model_known_130 (by decide) ?_
      refine q_aload_n d_Model_known_131 rfl rfl ?_
      refine q_getI (ci := 11) (fk := 29) d_Model_known_132 rfl (Nat.le_of_ble_eq_true rfl) w_1133 (fun _ _ => rfl) hL.1 ?_
      rw [q_upI_nea (by omega), q_upI_nea (by omega), hn]
      first | refine q_imulN d_Model_known_135 ?_ | refine q_imul d_Model_known_135 ?_
      refine q_iconst (v := nI 1) d_Model_known_136 (by decide) ?_
      first | refine q_iaddN d_Model_known_137 ?_ | refine q_iadd d_Model_known_137 ?_
      refine q_iload_n d_Model_known_138 rfl rfl ?_
      refine q_iast d_Model_known_139 (hL.2 31 _ _ _ rfl).2 (by first | assumption | exact vp_in_nI (by omega) (by omega)) ?_
      refine q_aload_n d_Model_known_140 rfl rfl ?_
      refine q_getR (ci := 11) (fk := 31) d_Model_known_141 rfl (Nat.le_of_ble_eq_true rfl) w_1135 (fun _ _ => rfl) hL.1 (hL.2 31 _ _ _ rfl).1 ?_
      refine q_iconst (v := nI 5) d_Model_known_144 (by decide) ?_
      refine q_aload_n d_Model_known_145 rfl rfl ?_
      refine q_getI (ci := 11) (fk := 29) d_Model_known_146 rfl (Nat.le_of_ble_eq_true rfl) w_1133 (fun _ _ => rfl) hL.1 ?_
      rw [q_upI_nea (by omega), q_upI_nea (by omega), q_upI_nea (by omega), hn]
      first | refine q_imulN d_Model_known_149 ?_ | refine q_imul d_Model_known_149 ?_
      refine q_iconst (v := nI 2) d_Model_known_150 (by decide) ?_
      first | refine q_iaddN d_Model_known_151 ?_ | refine q_iadd d_Model_known_151 ?_
      refine q_iload d_Model_known_152 rfl ?_
      refine q_iast d_Model_known_154 (hL.2 31 _ _ _ rfl).2 (by first | assumption | exact vp_in_nI (by omega) (by omega)) ?_
      refine q_aload_n d_Model_known_155 rfl rfl ?_
      refine q_getR (ci := 11) (fk := 31) d_Model_known_156 rfl (Nat.le_of_ble_eq_true rfl) w_1135 (fun _ _ => rfl) hL.1 (hL.2 31 _ _ _ rfl).1 ?_
      refine q_iconst (v := nI 5) d_Model_known_159 (by decide) ?_
      refine q_aload_n d_Model_known_160 rfl rfl ?_
      refine q_getI (ci := 11) (fk := 29) d_Model_known_161 rfl (Nat.le_of_ble_eq_true rfl) w_1133 (fun _ _ => rfl) hL.1 ?_
      rw [q_upI_nea (by omega), q_upI_nea (by omega), q_upI_nea (by omega), q_upI_nea (by omega), hn]
      first | refine q_imulN d_Model_known_164 ?_ | refine q_imul d_Model_known_164 ?_
      refine q_iconst (v := nI 3) d_Model_known_165 (by decide) ?_
      first | refine q_iaddN d_Model_known_166 ?_ | refine q_iadd d_Model_known_166 ?_
      refine q_iload d_Model_known_167 rfl ?_
      refine q_iast d_Model_known_169 (hL.2 31 _ _ _ rfl).2 (by first | assumption | exact vp_in_nI (by omega) (by omega)) ?_
      refine q_aload_n d_Model_known_170 rfl rfl ?_
      refine q_getR (ci := 11) (fk := 31) d_Model_known_171 rfl (Nat.le_of_ble_eq_true rfl) w_1135 (fun _ _ => rfl) hL.1 (hL.2 31 _ _ _ rfl).1 ?_
      refine q_iconst (v := nI 5) d_Model_known_174 (by decide) ?_
      refine q_aload_n d_Model_known_175 rfl rfl ?_
      refine q_getI (ci := 11) (fk := 29) d_Model_known_176 rfl (Nat.le_of_ble_eq_true rfl) w_1133 (fun _ _ => rfl) hL.1 ?_
      rw [q_upI_nea (by omega), q_upI_nea (by omega), q_upI_nea (by omega), q_upI_nea (by omega), q_upI_nea (by omega), hn]
      first | refine q_imulN d_Model_known_179 ?_ | refine q_imul d_Model_known_179 ?_
      refine q_iconst (v := nI 4) d_Model_known_180 (by decide) ?_
      first | refine q_iaddN d_Model_known_181 ?_ | refine q_iadd d_Model_known_181 ?_
      refine q_iload d_Model_known_182 rfl ?_
      refine q_iast d_Model_known_184 (hL.2 31 _ _ _ rfl).2 (by first | assumption | exact vp_in_nI (by omega) (by omega)) ?_
      obtain ⟨I1, hI1⟩ : ∃ I1, I1 = q_upI (q_upI (q_upI (q_upI (q_upI (q_upI I (m + 22) (nI tb.length) (nI (z_k t))) (m + 23) (nI (5 * tb.length)) (z_e1 tb t)) (m + 23) (nI (5 * tb.length + 1)) (z_r1 tb t)) (m + 23) (nI (5 * tb.length + 2)) (z_r2 t)) (m + 23) (nI (5 * tb.length + 3)) (z_lo t)) (m + 23) (nI (5 * tb.length + 4)) (z_hi t) := ⟨_, rfl⟩
      rw [← hI1]
      have o1 : ∀ b, b ≠ m + 22 → b ≠ m + 23 → I1 b = I b := fun b b1 b2 => by rw [hI1]; funext z; rw [q_upI_nea b2, q_upI_nea b2, q_upI_nea b2, q_upI_nea b2, q_upI_nea b2, q_upI_nea b1]
      have o22 : ∀ i, i < tb.length → I1 (m + 22) (nI i) = I (m + 22) (nI i) := fun i hi => by rw [hI1, q_upI_nea (by omega), q_upI_nea (by omega), q_upI_nea (by omega), q_upI_nea (by omega), q_upI_nea (by omega), q_upI_nk (by omega)]
      have o23 : ∀ i, i < 5 * tb.length → I1 (m + 23) (nI i) = I (m + 23) (nI i) := fun i hi => by rw [hI1, q_upI_nk (by omega), q_upI_nk (by omega), q_upI_nk (by omega), q_upI_nk (by omega), q_upI_nk (by omega), q_upI_nea (by omega)]
      have hn1 : I1 m (nI 29) = nI tb.length := by rw [o1 m (by omega) (by omega)]; exact hn
      refine q_aload_n d_Model_known_185 rfl rfl ?_
      refine q_dup d_Model_known_186 rfl ?_
      refine q_getI (ci := 11) (fk := 29) d_Model_known_187 rfl (Nat.le_of_ble_eq_true rfl) w_1133 (fun _ _ => rfl) hL.1 ?_
      rw [hn1]
      refine q_iconst (v := nI 1) d_Model_known_190 (by decide) ?_
      first | refine q_iaddN d_Model_known_191 ?_ | refine q_iadd d_Model_known_191 ?_
      refine q_putI (ci := 11) (fk := 29) d_Model_known_192 rfl (Nat.le_of_ble_eq_true rfl) w_1133 (Or.inl rfl) (fun _ _ => rfl) rfl rfl hL.1 ?_
      refine q_aload_n d_Model_known_195 rfl rfl ?_
      refine q_getI (ci := 11) (fk := 29) d_Model_known_196 rfl (Nat.le_of_ble_eq_true rfl) w_1133 (fun _ _ => rfl) hL.1 ?_
      rw [q_upI_self]
      refine q_iconst (v := nI 1) d_Model_known_199 (by decide) ?_
      refine q_isub d_Model_known_200 ?_
      rw [nI_sb tb.length 1]
      refine q_iret d_Model_known_201 rfl (by omega) (by omega) ?_
      rw [hQ]
      have o2 : ∀ b, b ≠ m → q_upI I1 m (nI 29) (nI (tb.length + 1)) b = I1 b := fun b hb => by funext z; rw [q_upI_nea hb]
      refine ⟨_, rfl, _, z_add tb t, rfl, ⟨fun b b1 b2 b3 => ?_, fun i hi => ?_⟩, ⟨?_, z_add_tok h.2.1 ht hcl, fun i u hu => ?_⟩, z_add_ex tb t, z_add_len tb t, z_add_mem tb t, ?_⟩
      · rw [o2 b b1, o1 b b2 b3]
      · rw [q_upI_nei hi, o1 m (by omega) (by omega)]
      · rw [q_upI_self, ead, List.length_append]; rfl
      · have hex := z_add_ex tb t
        unfold m_en
        rw [o2 _ (by omega), o2 _ (by omega)]
        rw [ead, List.getElem?_append] at hu
        by_cases hi : i < tb.length
        · rw [if_pos hi] at hu
          have hcu := (h.2.1.2 u (List.mem_of_getElem? hu)).2
          rw [hex.e1 hcu, hex.r1 hcu, o22 i hi, o23 _ (by omega), o23 _ (by omega), o23 _ (by omega), o23 _ (by omega), o23 _ (by omega)]
          exact h.2.2 i u hu
        · rw [if_neg hi] at hu
          have hz : i = tb.length := by
            have := (List.getElem?_eq_some_iff.mp hu).1
            simp only [List.length_singleton] at this
            omega
          subst hz
          rw [Nat.sub_self] at hu
          have e : t = u := Option.some.inj hu
          subst e
          rw [hex.e1 hcl, hex.r1 hcl, hI1]
          refine ⟨?_, ?_, ?_, ?_, ?_, ?_⟩
          · rw [q_upI_nea (by omega), q_upI_nea (by omega), q_upI_nea (by omega), q_upI_nea (by omega), q_upI_nea (by omega), q_upI_self]
          · rw [q_upI_nk (by omega), q_upI_nk (by omega), q_upI_nk (by omega), q_upI_nk (by omega), q_upI_self]
          · rw [q_upI_nk (by omega), q_upI_nk (by omega), q_upI_nk (by omega), q_upI_self]
          · rw [q_upI_nk (by omega), q_upI_nk (by omega), q_upI_self]
          · rw [q_upI_nk (by omega), q_upI_self]
          · rw [q_upI_self]
      · rw [ead, List.idxOf_append, if_neg hnm, List.idxOf_cons_self, Nat.zero_add]
    | succ j ih =>
      intro i l8 hi hno
      obtain ⟨u, hu⟩ : ∃ u, tb[i]? = some u := ⟨_, List.getElem?_eq_getElem (by omega)⟩
      obtain ⟨n1, n2, n3, n4, n5, n6⟩ := h.2.2 i u hu
      obtain ⟨ok, cl⟩ := h.2.1.2 u (List.mem_of_getElem? hu)
      have next : u ≠ t → q_V g M_Model_known 0 0 0 0 (sz, T, I, R, J) Q 98 [some (.ref m), some (.int (nI (z_k t))), some (.int (z_e1 tb t)), some (.int (z_r1 tb t)), some (.int (z_r2 t)), some (.int (z_lo t)), some (.int (z_hi t)), some (.int (nI i)), some (.int (nI (5 * i)))] [] := by
        intro hne
        first | refine q_iincN d_Model_known_98 rfl (Nat.le_of_ble_eq_true rfl) (by first | exact q_ok0 | exact q_okI rfl | exact q_okR rfl | exact q_okN rfl) rfl ?_ | refine q_iinc d_Model_known_98 rfl rfl (Nat.le_of_ble_eq_true rfl) (by first | exact q_ok0 | exact q_okI rfl | exact q_okR rfl | exact q_okN rfl) rfl ?_
        refine q_goto (tgt := 3) d_Model_known_101 rfl ?_
        refine ih (i + 1) _ (by omega) (fun a w ha hw => ?_)
        by_cases hai : a = i
        · subst hai
          rw [← Option.some.inj (hu.symm.trans hw)]; exact hne
        · exact hno a w (by omega) hw
      refine q_iload d_Model_known_3 rfl ?_
      refine q_aload_n d_Model_known_5 rfl rfl ?_
      refine q_getI (ci := 11) (fk := 29) d_Model_known_6 rfl (Nat.le_of_ble_eq_true rfl) w_1133 (fun _ _ => rfl) hL.1 ?_
      rw [hn]
      refine q_icmp_ge (tgt := 104) d_Model_known_9 rfl (fun hc => ?_) (fun hc => ?_)
      · rw [nI_leI (by omega) (by omega)] at hc
        omega
      refine q_iconst (v := nI 5) d_Model_known_12 (by decide) ?_
      refine q_iload d_Model_known_13 rfl ?_
      first | refine q_imulN d_Model_known_15 ?_ | refine q_imul d_Model_known_15 ?_
      refine q_istore d_Model_known_16 (Nat.le_of_ble_eq_true rfl) (by first | exact q_ok0 | exact q_okI rfl | exact q_okR rfl | exact q_okN rfl) rfl ?_
      refine q_aload_n d_Model_known_18 rfl rfl ?_
      refine q_getR (ci := 11) (fk := 30) d_Model_known_19 rfl (Nat.le_of_ble_eq_true rfl) w_1134 (fun _ _ => rfl) hL.1 (hL.2 30 _ _ _ rfl).1 ?_
      refine q_iload d_Model_known_22 rfl ?_
      refine q_iald d_Model_known_24 (hL.2 30 _ _ _ rfl).2 (by first | assumption | exact vp_in_nI (by omega) (by omega)) ?_
      rw [n1]
      refine q_iload_n d_Model_known_25 rfl rfl ?_
      refine q_icmp_ne (tgt := 98) d_Model_known_26 rfl (fun hc => ?_) (fun hc => ?_)
      · exact next (fun z => hc (by rw [z]))
      have q1 := hc
      refine q_aload_n d_Model_known_29 rfl rfl ?_
      refine q_getR (ci := 11) (fk := 31) d_Model_known_30 rfl (Nat.le_of_ble_eq_true rfl) w_1135 (fun _ _ => rfl) hL.1 (hL.2 31 _ _ _ rfl).1 ?_
      refine q_iload d_Model_known_33 rfl ?_
      refine q_iald d_Model_known_35 (hL.2 31 _ _ _ rfl).2 (by first | assumption | exact vp_in_nI (by omega) (by omega)) ?_
      rw [n2]
      refine q_iload_n d_Model_known_36 rfl rfl ?_
      refine q_icmp_ne (tgt := 98) d_Model_known_37 rfl (fun hc => ?_) (fun hc => ?_)
      · exact next (fun z => hc (by rw [z]))
      have q2 := hc
      refine q_aload_n d_Model_known_40 rfl rfl ?_
      refine q_getR (ci := 11) (fk := 31) d_Model_known_41 rfl (Nat.le_of_ble_eq_true rfl) w_1135 (fun _ _ => rfl) hL.1 (hL.2 31 _ _ _ rfl).1 ?_
      refine q_iload d_Model_known_44 rfl ?_
      refine q_iconst (v := nI 1) d_Model_known_46 (by decide) ?_
      first | refine q_iaddN d_Model_known_47 ?_ | refine q_iadd d_Model_known_47 ?_
      refine q_iald d_Model_known_48 (hL.2 31 _ _ _ rfl).2 (by first | assumption | exact vp_in_nI (by omega) (by omega)) ?_
      rw [n3]
      refine q_iload_n d_Model_known_49 rfl rfl ?_
      refine q_icmp_ne (tgt := 98) d_Model_known_50 rfl (fun hc => ?_) (fun hc => ?_)
      · exact next (fun z => hc (by rw [z]))
      have q3 := hc
      refine q_aload_n d_Model_known_53 rfl rfl ?_
      refine q_getR (ci := 11) (fk := 31) d_Model_known_54 rfl (Nat.le_of_ble_eq_true rfl) w_1135 (fun _ _ => rfl) hL.1 (hL.2 31 _ _ _ rfl).1 ?_
      refine q_iload d_Model_known_57 rfl ?_
      refine q_iconst (v := nI 2) d_Model_known_59 (by decide) ?_
      first | refine q_iaddN d_Model_known_60 ?_ | refine q_iadd d_Model_known_60 ?_
      refine q_iald d_Model_known_61 (hL.2 31 _ _ _ rfl).2 (by first | assumption | exact vp_in_nI (by omega) (by omega)) ?_
      rw [n4]
      refine q_iload d_Model_known_62 rfl ?_
      refine q_icmp_ne (tgt := 98) d_Model_known_64 rfl (fun hc => ?_) (fun hc => ?_)
      · exact next (fun z => hc (by rw [z]))
      have q4 := hc
      refine q_aload_n d_Model_known_67 rfl rfl ?_
      refine q_getR (ci := 11) (fk := 31) d_Model_known_68 rfl (Nat.le_of_ble_eq_true rfl) w_1135 (fun _ _ => rfl) hL.1 (hL.2 31 _ _ _ rfl).1 ?_
      refine q_iload d_Model_known_71 rfl ?_
      refine q_iconst (v := nI 3) d_Model_known_73 (by decide) ?_
      first | refine q_iaddN d_Model_known_74 ?_ | refine q_iadd d_Model_known_74 ?_
      refine q_iald d_Model_known_75 (hL.2 31 _ _ _ rfl).2 (by first | assumption | exact vp_in_nI (by omega) (by omega)) ?_
      rw [n5]
      refine q_iload d_Model_known_76 rfl ?_
      refine q_icmp_ne (tgt := 98) d_Model_known_78 rfl (fun hc => ?_) (fun hc => ?_)
      · exact next (fun z => hc (by rw [z]))
      have q5 := hc
      refine q_aload_n d_Model_known_81 rfl rfl ?_
      refine q_getR (ci := 11) (fk := 31) d_Model_known_82 rfl (Nat.le_of_ble_eq_true rfl) w_1135 (fun _ _ => rfl) hL.1 (hL.2 31 _ _ _ rfl).1 ?_
      refine q_iload d_Model_known_85 rfl ?_
      refine q_iconst (v := nI 4) d_Model_known_87 (by decide) ?_
      first | refine q_iaddN d_Model_known_88 ?_ | refine q_iadd d_Model_known_88 ?_
      refine q_iald d_Model_known_89 (hL.2 31 _ _ _ rfl).2 (by first | assumption | exact vp_in_nI (by omega) (by omega)) ?_
      rw [n6]
      refine q_iload d_Model_known_90 rfl ?_
      refine q_icmp_ne (tgt := 98) d_Model_known_92 rfl (fun hc => ?_) (fun hc => ?_)
      · exact next (fun z => hc (by rw [z]))
      have q6 := hc
      have hk1 := ok.1
      have hk2 := ht.1
      have e : u = t := z_inj2 (by omega) ok ht cl hcl ((nI_eq (by omega) (by omega)).mp q1) q2 q3 q4 q5 q6
      refine q_iload d_Model_known_95 rfl ?_
      refine q_iret d_Model_known_97 rfl (by omega) (by omega) ?_
      rw [hQ]
      have hm : t ∈ tb := by rw [← e]; exact List.mem_of_getElem? hu
      have := z_ix_at h.2.1.1 hu
      rw [e] at this
      refine ⟨_, rfl, ?_⟩
      rw [← this]
      exact m_rt2.old h hm
  refine q_iconst (v := nI 0) d_Model_known_0 (by decide) ?_
  refine q_istore d_Model_known_1 (Nat.le_of_ble_eq_true rfl) (by first | exact q_ok0 | exact q_okI rfl | exact q_okR rfl | exact q_okN rfl) rfl ?_
  exact loop tb.length 0 _ (by omega) (fun a _ ha => absurd ha (Nat.not_lt_zero _))
theorem z_r1_n (h7 : z_k t ≠ 7) : z_r1 tb t = z_a t := if_neg h7
theorem z_r2_n (h7 : z_k t ≠ 7) : z_r2 t = z_b t := if_neg h7
theorem c_known_lf {k : Nat} (hL : q_L 11 t_Model m T R) (h : m_tb m tb I) (hlen : tb.length < 1024) (hk : k ≤ 2) (x : Int32) : q_Ci g M_Model_known [.ref m, .int (nI k), .int x, .int 0, .int 0, .int 0, .int 0] (sz, T, I, R, J) 0 0 (m_rt2 m tb (z_lf k x) 1 sz T I R J) := by
  have := c_Model_known (g := g) (sz := sz) (J := J) hL h hlen (z_ok_lf hk x) (z_cl_lf tb hk x)
  rw [z_e1_lf hk, z_r1_n (show z_k (z_lf k x) ≠ 7 from (by show k ≠ 7; omega)), z_r2_n (show z_k (z_lf k x) ≠ 7 from (by show k ≠ 7; omega))] at this
  exact this
theorem c_known_u1 {k : Nat} (hL : q_L 11 t_Model m T R) (h : m_tb m tb I) (hlen : tb.length < 1024) (h3 : 3 ≤ k) (h11 : k ≤ 11) (h7 : k ≠ 7) (ht : t ∈ tb) (a b lo hi : Int32) : q_Ci g M_Model_known [.ref m, .int (nI k), .int (nI (tb.idxOf t)), .int a, .int b, .int lo, .int hi] (sz, T, I, R, J) 0 0 (m_rt2 m tb (z_u1 k t a b lo hi) 1 sz T I R J) := by
  have := c_Model_known (g := g) (sz := sz) (J := J) hL h hlen (z_ok_u1 h3 h11 h7 t a b lo hi) (z_cl_u1 h7 ht a b lo hi)
  rw [z_e1_u1 h3 h7, z_r1_n (show z_k (z_u1 k t a b lo hi) ≠ 7 from h7), z_r2_n (show z_k (z_u1 k t a b lo hi) ≠ 7 from h7)] at this
  exact this
theorem c_Model_number (hL : q_L 11 t_Model m T R) (h : m_tb m tb I) (hlen : tb.length < 1024) (x : Int32) : q_Ci g M_Model_number [.ref m, .int x] (sz, T, I, R, J) 0 0 (m_rt2 m tb (z_lf 1 x) 1 sz T I R J) := by
  refine q_C.of (ls0 := [some (.ref m), some (.int x)]) (by decide) rfl (by decide) (Nat.le_of_ble_eq_true rfl) rfl ?_
  refine q_aload_n d_Model_number_0 rfl rfl ?_
  refine q_iconst (v := nI 1) d_Model_number_1 (by decide) ?_
  refine q_iload_n d_Model_number_2 rfl rfl ?_
  refine q_iconst (v := nI 0) d_Model_number_3 (by decide) ?_
  refine q_iconst (v := nI 0) d_Model_number_4 (by decide) ?_
  refine q_iconst (v := nI 0) d_Model_number_5 (by decide) ?_
  refine q_iconst (v := nI 0) d_Model_number_6 (by decide) ?_
  refine q_callVi (M2 := M_Model_known) d_Model_number_7 ⟨(Nat.le_of_ble_eq_true rfl), (Nat.le_of_ble_eq_true rfl), w_1248, w_10, ⟨by decide, by decide⟩, show _ = some 6 by decide +kernel⟩ w_1245 w_1247 (ci := 11) rfl s_50 hL.1 rfl (Nat.le_of_ble_eq_true rfl) (by omega) (by omega) (c_known_lf hL h hlen (by omega) x) ?_
  rintro r h' hr
  refine q_iret d_Model_number_10 rfl (by omega) (by omega) ?_
  exact ⟨_, rfl, hr⟩
/-- what a field's term is as it comes -/
def z_cd (f : KF) : KT := if f.2.1 = 0 then z_lf 1 (p_near f.2.2.1 f.2.2.2.1) else z_lf 2 0
/-- what stays, in mode 2 -/
def m_zf (m : Nat) (I I' : q_I) : Prop := (∀ b, b ≠ m → b < m + 14 ∨ (m + 20 ≤ b ∧ b < m + 22) ∨ m + 24 ≤ b → I' b = I b) ∧ ∀ i, i ≠ nI 18 → i ≠ nI 29 → I' m i = I m i
theorem m_zf.refl : m_zf m I I := ⟨fun _ _ _ => rfl, fun _ _ _ => rfl⟩
theorem m_zf.trans {I1 I2 : q_I} (h : m_zf m I I1) (h2 : m_zf m I1 I2) : m_zf m I I2 := ⟨fun b a1 a2 => (h2.1 b a1 a2).trans (h.1 b a1 a2), fun i a1 a2 => (h2.2 i a1 a2).trans (h.2 i a1 a2)⟩
theorem m_wk.zf {I' : q_I} (h : m_wk m I I') : m_zf m I I' := ⟨fun b a1 a2 => h.1 b a1 (by omega), fun i a1 _ => h.2 i a1⟩
theorem m_fk.zf {I' : q_I} (h : m_fk m I I') : m_zf m I I' := ⟨fun b a1 a2 => h.1 b a1 (by omega) (by omega), fun i _ a2 => h.2 i a2⟩
theorem m_zf.arr {I' : q_I} (h : ∀ b, b < m + 14 ∨ (m + 20 ≤ b ∧ b < m + 22) ∨ m + 24 ≤ b → I' b = I b) : m_zf m I I' := ⟨fun b _ hb => h b hb, fun i _ _ => by rw [h m (by omega)]⟩
theorem m_tb.cong {I' : q_I} (h : m_tb m tb I) (h0 : I' m (nI 29) = I m (nI 29)) (h1 : I' (m + 22) = I (m + 22)) (h2 : I' (m + 23) = I (m + 23)) : m_tb m tb I' := by
  unfold m_tb m_en
  rw [h0, h1, h2]; exact h
def m_cm2 (m : Nat) (M : List KF) (f : KF) (tb : List KT) (I I' : q_I) : Prop := m_zf m I I' ∧ k_mw m (M ++ [f]) I' ∧ (∃ tb' : List KT, m_tb m tb' I' ∧ z_ex tb tb' ∧ tb'.length ≤ tb.length + 1 ∧ z_cd f ∈ tb' ∧ I' (m + 19) (nI M.length) = nI (tb'.idxOf (z_cd f))) ∧ ∀ j, j < M.length → I' (m + 19) (nI j) = I (m + 19) (nI j)
set_option maxHeartbeats 1000000 in
theorem c_Model_come2 (hL : q_L 11 t_Model m T R) (hM : k_mw m M I) (h : m_tb m tb I) (hlen : tb.length < 1024) (hlt : M.length < 26) (hmd : I m (nI 27) = nI 2) (f : KF) : q_Ci g M_Model_come [.ref m, .int (nI (k_path f.1)), .int f.2.1, .int f.2.2.1, .int f.2.2.2.1] (sz, T, I, R, J) 0 0 (fun r h' => r = nI M.length ∧ ∃ I' : q_I, h' = (sz, T, I', R, J) ∧ m_cm2 m M f tb I I') := by
  obtain ⟨l, s, a, b, sl⟩ := f
  have hn := hM.1
  obtain ⟨k, hk⟩ : ∃ k, k = M.length := ⟨_, rfl⟩
  rw [← hk] at hn hlt ⊢
  obtain ⟨Q, hQ⟩ : ∃ Q : q_O → q_H → Prop, Q = (fun o h' => ∃ r : Int32, o = .inl (some (.int r)) ∧ (r = nI k ∧ ∃ I' : q_I, h' = (sz, T, I', R, J) ∧ m_cm2 m M (l, s, a, b, sl) tb I I')) := ⟨_, rfl⟩
  have fin : ∀ I2 : q_I, m_wk m I I2 → I2 m (nI 18) = nI (k + 1) → (∀ j, 14 ≤ j → j ≤ 17 → ∀ i, i < k → I2 (m + j) (nI i) = I (m + j) (nI i)) → (I2 (m + 14) (nI k) = nI (k_path l) ∧ I2 (m + 15) (nI k) = s ∧ I2 (m + 16) (nI k) = a ∧ I2 (m + 17) (nI k) = b) → I2 (m + 19) = I (m + 19) → k_rw (I2 (m + 18)) (7 * k) (k_dfl s a b) → (∀ j, j < 7 * k → I2 (m + 18) (nI j) = I (m + 18) (nI j)) → ∀ x6, q_V g M_Model_come 0 0 0 0 (sz, T, I2, R, J) Q 112 [some (.ref m), some (.int (nI (k_path l))), some (.int s), some (.int a), some (.int b), some (.int (nI k)), x6] [] := by
    intro I2 w1 w2 w3 w4 w5 w6 w7 x6
    have hmd2 : I2 m (nI 27) = nI 2 := by rw [w1.2 _ (fun z => absurd (q_nI_inj z) (by decide))]; exact hmd
    have h2 : m_tb m tb I2 := h.cong (w1.2 _ (fun z => absurd (q_nI_inj z) (by decide))) (w1.1 _ (by omega) (by omega)) (w1.1 _ (by omega) (by omega))
    have mw2 : k_mw m (M ++ [(l, s, a, b, sl)]) I2 := k_mw.snoc (I := I) hM (by omega) (by rw [w2, hk]) (fun j h1 h2 i hi => w3 j h1 h2 i (by omega)) (by rw [← hk]; exact w4)
    have last : ∀ (I3 : q_I) (tb3 : List KT) (mcc msc : Nat), mcc = 0 → msc = 0 → m_fk m I2 I3 → m_tb m tb3 I3 → z_ex tb tb3 → tb3.length ≤ tb.length + 1 → z_cd (l, s, a, b, sl) ∈ tb3 → q_V g M_Model_come 0 0 mcc msc (sz, T, I3, R, J) Q 157 [some (.ref m), some (.int (nI (k_path l))), some (.int s), some (.int a), some (.int b), some (.int (nI k)), x6] [.int (nI (tb3.idxOf (z_cd (l, s, a, b, sl)))), .int (nI k), .ref (m + 19)] := by
      intro I3 tb3 mcc msc m1 m2 u1 u2 u3 u4 u5
      subst m1 m2
      refine q_iast d_Model_come_157 (hL.2 24 _ _ _ rfl).2 (by first | assumption | exact vp_in_nI (by omega) (by omega)) ?_
      refine q_iload d_Model_come_158 rfl ?_
      refine q_iret d_Model_come_160 rfl (by omega) (by omega) ?_
      rw [hQ]
      have o : ∀ b', b' ≠ m + 19 → q_upI I3 (m + 19) (nI k) (nI (tb3.idxOf (z_cd (l, s, a, b, sl)))) b' = I3 b' := fun b' hb => by funext z; rw [q_upI_nea hb]
      refine ⟨_, rfl, rfl, _, rfl, (w1.zf.trans u1.zf).trans (m_zf.arr fun b' hb => o b' (by omega)), mw2.cong ?_ (fun j j1 j2 => ?_), ⟨tb3, u2.cong (by rw [o m (by omega)]) (o _ (by omega)) (o _ (by omega)), u3, u4, u5, by rw [← hk, q_upI_self]⟩, fun j hj => ?_⟩
      · rw [o m (by omega)]; exact u1.2 _ (fun z => absurd (q_nI_inj z) (by decide))
      · rw [o _ (by omega), u1.1 _ (by omega) (by omega) (by omega)]
      · rw [q_upI_nk (by omega), u1.1 _ (by omega) (by omega) (by omega), w5]
    refine q_aload_n d_Model_come_112 rfl rfl ?_
    refine q_getR (ci := 11) (fk := 24) d_Model_come_113 rfl (Nat.le_of_ble_eq_true rfl) w_1128 (fun _ _ => rfl) hL.1 (hL.2 24 _ _ _ rfl).1 ?_
    refine q_iload d_Model_come_116 rfl ?_
    refine q_aload_n d_Model_come_118 rfl rfl ?_
    refine q_getI (ci := 11) (fk := 27) d_Model_come_119 rfl (Nat.le_of_ble_eq_true rfl) w_1131 (fun _ _ => rfl) hL.1 ?_
    rw [hmd2]
    refine q_iconst (v := nI 2) d_Model_come_122 (by decide) ?_
    refine q_icmp_eq (tgt := 130) d_Model_come_123 rfl (fun hc => ?_) (fun hc => ?_)
    rotate_left
    · exact absurd rfl hc
    refine q_iload_n d_Model_come_130 rfl rfl ?_
    refine q_if_ne (tgt := 147) d_Model_come_131 rfl (fun hc => ?_) (fun hc => ?_)
    · have hs : ¬ s = 0 := hc
      have ec : z_cd (l, s, a, b, sl) = z_lf 2 0 := if_neg hs
      rw [ec] at last
      refine q_aload_n d_Model_come_147 rfl rfl ?_
      refine q_iconst (v := nI 2) d_Model_come_148 (by decide) ?_
      refine q_iconst (v := nI 0) d_Model_come_149 (by decide) ?_
      refine q_iconst (v := nI 0) d_Model_come_150 (by decide) ?_
      refine q_iconst (v := nI 0) d_Model_come_151 (by decide) ?_
      refine q_iconst (v := nI 0) d_Model_come_152 (by decide) ?_
      refine q_iconst (v := nI 0) d_Model_come_153 (by decide) ?_
      refine q_callVi (M2 := M_Model_known) d_Model_come_154 ⟨(Nat.le_of_ble_eq_true rfl), (Nat.le_of_ble_eq_true rfl), w_1248, w_10, ⟨by decide, by decide⟩, show _ = some 6 by decide +kernel⟩ w_1245 w_1247 (ci := 11) rfl s_50 hL.1 rfl (Nat.le_of_ble_eq_true rfl) (by omega) (by omega) (c_known_lf hL h2 hlen (by omega) 0) ?_
      rintro _ _ ⟨I3, tb3, rfl, u1, u2, u3, u4, u5, rfl⟩
      exact last I3 tb3 _ _ rfl rfl u1 u2 u3 u4 u5
    · have hs : s = 0 := by have := hc; simpa using this
      have ec : z_cd (l, s, a, b, sl) = z_lf 1 (p_near a b) := if_pos hs
      rw [ec] at last
      refine q_aload_n d_Model_come_134 rfl rfl ?_
      refine q_iload_n d_Model_come_135 rfl rfl ?_
      refine q_iload d_Model_come_136 rfl ?_
      refine q_callSi (M2 := M_Model_nearest) d_Model_come_138 ⟨(Nat.le_of_ble_eq_true rfl), (Nat.le_of_ble_eq_true rfl), w_1240, w_10, ⟨by decide, by decide⟩, show _ = some 2 by decide +kernel⟩ w_1238 w_1239 rfl (Nat.le_of_ble_eq_true rfl) (by omega) (by omega) (c_Model_nearest a b) ?_
      rintro _ _ ⟨rfl, rfl⟩
      refine q_callVi (M2 := M_Model_number) d_Model_come_141 ⟨(Nat.le_of_ble_eq_true rfl), (Nat.le_of_ble_eq_true rfl), w_1244, w_10, ⟨by decide, by decide⟩, show _ = some 1 by decide +kernel⟩ w_1241 w_1243 (ci := 11) rfl s_49 hL.1 rfl (Nat.le_of_ble_eq_true rfl) (by omega) (by omega) (c_Model_number hL h2 hlen _) ?_
      rintro _ _ ⟨I3, tb3, rfl, u1, u2, u3, u4, u5, rfl⟩
      refine q_goto (tgt := 157) d_Model_come_144 rfl ?_
      exact last I3 tb3 _ _ rfl rfl u1 u2 u3 u4 u5
  have loop : ∀ (j i : Nat) (I1 I2 : q_I), i + j = 7 → m_wk m I I1 → I1 m (nI 18) = nI (k + 1) → (∀ j, 14 ≤ j → j ≤ 17 → ∀ i, i < k → I1 (m + j) (nI i) = I (m + j) (nI i)) → (I1 (m + 14) (nI k) = nI (k_path l) ∧ I1 (m + 15) (nI k) = s ∧ I1 (m + 16) (nI k) = a ∧ I1 (m + 17) (nI k) = b) → I1 (m + 19) = I (m + 19) → I1 (m + 18) = I (m + 18) → (∀ b, b ≠ m + 18 → I2 b = I1 b) → (∀ q, q < i → I2 (m + 18) (nI (7 * k + q)) = 0) → (∀ q, q < 7 * k → I2 (m + 18) (nI q) = I (m + 18) (nI q)) → q_V g M_Model_come 0 0 0 0 (sz, T, I2, R, J) Q 52 [some (.ref m), some (.int (nI (k_path l))), some (.int s), some (.int a), some (.int b), some (.int (nI k)), some (.int (nI i))] [] := by
    intro j
    induction j with
    | zero =>
      intro i I1 I2 hij v1 v2 v3 v4 v5 v6 u1 u2 u3
      obtain rfl : i = 7 := by omega
      have z1 : m_wk m I I2 := ⟨fun c h1 h2 => by rw [u1 c (by omega), v1.1 c h1 h2], fun i hi => by rw [u1 m (by omega), v1.2 i hi]⟩
      have z2 : I2 m (nI 18) = nI (k + 1) := by rw [u1 m (by omega)]; exact v2
      have z3 : ∀ j, 14 ≤ j → j ≤ 17 → ∀ i, i < k → I2 (m + j) (nI i) = I (m + j) (nI i) := fun j h1 h2 i hi => by rw [u1 (m + j) (by omega)]; exact v3 j h1 h2 i hi
      have z4 : I2 (m + 14) (nI k) = nI (k_path l) ∧ I2 (m + 15) (nI k) = s ∧ I2 (m + 16) (nI k) = a ∧ I2 (m + 17) (nI k) = b := by
        rw [u1 (m + 14) (by omega), u1 (m + 15) (by omega), u1 (m + 16) (by omega), u1 (m + 17) (by omega)]; exact v4
      have z5 : I2 (m + 19) = I (m + 19) := by rw [u1 (m + 19) (by omega)]; exact v5
      refine q_iload d_Model_come_52 rfl ?_
      refine q_bipush (v := nI 7) d_Model_come_54 (by decide) ?_
      refine q_icmp_ge (tgt := 79) d_Model_come_56 rfl (fun hc => ?_) (fun hc => ?_)
      · refine q_iload_n d_Model_come_79 rfl rfl ?_
        refine q_if_ne (tgt := 112) d_Model_come_80 rfl (fun hc => ?_) (fun hc => ?_)
        · have hs : ¬ s = 0 := hc
          refine fin I2 z1 z2 z3 z4 z5 ?_ u3 _
          rw [k_dfl, if_neg hs]
          exact ⟨by decide, by have := u2 0 (by omega); rw [Nat.add_zero] at this; exact this, fun i x hx => by cases hx⟩
        · have hs : s = 0 := by have := hc; simpa using this
          refine q_aload_n d_Model_come_83 rfl rfl ?_
          refine q_getR (ci := 11) (fk := 23) d_Model_come_84 rfl (Nat.le_of_ble_eq_true rfl) w_1127 (fun _ _ => rfl) hL.1 (hL.2 23 _ _ _ rfl).1 ?_
          refine q_bipush (v := nI 7) d_Model_come_87 (by decide) ?_
          refine q_iload d_Model_come_89 rfl ?_
          first | refine q_imulN d_Model_come_91 ?_ | refine q_imul d_Model_come_91 ?_
          refine q_iconst (v := nI 1) d_Model_come_92 (by decide) ?_
          refine q_iast d_Model_come_93 (hL.2 23 _ _ _ rfl).2 (by first | assumption | exact vp_in_nI (by omega) (by omega)) ?_
          refine q_aload_n d_Model_come_94 rfl rfl ?_
          refine q_getR (ci := 11) (fk := 23) d_Model_come_95 rfl (Nat.le_of_ble_eq_true rfl) w_1127 (fun _ _ => rfl) hL.1 (hL.2 23 _ _ _ rfl).1 ?_
          refine q_bipush (v := nI 7) d_Model_come_98 (by decide) ?_
          refine q_iload d_Model_come_100 rfl ?_
          first | refine q_imulN d_Model_come_102 ?_ | refine q_imul d_Model_come_102 ?_
          refine q_iconst (v := nI 1) d_Model_come_103 (by decide) ?_
          first | refine q_iaddN d_Model_come_104 ?_ | refine q_iadd d_Model_come_104 ?_
          refine q_iload_n d_Model_come_105 rfl rfl ?_
          refine q_iload d_Model_come_106 rfl ?_
          refine q_callSi (M2 := M_Model_nearest) d_Model_come_108 ⟨(Nat.le_of_ble_eq_true rfl), (Nat.le_of_ble_eq_true rfl), w_1240, w_10, ⟨by decide, by decide⟩, show _ = some 2 by decide +kernel⟩ w_1238 w_1239 rfl (Nat.le_of_ble_eq_true rfl) (by omega) (by omega) (c_Model_nearest a b) ?_
          rintro _ _ ⟨rfl, rfl⟩
          refine q_iast d_Model_come_111 (hL.2 23 _ _ _ rfl).2 (by first | assumption | exact vp_in_nI (by omega) (by omega)) ?_
          have o : ∀ c, c ≠ m + 18 → q_upI (q_upI I2 (m + 18) (nI (7 * k)) (nI 1)) (m + 18) (nI (7 * k + 1)) (p_near a b) c = I2 c := fun c hc => by funext i; rw [q_upI_nea hc, q_upI_nea hc]
          refine fin _ ⟨fun c h1 h2 => by rw [o c (by omega), z1.1 c h1 h2], fun i hi => by rw [o m (by omega), z1.2 i hi]⟩ (by rw [o m (by omega)]; exact z2) (fun j h1 h2 i hi => by rw [o (m + j) (by omega)]; exact z3 j h1 h2 i hi) (by rw [o (m + 14) (by omega), o (m + 15) (by omega), o (m + 16) (by omega), o (m + 17) (by omega)]; exact z4) (by rw [o (m + 19) (by omega)]; exact z5) ?_ ?_ _
          · rw [k_dfl, if_pos hs]
            exact k_rw_wn _ _ _ _ (by omega)
          · intro q hq
            rw [q_upI_nk (by omega), q_upI_nk (by omega)]
            exact u3 q hq
      · exact absurd (Int32.le_refl _) hc
    | succ j ih =>
      intro i I1 I2 hij v1 v2 v3 v4 v5 v6 u1 u2 u3
      refine q_iload d_Model_come_52 rfl ?_
      refine q_bipush (v := nI 7) d_Model_come_54 (by decide) ?_
      refine q_icmp_ge (tgt := 79) d_Model_come_56 rfl (fun hc => ?_) (fun hc => ?_)
      · rw [nI_leI (by omega) (by omega)] at hc
        omega
      · refine q_aload_n d_Model_come_59 rfl rfl ?_
        refine q_getR (ci := 11) (fk := 23) d_Model_come_60 rfl (Nat.le_of_ble_eq_true rfl) w_1127 (fun _ _ => rfl) hL.1 (hL.2 23 _ _ _ rfl).1 ?_
        refine q_bipush (v := nI 7) d_Model_come_63 (by decide) ?_
        refine q_iload d_Model_come_65 rfl ?_
        first | refine q_imulN d_Model_come_67 ?_ | refine q_imul d_Model_come_67 ?_
        refine q_iload d_Model_come_68 rfl ?_
        first | refine q_iaddN d_Model_come_70 ?_ | refine q_iadd d_Model_come_70 ?_
        refine q_iconst (v := nI 0) d_Model_come_71 (by decide) ?_
        refine q_iast d_Model_come_72 (hL.2 23 _ _ _ rfl).2 (by first | assumption | exact vp_in_nI (by omega) (by omega)) ?_
        first | refine q_iincN d_Model_come_73 rfl (Nat.le_of_ble_eq_true rfl) (by first | exact q_ok0 | exact q_okI rfl | exact q_okR rfl | exact q_okN rfl) rfl ?_ | refine q_iinc d_Model_come_73 rfl rfl (Nat.le_of_ble_eq_true rfl) (by first | exact q_ok0 | exact q_okI rfl | exact q_okR rfl | exact q_okN rfl) rfl ?_
        refine q_goto (tgt := 52) d_Model_come_76 rfl ?_
        refine ih (i + 1) I1 _ (by omega) v1 v2 v3 v4 v5 v6 (fun c hc => ?_) (fun q hq => ?_) (fun q hq => ?_)
        · funext z
          rw [q_upI_nea hc, u1 c hc]
        · by_cases hqi : q = i
          · rw [hqi, q_upI_self]; rfl
          · rw [q_upI_nk (by omega)]; exact u2 q (by omega)
        · rw [q_upI_nk (by omega)]; exact u3 q hq
  refine q_C.of (ls0 := [some (.ref m), some (.int (nI (k_path l))), some (.int s), some (.int a), some (.int b), none, none]) (by decide) rfl (by decide) (Nat.le_of_ble_eq_true rfl) rfl ?_
  rw [← hQ]
  refine q_aload_n d_Model_come_0 rfl rfl ?_
  refine q_getI (ci := 11) (fk := 18) d_Model_come_1 rfl (Nat.le_of_ble_eq_true rfl) w_1122 (fun _ _ => rfl) hL.1 ?_
  rw [hn]
  refine q_istore d_Model_come_4 (Nat.le_of_ble_eq_true rfl) (by first | exact q_ok0 | exact q_okI rfl | exact q_okR rfl | exact q_okN rfl) rfl ?_
  refine q_aload_n d_Model_come_6 rfl rfl ?_
  refine q_dup d_Model_come_7 rfl ?_
  refine q_getI (ci := 11) (fk := 18) d_Model_come_8 rfl (Nat.le_of_ble_eq_true rfl) w_1122 (fun _ _ => rfl) hL.1 ?_
  rw [hn]
  refine q_iconst (v := nI 1) d_Model_come_11 (by decide) ?_
  first | refine q_iaddN d_Model_come_12 ?_ | refine q_iadd d_Model_come_12 ?_
  refine q_putI (ci := 11) (fk := 18) d_Model_come_13 rfl (Nat.le_of_ble_eq_true rfl) w_1122 (Or.inl rfl) (fun _ _ => rfl) rfl rfl hL.1 ?_
  refine q_aload_n d_Model_come_16 rfl rfl ?_
  refine q_getR (ci := 11) (fk := 19) d_Model_come_17 rfl (Nat.le_of_ble_eq_true rfl) w_1123 (fun _ _ => rfl) hL.1 (hL.2 19 _ _ _ rfl).1 ?_
  refine q_iload d_Model_come_20 rfl ?_
  refine q_iload_n d_Model_come_22 rfl rfl ?_
  refine q_iast d_Model_come_23 (hL.2 19 _ _ _ rfl).2 (by first | assumption | exact vp_in_nI (by omega) (by omega)) ?_
  refine q_aload_n d_Model_come_24 rfl rfl ?_
  refine q_getR (ci := 11) (fk := 20) d_Model_come_25 rfl (Nat.le_of_ble_eq_true rfl) w_1124 (fun _ _ => rfl) hL.1 (hL.2 20 _ _ _ rfl).1 ?_
  refine q_iload d_Model_come_28 rfl ?_
  refine q_iload_n d_Model_come_30 rfl rfl ?_
  refine q_iast d_Model_come_31 (hL.2 20 _ _ _ rfl).2 (by first | assumption | exact vp_in_nI (by omega) (by omega)) ?_
  refine q_aload_n d_Model_come_32 rfl rfl ?_
  refine q_getR (ci := 11) (fk := 21) d_Model_come_33 rfl (Nat.le_of_ble_eq_true rfl) w_1125 (fun _ _ => rfl) hL.1 (hL.2 21 _ _ _ rfl).1 ?_
  refine q_iload d_Model_come_36 rfl ?_
  refine q_iload_n d_Model_come_38 rfl rfl ?_
  refine q_iast d_Model_come_39 (hL.2 21 _ _ _ rfl).2 (by first | assumption | exact vp_in_nI (by omega) (by omega)) ?_
  refine q_aload_n d_Model_come_40 rfl rfl ?_
  refine q_getR (ci := 11) (fk := 22) d_Model_come_41 rfl (Nat.le_of_ble_eq_true rfl) w_1126 (fun _ _ => rfl) hL.1 (hL.2 22 _ _ _ rfl).1 ?_
  refine q_iload d_Model_come_44 rfl ?_
  refine q_iload d_Model_come_46 rfl ?_
  refine q_iast d_Model_come_48 (hL.2 22 _ _ _ rfl).2 (by first | assumption | exact vp_in_nI (by omega) (by omega)) ?_
  refine q_iconst (v := nI 0) d_Model_come_49 (by decide) ?_
  refine q_istore d_Model_come_50 (Nat.le_of_ble_eq_true rfl) (by first | exact q_ok0 | exact q_okI rfl | exact q_okR rfl | exact q_okN rfl) rfl ?_
  refine loop 7 0 _ _ (by omega) ⟨fun c h1 h2 => ?_, fun i hi => ?_⟩ ?_ ?_ ⟨?_, ?_, ?_, ?_⟩ ?_ ?_ (fun c hc => rfl) (fun q hq => absurd hq (Nat.not_lt_zero _)) (fun q hq => ?_)
  · funext i
    rw [q_upI_nea (by omega), q_upI_nea (by omega), q_upI_nea (by omega), q_upI_nea (by omega), q_upI_nea (by omega)]
  · rw [q_upI_nea (by omega), q_upI_nea (by omega), q_upI_nea (by omega), q_upI_nea (by omega), q_upI_nei hi]
  · rw [q_upI_nea (by omega), q_upI_nea (by omega), q_upI_nea (by omega), q_upI_nea (by omega), q_upI_self]
  · intro j h1 h2 i hi
    rw [q_upI_nk (by omega), q_upI_nk (by omega), q_upI_nk (by omega), q_upI_nk (by omega), q_upI_nea (by omega)]
  · rw [q_upI_nea (by omega), q_upI_nea (by omega), q_upI_nea (by omega), q_upI_self]
  · rw [q_upI_nea (by omega), q_upI_nea (by omega), q_upI_self]
  · rw [q_upI_nea (by omega), q_upI_self]
  · rw [q_upI_self]
  · funext i
    rw [q_upI_nea (by omega), q_upI_nea (by omega), q_upI_nea (by omega), q_upI_nea (by omega), q_upI_nea (by omega)]
  · funext i
    rw [q_upI_nea (by omega), q_upI_nea (by omega), q_upI_nea (by omega), q_upI_nea (by omega), q_upI_nea (by omega)]
  · rw [q_upI_nea (by omega), q_upI_nea (by omega), q_upI_nea (by omega), q_upI_nea (by omega), q_upI_nea (by omega)]
end MTerms
