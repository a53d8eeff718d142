/-! clash: the class's table of terms -/
abbrev M_Terms_intern : q_M := (⟨"LensPaths$Terms", "intern", "(IIIIIII)I"⟩, prog_11_method_15_code, 9, (some .int), "LensPaths$Terms", [], false, 0, 0)
theorem d_Terms_intern_0 : decode prog_11_method_15_code 0 = .ok (.iconst 0, 1) := by decide +kernel
theorem d_Terms_intern_1 : decode prog_11_method_15_code 1 = .ok (.istore 8, 2) := by decide +kernel
theorem d_Terms_intern_3 : decode prog_11_method_15_code 3 = .ok (.iload 8, 2) := by decide +kernel
theorem d_Terms_intern_5 : decode prog_11_method_15_code 5 = .ok (.aload_n 0, 1) := by decide +kernel
theorem d_Terms_intern_6 : decode prog_11_method_15_code 6 = .ok (.getfield 42, 3) := by decide +kernel
theorem d_Terms_intern_9 : decode prog_11_method_15_code 9 = .ok (.if_icmp .ge 93, 3) := by decide +kernel
theorem d_Terms_intern_12 : decode prog_11_method_15_code 12 = .ok (.aload_n 0, 1) := by decide +kernel
theorem d_Terms_intern_13 : decode prog_11_method_15_code 13 = .ok (.getfield 21, 3) := by decide +kernel
theorem d_Terms_intern_16 : decode prog_11_method_15_code 16 = .ok (.iload 8, 2) := by decide +kernel
theorem d_Terms_intern_18 : decode prog_11_method_15_code 18 = .ok (.iaload, 1) := by decide +kernel
theorem d_Terms_intern_19 : decode prog_11_method_15_code 19 = .ok (.iload_n 1, 1) := by decide +kernel
theorem d_Terms_intern_20 : decode prog_11_method_15_code 20 = .ok (.if_icmp .ne 76, 3) := by decide +kernel
theorem d_Terms_intern_23 : decode prog_11_method_15_code 23 = .ok (.aload_n 0, 1) := by decide +kernel
theorem d_Terms_intern_24 : decode prog_11_method_15_code 24 = .ok (.getfield 24, 3) := by decide +kernel
theorem d_Terms_intern_27 : decode prog_11_method_15_code 27 = .ok (.iload 8, 2) := by decide +kernel
theorem d_Terms_intern_29 : decode prog_11_method_15_code 29 = .ok (.iaload, 1) := by decide +kernel
theorem d_Terms_intern_30 : decode prog_11_method_15_code 30 = .ok (.iload_n 2, 1) := by decide +kernel
theorem d_Terms_intern_31 : decode prog_11_method_15_code 31 = .ok (.if_icmp .ne 65, 3) := by decide +kernel
theorem d_Terms_intern_34 : decode prog_11_method_15_code 34 = .ok (.aload_n 0, 1) := by decide +kernel
theorem d_Terms_intern_35 : decode prog_11_method_15_code 35 = .ok (.getfield 27, 3) := by decide +kernel
theorem d_Terms_intern_38 : decode prog_11_method_15_code 38 = .ok (.iload 8, 2) := by decide +kernel
theorem d_Terms_intern_40 : decode prog_11_method_15_code 40 = .ok (.iaload, 1) := by decide +kernel
theorem d_Terms_intern_41 : decode prog_11_method_15_code 41 = .ok (.iload_n 3, 1) := by decide +kernel
theorem d_Terms_intern_42 : decode prog_11_method_15_code 42 = .ok (.if_icmp .ne 54, 3) := by decide +kernel
theorem d_Terms_intern_45 : decode prog_11_method_15_code 45 = .ok (.aload_n 0, 1) := by decide +kernel
theorem d_Terms_intern_46 : decode prog_11_method_15_code 46 = .ok (.getfield 30, 3) := by decide +kernel
theorem d_Terms_intern_49 : decode prog_11_method_15_code 49 = .ok (.iload 8, 2) := by decide +kernel
theorem d_Terms_intern_51 : decode prog_11_method_15_code 51 = .ok (.iaload, 1) := by decide +kernel
theorem d_Terms_intern_52 : decode prog_11_method_15_code 52 = .ok (.iload 4, 2) := by decide +kernel
theorem d_Terms_intern_54 : decode prog_11_method_15_code 54 = .ok (.if_icmp .ne 42, 3) := by decide +kernel
theorem d_Terms_intern_57 : decode prog_11_method_15_code 57 = .ok (.aload_n 0, 1) := by decide +kernel
theorem d_Terms_intern_58 : decode prog_11_method_15_code 58 = .ok (.getfield 33, 3) := by decide +kernel
theorem d_Terms_intern_61 : decode prog_11_method_15_code 61 = .ok (.iload 8, 2) := by decide +kernel
theorem d_Terms_intern_63 : decode prog_11_method_15_code 63 = .ok (.iaload, 1) := by decide +kernel
theorem d_Terms_intern_64 : decode prog_11_method_15_code 64 = .ok (.iload 5, 2) := by decide +kernel
theorem d_Terms_intern_66 : decode prog_11_method_15_code 66 = .ok (.if_icmp .ne 30, 3) := by decide +kernel
theorem d_Terms_intern_69 : decode prog_11_method_15_code 69 = .ok (.aload_n 0, 1) := by decide +kernel
theorem d_Terms_intern_70 : decode prog_11_method_15_code 70 = .ok (.getfield 36, 3) := by decide +kernel
theorem d_Terms_intern_73 : decode prog_11_method_15_code 73 = .ok (.iload 8, 2) := by decide +kernel
theorem d_Terms_intern_75 : decode prog_11_method_15_code 75 = .ok (.iaload, 1) := by decide +kernel
theorem d_Terms_intern_76 : decode prog_11_method_15_code 76 = .ok (.iload 6, 2) := by decide +kernel
theorem d_Terms_intern_78 : decode prog_11_method_15_code 78 = .ok (.if_icmp .ne 18, 3) := by decide +kernel
theorem d_Terms_intern_81 : decode prog_11_method_15_code 81 = .ok (.aload_n 0, 1) := by decide +kernel
theorem d_Terms_intern_82 : decode prog_11_method_15_code 82 = .ok (.getfield 39, 3) := by decide +kernel
theorem d_Terms_intern_85 : decode prog_11_method_15_code 85 = .ok (.iload 8, 2) := by decide +kernel
theorem d_Terms_intern_87 : decode prog_11_method_15_code 87 = .ok (.iaload, 1) := by decide +kernel
theorem d_Terms_intern_88 : decode prog_11_method_15_code 88 = .ok (.iload 7, 2) := by decide +kernel
theorem d_Terms_intern_90 : decode prog_11_method_15_code 90 = .ok (.if_icmp .ne 6, 3) := by decide +kernel
theorem d_Terms_intern_93 : decode prog_11_method_15_code 93 = .ok (.iload 8, 2) := by decide +kernel
theorem d_Terms_intern_95 : decode prog_11_method_15_code 95 = .ok (.ireturn, 1) := by decide +kernel
theorem d_Terms_intern_96 : decode prog_11_method_15_code 96 = .ok (.iinc 8 1, 3) := by decide +kernel
theorem d_Terms_intern_99 : decode prog_11_method_15_code 99 = .ok (.goto (-96), 3) := by decide +kernel
theorem d_Terms_intern_102 : decode prog_11_method_15_code 102 = .ok (.aload_n 0, 1) := by decide +kernel
theorem d_Terms_intern_103 : decode prog_11_method_15_code 103 = .ok (.getfield 21, 3) := by decide +kernel
theorem d_Terms_intern_106 : decode prog_11_method_15_code 106 = .ok (.aload_n 0, 1) := by decide +kernel
theorem d_Terms_intern_107 : decode prog_11_method_15_code 107 = .ok (.getfield 42, 3) := by decide +kernel
theorem d_Terms_intern_110 : decode prog_11_method_15_code 110 = .ok (.iload_n 1, 1) := by decide +kernel
theorem d_Terms_intern_111 : decode prog_11_method_15_code 111 = .ok (.iastore, 1) := by decide +kernel
theorem d_Terms_intern_112 : decode prog_11_method_15_code 112 = .ok (.aload_n 0, 1) := by decide +kernel
theorem d_Terms_intern_113 : decode prog_11_method_15_code 113 = .ok (.getfield 24, 3) := by decide +kernel
theorem d_Terms_intern_116 : decode prog_11_method_15_code 116 = .ok (.aload_n 0, 1) := by decide +kernel
theorem d_Terms_intern_117 : decode prog_11_method_15_code 117 = .ok (.getfield 42, 3) := by decide +kernel
theorem d_Terms_intern_120 : decode prog_11_method_15_code 120 = .ok (.iload_n 2, 1) := by decide +kernel
theorem d_Terms_intern_121 : decode prog_11_method_15_code 121 = .ok (.iastore, 1) := by decide +kernel
theorem d_Terms_intern_122 : decode prog_11_method_15_code 122 = .ok (.aload_n 0, 1) := by decide +kernel
theorem d_Terms_intern_123 : decode prog_11_method_15_code 123 = .ok (.getfield 27, 3) := by decide +kernel
theorem d_Terms_intern_126 : decode prog_11_method_15_code 126 = .ok (.aload_n 0, 1) := by decide +kernel
theorem d_Terms_intern_127 : decode prog_11_method_15_code 127 = .ok (.getfield 42, 3) := by decide +kernel
theorem d_Terms_intern_130 : decode prog_11_method_15_code 130 = .ok (.iload_n 3, 1) := by decide +kernel
theorem d_Terms_intern_131 : decode prog_11_method_15_code 131 = .ok (.iastore, 1) := by decide +kernel
theorem d_Terms_intern_132 : decode prog_11_method_15_code 132 = .ok (.aload_n 0, 1) := by decide +kernel
theorem d_Terms_intern_133 : decode prog_11_method_15_code 133 = .ok (.getfield 30, 3) := by decide +kernel
theorem d_Terms_intern_136 : decode prog_11_method_15_code 136 = .ok (.aload_n 0, 1) := by decide +kernel
theorem d_Terms_intern_137 : decode prog_11_method_15_code 137 = .ok (.getfield 42, 3) := by decide +kernel
theorem d_Terms_intern_140 : decode prog_11_method_15_code 140 = .ok (.iload 4, 2) := by decide +kernel
theorem d_Terms_intern_142 : decode prog_11_method_15_code 142 = .ok (.iastore, 1) := by decide +kernel
theorem d_Terms_intern_143 : decode prog_11_method_15_code 143 = .ok (.aload_n 0, 1) := by decide +kernel
theorem d_Terms_intern_144 : decode prog_11_method_15_code 144 = .ok (.getfield 33, 3) := by decide +kernel
theorem d_Terms_intern_147 : decode prog_11_method_15_code 147 = .ok (.aload_n 0, 1) := by decide +kernel
theorem d_Terms_intern_148 : decode prog_11_method_15_code 148 = .ok (.getfield 42, 3) := by decide +kernel
theorem d_Terms_intern_151 : decode prog_11_method_15_code 151 = .ok (.iload 5, 2) := by decide +kernel
theorem d_Terms_intern_153 : decode prog_11_method_15_code 153 = .ok (.iastore, 1) := by decide +kernel
theorem d_Terms_intern_154 : decode prog_11_method_15_code 154 = .ok (.aload_n 0, 1) := by decide +kernel
theorem d_Terms_intern_155 : decode prog_11_method_15_code 155 = .ok (.getfield 36, 3) := by decide +kernel
theorem d_Terms_intern_158 : decode prog_11_method_15_code 158 = .ok (.aload_n 0, 1) := by decide +kernel
theorem d_Terms_intern_159 : decode prog_11_method_15_code 159 = .ok (.getfield 42, 3) := by decide +kernel
theorem d_Terms_intern_162 : decode prog_11_method_15_code 162 = .ok (.iload 6, 2) := by decide +kernel
theorem d_Terms_intern_164 : decode prog_11_method_15_code 164 = .ok (.iastore, 1) := by decide +kernel
theorem d_Terms_intern_165 : decode prog_11_method_15_code 165 = .ok (.aload_n 0, 1) := by decide +kernel
theorem d_Terms_intern_166 : decode prog_11_method_15_code 166 = .ok (.getfield 39, 3) := by decide +kernel
theorem d_Terms_intern_169 : decode prog_11_method_15_code 169 = .ok (.aload_n 0, 1) := by decide +kernel
theorem d_Terms_intern_170 : decode prog_11_method_15_code 170 = .ok (.getfield 42, 3) := by decide +kernel
theorem d_Terms_intern_173 : decode prog_11_method_15_code 173 = .ok (.iload 7, 2) := by decide +kernel
theorem d_Terms_intern_175 : decode prog_11_method_15_code 175 = .ok (.iastore, 1) := by decide +kernel
theorem d_Terms_intern_176 : decode prog_11_method_15_code 176 = .ok (.aload_n 0, 1) := by decide +kernel
theorem d_Terms_intern_177 : decode prog_11_method_15_code 177 = .ok (.dup, 1) := by decide +kernel
theorem d_Terms_intern_178 : decode prog_11_method_15_code 178 = .ok (.getfield 42, 3) := by decide +kernel
theorem d_Terms_intern_181 : decode prog_11_method_15_code 181 = .ok (.iconst 1, 1) := by decide +kernel
theorem d_Terms_intern_182 : decode prog_11_method_15_code 182 = .ok (.iadd, 1) := by decide +kernel
theorem d_Terms_intern_183 : decode prog_11_method_15_code 183 = .ok (.putfield 42, 3) := by decide +kernel
theorem d_Terms_intern_186 : decode prog_11_method_15_code 186 = .ok (.aload_n 0, 1) := by decide +kernel
theorem d_Terms_intern_187 : decode prog_11_method_15_code 187 = .ok (.getfield 42, 3) := by decide +kernel
theorem d_Terms_intern_190 : decode prog_11_method_15_code 190 = .ok (.iconst 1, 1) := by decide +kernel
theorem d_Terms_intern_191 : decode prog_11_method_15_code 191 = .ok (.isub, 1) := by decide +kernel
theorem d_Terms_intern_192 : decode prog_11_method_15_code 192 = .ok (.ireturn, 1) := by decide +kernel
abbrev M_Terms_simple : q_M := (⟨"LensPaths$Terms", "simple", "(II)I"⟩, prog_11_method_14_code, 3, (some .int), "LensPaths$Terms", [], false, 1, 28)
theorem d_Terms_simple_0 : decode prog_11_method_14_code 0 = .ok (.aload_n 0, 1) := by decide +kernel
theorem d_Terms_simple_1 : decode prog_11_method_14_code 1 = .ok (.iload_n 1, 1) := by decide +kernel
theorem d_Terms_simple_2 : decode prog_11_method_14_code 2 = .ok (.iload_n 2, 1) := by decide +kernel
theorem d_Terms_simple_3 : decode prog_11_method_14_code 3 = .ok (.iconst 0, 1) := by decide +kernel
theorem d_Terms_simple_4 : decode prog_11_method_14_code 4 = .ok (.iconst 0, 1) := by decide +kernel
theorem d_Terms_simple_5 : decode prog_11_method_14_code 5 = .ok (.iconst 0, 1) := by decide +kernel
theorem d_Terms_simple_6 : decode prog_11_method_14_code 6 = .ok (.iconst 0, 1) := by decide +kernel
theorem d_Terms_simple_7 : decode prog_11_method_14_code 7 = .ok (.iconst 0, 1) := by decide +kernel
theorem d_Terms_simple_8 : decode prog_11_method_14_code 8 = .ok (.invokevirtual 111, 3) := by decide +kernel
theorem d_Terms_simple_11 : decode prog_11_method_14_code 11 = .ok (.ireturn, 1) := by decide +kernel
abbrev M_Terms_defaultTerm : q_M := (⟨"LensPaths$Terms", "defaultTerm", "(LLensPaths$Primitive;)I"⟩, prog_11_method_8_code, 2, (some .int), "LensPaths$Terms", [], false, 2, 50)
theorem d_Terms_defaultTerm_0 : decode prog_11_method_8_code 0 = .ok (.aload_n 1, 1) := by decide +kernel
theorem d_Terms_defaultTerm_1 : decode prog_11_method_8_code 1 = .ok (.getfield 128, 3) := by decide +kernel
theorem d_Terms_defaultTerm_4 : decode prog_11_method_8_code 4 = .ok (.iconst 2, 1) := by decide +kernel
theorem d_Terms_defaultTerm_5 : decode prog_11_method_8_code 5 = .ok (.if_icmp .ne 5, 3) := by decide +kernel
theorem d_Terms_defaultTerm_8 : decode prog_11_method_8_code 8 = .ok (.iconst (-1), 1) := by decide +kernel
theorem d_Terms_defaultTerm_9 : decode prog_11_method_8_code 9 = .ok (.ireturn, 1) := by decide +kernel
theorem d_Terms_defaultTerm_10 : decode prog_11_method_8_code 10 = .ok (.aload_n 1, 1) := by decide +kernel
theorem d_Terms_defaultTerm_11 : decode prog_11_method_8_code 11 = .ok (.getfield 128, 3) := by decide +kernel
theorem d_Terms_defaultTerm_14 : decode prog_11_method_8_code 14 = .ok (.iconst 1, 1) := by decide +kernel
theorem d_Terms_defaultTerm_15 : decode prog_11_method_8_code 15 = .ok (.if_icmp .ne 12, 3) := by decide +kernel
theorem d_Terms_defaultTerm_18 : decode prog_11_method_8_code 18 = .ok (.aload_n 0, 1) := by decide +kernel
theorem d_Terms_defaultTerm_19 : decode prog_11_method_8_code 19 = .ok (.iconst 2, 1) := by decide +kernel
theorem d_Terms_defaultTerm_20 : decode prog_11_method_8_code 20 = .ok (.iconst 0, 1) := by decide +kernel
theorem d_Terms_defaultTerm_21 : decode prog_11_method_8_code 21 = .ok (.invokevirtual 60, 3) := by decide +kernel
theorem d_Terms_defaultTerm_24 : decode prog_11_method_8_code 24 = .ok (.goto 12, 3) := by decide +kernel
theorem d_Terms_defaultTerm_27 : decode prog_11_method_8_code 27 = .ok (.aload_n 0, 1) := by decide +kernel
theorem d_Terms_defaultTerm_28 : decode prog_11_method_8_code 28 = .ok (.iconst 1, 1) := by decide +kernel
theorem d_Terms_defaultTerm_29 : decode prog_11_method_8_code 29 = .ok (.aload_n 1, 1) := by decide +kernel
theorem d_Terms_defaultTerm_30 : decode prog_11_method_8_code 30 = .ok (.invokevirtual 129, 3) := by decide +kernel
theorem d_Terms_defaultTerm_33 : decode prog_11_method_8_code 33 = .ok (.invokevirtual 60, 3) := by decide +kernel
theorem d_Terms_defaultTerm_36 : decode prog_11_method_8_code 36 = .ok (.ireturn, 1) := by decide +kernel
abbrev M_Terms_unwrap : q_M := (⟨"LensPaths$Terms", "unwrap", "(LLensPaths$Primitive;I)I"⟩, prog_11_method_9_code, 3, (some .int), "LensPaths$Terms", [], false, 2, 50)
theorem d_Terms_unwrap_0 : decode prog_11_method_9_code 0 = .ok (.aload_n 0, 1) := by decide +kernel
theorem d_Terms_unwrap_1 : decode prog_11_method_9_code 1 = .ok (.getfield 21, 3) := by decide +kernel
theorem d_Terms_unwrap_4 : decode prog_11_method_9_code 4 = .ok (.iload_n 2, 1) := by decide +kernel
theorem d_Terms_unwrap_5 : decode prog_11_method_9_code 5 = .ok (.iaload, 1) := by decide +kernel
theorem d_Terms_unwrap_6 : decode prog_11_method_9_code 6 = .ok (.iconst 3, 1) := by decide +kernel
theorem d_Terms_unwrap_7 : decode prog_11_method_9_code 7 = .ok (.if_icmp .ne 10, 3) := by decide +kernel
theorem d_Terms_unwrap_10 : decode prog_11_method_9_code 10 = .ok (.aload_n 0, 1) := by decide +kernel
theorem d_Terms_unwrap_11 : decode prog_11_method_9_code 11 = .ok (.getfield 24, 3) := by decide +kernel
theorem d_Terms_unwrap_14 : decode prog_11_method_9_code 14 = .ok (.iload_n 2, 1) := by decide +kernel
theorem d_Terms_unwrap_15 : decode prog_11_method_9_code 15 = .ok (.iaload, 1) := by decide +kernel
theorem d_Terms_unwrap_16 : decode prog_11_method_9_code 16 = .ok (.ireturn, 1) := by decide +kernel
theorem d_Terms_unwrap_17 : decode prog_11_method_9_code 17 = .ok (.aload_n 0, 1) := by decide +kernel
theorem d_Terms_unwrap_18 : decode prog_11_method_9_code 18 = .ok (.getfield 21, 3) := by decide +kernel
theorem d_Terms_unwrap_21 : decode prog_11_method_9_code 21 = .ok (.iload_n 2, 1) := by decide +kernel
theorem d_Terms_unwrap_22 : decode prog_11_method_9_code 22 = .ok (.iaload, 1) := by decide +kernel
theorem d_Terms_unwrap_23 : decode prog_11_method_9_code 23 = .ok (.iconst 2, 1) := by decide +kernel
theorem d_Terms_unwrap_24 : decode prog_11_method_9_code 24 = .ok (.if_icmp .ne 15, 3) := by decide +kernel
theorem d_Terms_unwrap_27 : decode prog_11_method_9_code 27 = .ok (.aload_n 0, 1) := by decide +kernel
theorem d_Terms_unwrap_28 : decode prog_11_method_9_code 28 = .ok (.iconst 1, 1) := by decide +kernel
theorem d_Terms_unwrap_29 : decode prog_11_method_9_code 29 = .ok (.aload_n 1, 1) := by decide +kernel
theorem d_Terms_unwrap_30 : decode prog_11_method_9_code 30 = .ok (.invokevirtual 129, 3) := by decide +kernel
theorem d_Terms_unwrap_33 : decode prog_11_method_9_code 33 = .ok (.invokevirtual 60, 3) := by decide +kernel
theorem d_Terms_unwrap_36 : decode prog_11_method_9_code 36 = .ok (.goto 9, 3) := by decide +kernel
theorem d_Terms_unwrap_39 : decode prog_11_method_9_code 39 = .ok (.aload_n 0, 1) := by decide +kernel
theorem d_Terms_unwrap_40 : decode prog_11_method_9_code 40 = .ok (.iconst 4, 1) := by decide +kernel
theorem d_Terms_unwrap_41 : decode prog_11_method_9_code 41 = .ok (.iload_n 2, 1) := by decide +kernel
theorem d_Terms_unwrap_42 : decode prog_11_method_9_code 42 = .ok (.invokevirtual 60, 3) := by decide +kernel
theorem d_Terms_unwrap_45 : decode prog_11_method_9_code 45 = .ok (.ireturn, 1) := by decide +kernel
abbrev M_Terms_split : q_M := (⟨"LensPaths$Terms", "split", "(LLensPaths$Primitive;I)V"⟩, prog_11_method_10_code, 3, none, "LensPaths$Terms", [], false, 2, 50)
theorem d_Terms_split_0 : decode prog_11_method_10_code 0 = .ok (.aload_n 0, 1) := by decide +kernel
theorem d_Terms_split_1 : decode prog_11_method_10_code 1 = .ok (.getfield 21, 3) := by decide +kernel
theorem d_Terms_split_4 : decode prog_11_method_10_code 4 = .ok (.iload_n 2, 1) := by decide +kernel
theorem d_Terms_split_5 : decode prog_11_method_10_code 5 = .ok (.iaload, 1) := by decide +kernel
theorem d_Terms_split_6 : decode prog_11_method_10_code 6 = .ok (.iconst 1, 1) := by decide +kernel
theorem d_Terms_split_7 : decode prog_11_method_10_code 7 = .ok (.if_icmp .ne 60, 3) := by decide +kernel
theorem d_Terms_split_10 : decode prog_11_method_10_code 10 = .ok (.aload_n 0, 1) := by decide +kernel
theorem d_Terms_split_11 : decode prog_11_method_10_code 11 = .ok (.getfield 18, 3) := by decide +kernel
theorem d_Terms_split_14 : decode prog_11_method_10_code 14 = .ok (.aload_n 1, 1) := by decide +kernel
theorem d_Terms_split_15 : decode prog_11_method_10_code 15 = .ok (.getfield 84, 3) := by decide +kernel
theorem d_Terms_split_18 : decode prog_11_method_10_code 18 = .ok (.aload_n 0, 1) := by decide +kernel
theorem d_Terms_split_19 : decode prog_11_method_10_code 19 = .ok (.iconst 1, 1) := by decide +kernel
theorem d_Terms_split_20 : decode prog_11_method_10_code 20 = .ok (.aload_n 0, 1) := by decide +kernel
theorem d_Terms_split_21 : decode prog_11_method_10_code 21 = .ok (.getfield 24, 3) := by decide +kernel
theorem d_Terms_split_24 : decode prog_11_method_10_code 24 = .ok (.iload_n 2, 1) := by decide +kernel
theorem d_Terms_split_25 : decode prog_11_method_10_code 25 = .ok (.iaload, 1) := by decide +kernel
theorem d_Terms_split_26 : decode prog_11_method_10_code 26 = .ok (.aload_n 1, 1) := by decide +kernel
theorem d_Terms_split_27 : decode prog_11_method_10_code 27 = .ok (.getfield 107, 3) := by decide +kernel
theorem d_Terms_split_30 : decode prog_11_method_10_code 30 = .ok (.invokestatic 133, 3) := by decide +kernel
theorem d_Terms_split_33 : decode prog_11_method_10_code 33 = .ok (.invokevirtual 60, 3) := by decide +kernel
theorem d_Terms_split_36 : decode prog_11_method_10_code 36 = .ok (.iastore, 1) := by decide +kernel
theorem d_Terms_split_37 : decode prog_11_method_10_code 37 = .ok (.aload_n 0, 1) := by decide +kernel
theorem d_Terms_split_38 : decode prog_11_method_10_code 38 = .ok (.getfield 18, 3) := by decide +kernel
theorem d_Terms_split_41 : decode prog_11_method_10_code 41 = .ok (.aload_n 1, 1) := by decide +kernel
theorem d_Terms_split_42 : decode prog_11_method_10_code 42 = .ok (.getfield 118, 3) := by decide +kernel
theorem d_Terms_split_45 : decode prog_11_method_10_code 45 = .ok (.aload_n 0, 1) := by decide +kernel
theorem d_Terms_split_46 : decode prog_11_method_10_code 46 = .ok (.iconst 1, 1) := by decide +kernel
theorem d_Terms_split_47 : decode prog_11_method_10_code 47 = .ok (.aload_n 0, 1) := by decide +kernel
theorem d_Terms_split_48 : decode prog_11_method_10_code 48 = .ok (.getfield 24, 3) := by decide +kernel
theorem d_Terms_split_51 : decode prog_11_method_10_code 51 = .ok (.iload_n 2, 1) := by decide +kernel
theorem d_Terms_split_52 : decode prog_11_method_10_code 52 = .ok (.iaload, 1) := by decide +kernel
theorem d_Terms_split_53 : decode prog_11_method_10_code 53 = .ok (.aload_n 1, 1) := by decide +kernel
theorem d_Terms_split_54 : decode prog_11_method_10_code 54 = .ok (.getfield 107, 3) := by decide +kernel
theorem d_Terms_split_57 : decode prog_11_method_10_code 57 = .ok (.invokestatic 138, 3) := by decide +kernel
theorem d_Terms_split_60 : decode prog_11_method_10_code 60 = .ok (.invokevirtual 60, 3) := by decide +kernel
theorem d_Terms_split_63 : decode prog_11_method_10_code 63 = .ok (.iastore, 1) := by decide +kernel
theorem d_Terms_split_64 : decode prog_11_method_10_code 64 = .ok (.goto 107, 3) := by decide +kernel
theorem d_Terms_split_67 : decode prog_11_method_10_code 67 = .ok (.aload_n 0, 1) := by decide +kernel
theorem d_Terms_split_68 : decode prog_11_method_10_code 68 = .ok (.getfield 21, 3) := by decide +kernel
theorem d_Terms_split_71 : decode prog_11_method_10_code 71 = .ok (.iload_n 2, 1) := by decide +kernel
theorem d_Terms_split_72 : decode prog_11_method_10_code 72 = .ok (.iaload, 1) := by decide +kernel
theorem d_Terms_split_73 : decode prog_11_method_10_code 73 = .ok (.bipush 7, 2) := by decide +kernel
theorem d_Terms_split_75 : decode prog_11_method_10_code 75 = .ok (.if_icmp .ne 49, 3) := by decide +kernel
theorem d_Terms_split_78 : decode prog_11_method_10_code 78 = .ok (.aload_n 0, 1) := by decide +kernel
theorem d_Terms_split_79 : decode prog_11_method_10_code 79 = .ok (.getfield 30, 3) := by decide +kernel
theorem d_Terms_split_82 : decode prog_11_method_10_code 82 = .ok (.iload_n 2, 1) := by decide +kernel
theorem d_Terms_split_83 : decode prog_11_method_10_code 83 = .ok (.iaload, 1) := by decide +kernel
theorem d_Terms_split_84 : decode prog_11_method_10_code 84 = .ok (.aload_n 1, 1) := by decide +kernel
theorem d_Terms_split_85 : decode prog_11_method_10_code 85 = .ok (.getfield 107, 3) := by decide +kernel
theorem d_Terms_split_88 : decode prog_11_method_10_code 88 = .ok (.if_icmp .ne 36, 3) := by decide +kernel
theorem d_Terms_split_91 : decode prog_11_method_10_code 91 = .ok (.aload_n 0, 1) := by decide +kernel
theorem d_Terms_split_92 : decode prog_11_method_10_code 92 = .ok (.getfield 18, 3) := by decide +kernel
theorem d_Terms_split_95 : decode prog_11_method_10_code 95 = .ok (.aload_n 1, 1) := by decide +kernel
theorem d_Terms_split_96 : decode prog_11_method_10_code 96 = .ok (.getfield 84, 3) := by decide +kernel
theorem d_Terms_split_99 : decode prog_11_method_10_code 99 = .ok (.aload_n 0, 1) := by decide +kernel
theorem d_Terms_split_100 : decode prog_11_method_10_code 100 = .ok (.getfield 24, 3) := by decide +kernel
theorem d_Terms_split_103 : decode prog_11_method_10_code 103 = .ok (.iload_n 2, 1) := by decide +kernel
theorem d_Terms_split_104 : decode prog_11_method_10_code 104 = .ok (.iaload, 1) := by decide +kernel
theorem d_Terms_split_105 : decode prog_11_method_10_code 105 = .ok (.iastore, 1) := by decide +kernel
theorem d_Terms_split_106 : decode prog_11_method_10_code 106 = .ok (.aload_n 0, 1) := by decide +kernel
theorem d_Terms_split_107 : decode prog_11_method_10_code 107 = .ok (.getfield 18, 3) := by decide +kernel
theorem d_Terms_split_110 : decode prog_11_method_10_code 110 = .ok (.aload_n 1, 1) := by decide +kernel
theorem d_Terms_split_111 : decode prog_11_method_10_code 111 = .ok (.getfield 118, 3) := by decide +kernel
theorem d_Terms_split_114 : decode prog_11_method_10_code 114 = .ok (.aload_n 0, 1) := by decide +kernel
theorem d_Terms_split_115 : decode prog_11_method_10_code 115 = .ok (.getfield 27, 3) := by decide +kernel
theorem d_Terms_split_118 : decode prog_11_method_10_code 118 = .ok (.iload_n 2, 1) := by decide +kernel
theorem d_Terms_split_119 : decode prog_11_method_10_code 119 = .ok (.iaload, 1) := by decide +kernel
theorem d_Terms_split_120 : decode prog_11_method_10_code 120 = .ok (.iastore, 1) := by decide +kernel
theorem d_Terms_split_121 : decode prog_11_method_10_code 121 = .ok (.goto 50, 3) := by decide +kernel
theorem d_Terms_split_124 : decode prog_11_method_10_code 124 = .ok (.aload_n 0, 1) := by decide +kernel
theorem d_Terms_split_125 : decode prog_11_method_10_code 125 = .ok (.getfield 18, 3) := by decide +kernel
theorem d_Terms_split_128 : decode prog_11_method_10_code 128 = .ok (.aload_n 1, 1) := by decide +kernel
theorem d_Terms_split_129 : decode prog_11_method_10_code 129 = .ok (.getfield 84, 3) := by decide +kernel
theorem d_Terms_split_132 : decode prog_11_method_10_code 132 = .ok (.aload_n 0, 1) := by decide +kernel
theorem d_Terms_split_133 : decode prog_11_method_10_code 133 = .ok (.iconst 5, 1) := by decide +kernel
theorem d_Terms_split_134 : decode prog_11_method_10_code 134 = .ok (.iload_n 2, 1) := by decide +kernel
theorem d_Terms_split_135 : decode prog_11_method_10_code 135 = .ok (.iconst 0, 1) := by decide +kernel
theorem d_Terms_split_136 : decode prog_11_method_10_code 136 = .ok (.aload_n 1, 1) := by decide +kernel
theorem d_Terms_split_137 : decode prog_11_method_10_code 137 = .ok (.getfield 107, 3) := by decide +kernel
theorem d_Terms_split_140 : decode prog_11_method_10_code 140 = .ok (.iconst 0, 1) := by decide +kernel
theorem d_Terms_split_141 : decode prog_11_method_10_code 141 = .ok (.iconst 0, 1) := by decide +kernel
theorem d_Terms_split_142 : decode prog_11_method_10_code 142 = .ok (.iconst 0, 1) := by decide +kernel
theorem d_Terms_split_143 : decode prog_11_method_10_code 143 = .ok (.invokevirtual 111, 3) := by decide +kernel
theorem d_Terms_split_146 : decode prog_11_method_10_code 146 = .ok (.iastore, 1) := by decide +kernel
theorem d_Terms_split_147 : decode prog_11_method_10_code 147 = .ok (.aload_n 0, 1) := by decide +kernel
theorem d_Terms_split_148 : decode prog_11_method_10_code 148 = .ok (.getfield 18, 3) := by decide +kernel
theorem d_Terms_split_151 : decode prog_11_method_10_code 151 = .ok (.aload_n 1, 1) := by decide +kernel
theorem d_Terms_split_152 : decode prog_11_method_10_code 152 = .ok (.getfield 118, 3) := by decide +kernel
theorem d_Terms_split_155 : decode prog_11_method_10_code 155 = .ok (.aload_n 0, 1) := by decide +kernel
theorem d_Terms_split_156 : decode prog_11_method_10_code 156 = .ok (.bipush 6, 2) := by decide +kernel
theorem d_Terms_split_158 : decode prog_11_method_10_code 158 = .ok (.iload_n 2, 1) := by decide +kernel
theorem d_Terms_split_159 : decode prog_11_method_10_code 159 = .ok (.iconst 0, 1) := by decide +kernel
theorem d_Terms_split_160 : decode prog_11_method_10_code 160 = .ok (.aload_n 1, 1) := by decide +kernel
theorem d_Terms_split_161 : decode prog_11_method_10_code 161 = .ok (.getfield 107, 3) := by decide +kernel
theorem d_Terms_split_164 : decode prog_11_method_10_code 164 = .ok (.iconst 0, 1) := by decide +kernel
theorem d_Terms_split_165 : decode prog_11_method_10_code 165 = .ok (.iconst 0, 1) := by decide +kernel
theorem d_Terms_split_166 : decode prog_11_method_10_code 166 = .ok (.iconst 0, 1) := by decide +kernel
theorem d_Terms_split_167 : decode prog_11_method_10_code 167 = .ok (.invokevirtual 111, 3) := by decide +kernel
theorem d_Terms_split_170 : decode prog_11_method_10_code 170 = .ok (.iastore, 1) := by decide +kernel
theorem d_Terms_split_171 : decode prog_11_method_10_code 171 = .ok (.return_, 1) := by decide +kernel
abbrev M_Terms_join : q_M := (⟨"LensPaths$Terms", "join", "(LLensPaths$Primitive;II)I"⟩, prog_11_method_11_code, 5, (some .int), "LensPaths$Terms", [], false, 2, 50)
theorem d_Terms_join_0 : decode prog_11_method_11_code 0 = .ok (.aload_n 0, 1) := by decide +kernel
theorem d_Terms_join_1 : decode prog_11_method_11_code 1 = .ok (.getfield 21, 3) := by decide +kernel
theorem d_Terms_join_4 : decode prog_11_method_11_code 4 = .ok (.iload_n 2, 1) := by decide +kernel
theorem d_Terms_join_5 : decode prog_11_method_11_code 5 = .ok (.iaload, 1) := by decide +kernel
theorem d_Terms_join_6 : decode prog_11_method_11_code 6 = .ok (.iconst 1, 1) := by decide +kernel
theorem d_Terms_join_7 : decode prog_11_method_11_code 7 = .ok (.if_icmp .ne 37, 3) := by decide +kernel
theorem d_Terms_join_10 : decode prog_11_method_11_code 10 = .ok (.aload_n 0, 1) := by decide +kernel
theorem d_Terms_join_11 : decode prog_11_method_11_code 11 = .ok (.getfield 21, 3) := by decide +kernel
theorem d_Terms_join_14 : decode prog_11_method_11_code 14 = .ok (.iload_n 3, 1) := by decide +kernel
theorem d_Terms_join_15 : decode prog_11_method_11_code 15 = .ok (.iaload, 1) := by decide +kernel
theorem d_Terms_join_16 : decode prog_11_method_11_code 16 = .ok (.iconst 1, 1) := by decide +kernel
theorem d_Terms_join_17 : decode prog_11_method_11_code 17 = .ok (.if_icmp .ne 27, 3) := by decide +kernel
theorem d_Terms_join_20 : decode prog_11_method_11_code 20 = .ok (.aload_n 0, 1) := by decide +kernel
theorem d_Terms_join_21 : decode prog_11_method_11_code 21 = .ok (.iconst 1, 1) := by decide +kernel
theorem d_Terms_join_22 : decode prog_11_method_11_code 22 = .ok (.aload_n 0, 1) := by decide +kernel
theorem d_Terms_join_23 : decode prog_11_method_11_code 23 = .ok (.getfield 24, 3) := by decide +kernel
theorem d_Terms_join_26 : decode prog_11_method_11_code 26 = .ok (.iload_n 2, 1) := by decide +kernel
theorem d_Terms_join_27 : decode prog_11_method_11_code 27 = .ok (.iaload, 1) := by decide +kernel
theorem d_Terms_join_28 : decode prog_11_method_11_code 28 = .ok (.aload_n 1, 1) := by decide +kernel
theorem d_Terms_join_29 : decode prog_11_method_11_code 29 = .ok (.getfield 107, 3) := by decide +kernel
theorem d_Terms_join_32 : decode prog_11_method_11_code 32 = .ok (.imul, 1) := by decide +kernel
theorem d_Terms_join_33 : decode prog_11_method_11_code 33 = .ok (.aload_n 0, 1) := by decide +kernel
theorem d_Terms_join_34 : decode prog_11_method_11_code 34 = .ok (.getfield 24, 3) := by decide +kernel
theorem d_Terms_join_37 : decode prog_11_method_11_code 37 = .ok (.iload_n 3, 1) := by decide +kernel
theorem d_Terms_join_38 : decode prog_11_method_11_code 38 = .ok (.iaload, 1) := by decide +kernel
theorem d_Terms_join_39 : decode prog_11_method_11_code 39 = .ok (.iadd, 1) := by decide +kernel
theorem d_Terms_join_40 : decode prog_11_method_11_code 40 = .ok (.invokevirtual 60, 3) := by decide +kernel
theorem d_Terms_join_43 : decode prog_11_method_11_code 43 = .ok (.ireturn, 1) := by decide +kernel
theorem d_Terms_join_44 : decode prog_11_method_11_code 44 = .ok (.aload_n 0, 1) := by decide +kernel
theorem d_Terms_join_45 : decode prog_11_method_11_code 45 = .ok (.getfield 21, 3) := by decide +kernel
theorem d_Terms_join_48 : decode prog_11_method_11_code 48 = .ok (.iload_n 2, 1) := by decide +kernel
theorem d_Terms_join_49 : decode prog_11_method_11_code 49 = .ok (.iaload, 1) := by decide +kernel
theorem d_Terms_join_50 : decode prog_11_method_11_code 50 = .ok (.iconst 5, 1) := by decide +kernel
theorem d_Terms_join_51 : decode prog_11_method_11_code 51 = .ok (.if_icmp .ne 59, 3) := by decide +kernel
theorem d_Terms_join_54 : decode prog_11_method_11_code 54 = .ok (.aload_n 0, 1) := by decide +kernel
theorem d_Terms_join_55 : decode prog_11_method_11_code 55 = .ok (.getfield 21, 3) := by decide +kernel
theorem d_Terms_join_58 : decode prog_11_method_11_code 58 = .ok (.iload_n 3, 1) := by decide +kernel
theorem d_Terms_join_59 : decode prog_11_method_11_code 59 = .ok (.iaload, 1) := by decide +kernel
theorem d_Terms_join_60 : decode prog_11_method_11_code 60 = .ok (.bipush 6, 2) := by decide +kernel
theorem d_Terms_join_62 : decode prog_11_method_11_code 62 = .ok (.if_icmp .ne 48, 3) := by decide +kernel
theorem d_Terms_join_65 : decode prog_11_method_11_code 65 = .ok (.aload_n 0, 1) := by decide +kernel
theorem d_Terms_join_66 : decode prog_11_method_11_code 66 = .ok (.getfield 24, 3) := by decide +kernel
theorem d_Terms_join_69 : decode prog_11_method_11_code 69 = .ok (.iload_n 2, 1) := by decide +kernel
theorem d_Terms_join_70 : decode prog_11_method_11_code 70 = .ok (.iaload, 1) := by decide +kernel
theorem d_Terms_join_71 : decode prog_11_method_11_code 71 = .ok (.aload_n 0, 1) := by decide +kernel
theorem d_Terms_join_72 : decode prog_11_method_11_code 72 = .ok (.getfield 24, 3) := by decide +kernel
theorem d_Terms_join_75 : decode prog_11_method_11_code 75 = .ok (.iload_n 3, 1) := by decide +kernel
theorem d_Terms_join_76 : decode prog_11_method_11_code 76 = .ok (.iaload, 1) := by decide +kernel
theorem d_Terms_join_77 : decode prog_11_method_11_code 77 = .ok (.if_icmp .ne 33, 3) := by decide +kernel
theorem d_Terms_join_80 : decode prog_11_method_11_code 80 = .ok (.aload_n 0, 1) := by decide +kernel
theorem d_Terms_join_81 : decode prog_11_method_11_code 81 = .ok (.getfield 30, 3) := by decide +kernel
theorem d_Terms_join_84 : decode prog_11_method_11_code 84 = .ok (.iload_n 2, 1) := by decide +kernel
theorem d_Terms_join_85 : decode prog_11_method_11_code 85 = .ok (.iaload, 1) := by decide +kernel
theorem d_Terms_join_86 : decode prog_11_method_11_code 86 = .ok (.aload_n 1, 1) := by decide +kernel
theorem d_Terms_join_87 : decode prog_11_method_11_code 87 = .ok (.getfield 107, 3) := by decide +kernel
theorem d_Terms_join_90 : decode prog_11_method_11_code 90 = .ok (.if_icmp .ne 20, 3) := by decide +kernel
theorem d_Terms_join_93 : decode prog_11_method_11_code 93 = .ok (.aload_n 0, 1) := by decide +kernel
theorem d_Terms_join_94 : decode prog_11_method_11_code 94 = .ok (.getfield 30, 3) := by decide +kernel
theorem d_Terms_join_97 : decode prog_11_method_11_code 97 = .ok (.iload_n 3, 1) := by decide +kernel
theorem d_Terms_join_98 : decode prog_11_method_11_code 98 = .ok (.iaload, 1) := by decide +kernel
theorem d_Terms_join_99 : decode prog_11_method_11_code 99 = .ok (.aload_n 1, 1) := by decide +kernel
theorem d_Terms_join_100 : decode prog_11_method_11_code 100 = .ok (.getfield 107, 3) := by decide +kernel
theorem d_Terms_join_103 : decode prog_11_method_11_code 103 = .ok (.if_icmp .ne 7, 3) := by decide +kernel
theorem d_Terms_join_106 : decode prog_11_method_11_code 106 = .ok (.iconst 1, 1) := by decide +kernel
theorem d_Terms_join_107 : decode prog_11_method_11_code 107 = .ok (.goto 4, 3) := by decide +kernel
theorem d_Terms_join_110 : decode prog_11_method_11_code 110 = .ok (.iconst 0, 1) := by decide +kernel
theorem d_Terms_join_111 : decode prog_11_method_11_code 111 = .ok (.istore 4, 2) := by decide +kernel
theorem d_Terms_join_113 : decode prog_11_method_11_code 113 = .ok (.iload 4, 2) := by decide +kernel
theorem d_Terms_join_115 : decode prog_11_method_11_code 115 = .ok (.ifCond .eq 12, 3) := by decide +kernel
theorem d_Terms_join_118 : decode prog_11_method_11_code 118 = .ok (.aload_n 0, 1) := by decide +kernel
theorem d_Terms_join_119 : decode prog_11_method_11_code 119 = .ok (.getfield 24, 3) := by decide +kernel
theorem d_Terms_join_122 : decode prog_11_method_11_code 122 = .ok (.iload_n 2, 1) := by decide +kernel
theorem d_Terms_join_123 : decode prog_11_method_11_code 123 = .ok (.iaload, 1) := by decide +kernel
theorem d_Terms_join_124 : decode prog_11_method_11_code 124 = .ok (.goto 18, 3) := by decide +kernel
theorem d_Terms_join_127 : decode prog_11_method_11_code 127 = .ok (.aload_n 0, 1) := by decide +kernel
theorem d_Terms_join_128 : decode prog_11_method_11_code 128 = .ok (.bipush 7, 2) := by decide +kernel
theorem d_Terms_join_130 : decode prog_11_method_11_code 130 = .ok (.iload_n 2, 1) := by decide +kernel
theorem d_Terms_join_131 : decode prog_11_method_11_code 131 = .ok (.iload_n 3, 1) := by decide +kernel
theorem d_Terms_join_132 : decode prog_11_method_11_code 132 = .ok (.aload_n 1, 1) := by decide +kernel
theorem d_Terms_join_133 : decode prog_11_method_11_code 133 = .ok (.getfield 107, 3) := by decide +kernel
theorem d_Terms_join_136 : decode prog_11_method_11_code 136 = .ok (.iconst 0, 1) := by decide +kernel
theorem d_Terms_join_137 : decode prog_11_method_11_code 137 = .ok (.iconst 0, 1) := by decide +kernel
theorem d_Terms_join_138 : decode prog_11_method_11_code 138 = .ok (.iconst 0, 1) := by decide +kernel
theorem d_Terms_join_139 : decode prog_11_method_11_code 139 = .ok (.invokevirtual 111, 3) := by decide +kernel
theorem d_Terms_join_142 : decode prog_11_method_11_code 142 = .ok (.ireturn, 1) := by decide +kernel
abbrev M_Terms_scaleForth : q_M := (⟨"LensPaths$Terms", "scaleForth", "(LLensPaths$Primitive;I)I"⟩, prog_11_method_12_code, 3, (some .int), "LensPaths$Terms", [], false, 2, 50)
theorem d_Terms_scaleForth_0 : decode prog_11_method_12_code 0 = .ok (.aload_n 1, 1) := by decide +kernel
theorem d_Terms_scaleForth_1 : decode prog_11_method_12_code 1 = .ok (.getfield 107, 3) := by decide +kernel
theorem d_Terms_scaleForth_4 : decode prog_11_method_12_code 4 = .ok (.aload_n 1, 1) := by decide +kernel
theorem d_Terms_scaleForth_5 : decode prog_11_method_12_code 5 = .ok (.getfield 109, 3) := by decide +kernel
theorem d_Terms_scaleForth_8 : decode prog_11_method_12_code 8 = .ok (.if_icmp .ne 5, 3) := by decide +kernel
theorem d_Terms_scaleForth_11 : decode prog_11_method_12_code 11 = .ok (.iload_n 2, 1) := by decide +kernel
theorem d_Terms_scaleForth_12 : decode prog_11_method_12_code 12 = .ok (.ireturn, 1) := by decide +kernel
theorem d_Terms_scaleForth_13 : decode prog_11_method_12_code 13 = .ok (.aload_n 0, 1) := by decide +kernel
theorem d_Terms_scaleForth_14 : decode prog_11_method_12_code 14 = .ok (.getfield 21, 3) := by decide +kernel
theorem d_Terms_scaleForth_17 : decode prog_11_method_12_code 17 = .ok (.iload_n 2, 1) := by decide +kernel
theorem d_Terms_scaleForth_18 : decode prog_11_method_12_code 18 = .ok (.iaload, 1) := by decide +kernel
theorem d_Terms_scaleForth_19 : decode prog_11_method_12_code 19 = .ok (.iconst 1, 1) := by decide +kernel
theorem d_Terms_scaleForth_20 : decode prog_11_method_12_code 20 = .ok (.if_icmp .ne 21, 3) := by decide +kernel
theorem d_Terms_scaleForth_23 : decode prog_11_method_12_code 23 = .ok (.aload_n 0, 1) := by decide +kernel
theorem d_Terms_scaleForth_24 : decode prog_11_method_12_code 24 = .ok (.iconst 1, 1) := by decide +kernel
theorem d_Terms_scaleForth_25 : decode prog_11_method_12_code 25 = .ok (.aload_n 1, 1) := by decide +kernel
theorem d_Terms_scaleForth_26 : decode prog_11_method_12_code 26 = .ok (.aload_n 0, 1) := by decide +kernel
theorem d_Terms_scaleForth_27 : decode prog_11_method_12_code 27 = .ok (.getfield 24, 3) := by decide +kernel
theorem d_Terms_scaleForth_30 : decode prog_11_method_12_code 30 = .ok (.iload_n 2, 1) := by decide +kernel
theorem d_Terms_scaleForth_31 : decode prog_11_method_12_code 31 = .ok (.iaload, 1) := by decide +kernel
theorem d_Terms_scaleForth_32 : decode prog_11_method_12_code 32 = .ok (.invokevirtual 141, 3) := by decide +kernel
theorem d_Terms_scaleForth_35 : decode prog_11_method_12_code 35 = .ok (.invokevirtual 60, 3) := by decide +kernel
theorem d_Terms_scaleForth_38 : decode prog_11_method_12_code 38 = .ok (.goto 21, 3) := by decide +kernel
theorem d_Terms_scaleForth_41 : decode prog_11_method_12_code 41 = .ok (.aload_n 0, 1) := by decide +kernel
theorem d_Terms_scaleForth_42 : decode prog_11_method_12_code 42 = .ok (.bipush 8, 2) := by decide +kernel
theorem d_Terms_scaleForth_44 : decode prog_11_method_12_code 44 = .ok (.iload_n 2, 1) := by decide +kernel
theorem d_Terms_scaleForth_45 : decode prog_11_method_12_code 45 = .ok (.iconst 0, 1) := by decide +kernel
theorem d_Terms_scaleForth_46 : decode prog_11_method_12_code 46 = .ok (.aload_n 1, 1) := by decide +kernel
theorem d_Terms_scaleForth_47 : decode prog_11_method_12_code 47 = .ok (.getfield 107, 3) := by decide +kernel
theorem d_Terms_scaleForth_50 : decode prog_11_method_12_code 50 = .ok (.aload_n 1, 1) := by decide +kernel
theorem d_Terms_scaleForth_51 : decode prog_11_method_12_code 51 = .ok (.getfield 109, 3) := by decide +kernel
theorem d_Terms_scaleForth_54 : decode prog_11_method_12_code 54 = .ok (.iconst 0, 1) := by decide +kernel
theorem d_Terms_scaleForth_55 : decode prog_11_method_12_code 55 = .ok (.iconst 0, 1) := by decide +kernel
theorem d_Terms_scaleForth_56 : decode prog_11_method_12_code 56 = .ok (.invokevirtual 111, 3) := by decide +kernel
theorem d_Terms_scaleForth_59 : decode prog_11_method_12_code 59 = .ok (.ireturn, 1) := by decide +kernel
abbrev M_Terms_scaleBack : q_M := (⟨"LensPaths$Terms", "scaleBack", "(LLensPaths$Primitive;I)I"⟩, prog_11_method_13_code, 3, (some .int), "LensPaths$Terms", [], false, 2, 50)
theorem d_Terms_scaleBack_0 : decode prog_11_method_13_code 0 = .ok (.aload_n 1, 1) := by decide +kernel
theorem d_Terms_scaleBack_1 : decode prog_11_method_13_code 1 = .ok (.getfield 107, 3) := by decide +kernel
theorem d_Terms_scaleBack_4 : decode prog_11_method_13_code 4 = .ok (.aload_n 1, 1) := by decide +kernel
theorem d_Terms_scaleBack_5 : decode prog_11_method_13_code 5 = .ok (.getfield 109, 3) := by decide +kernel
theorem d_Terms_scaleBack_8 : decode prog_11_method_13_code 8 = .ok (.if_icmp .ne 5, 3) := by decide +kernel
theorem d_Terms_scaleBack_11 : decode prog_11_method_13_code 11 = .ok (.iload_n 2, 1) := by decide +kernel
theorem d_Terms_scaleBack_12 : decode prog_11_method_13_code 12 = .ok (.ireturn, 1) := by decide +kernel
theorem d_Terms_scaleBack_13 : decode prog_11_method_13_code 13 = .ok (.aload_n 0, 1) := by decide +kernel
theorem d_Terms_scaleBack_14 : decode prog_11_method_13_code 14 = .ok (.getfield 21, 3) := by decide +kernel
theorem d_Terms_scaleBack_17 : decode prog_11_method_13_code 17 = .ok (.iload_n 2, 1) := by decide +kernel
theorem d_Terms_scaleBack_18 : decode prog_11_method_13_code 18 = .ok (.iaload, 1) := by decide +kernel
theorem d_Terms_scaleBack_19 : decode prog_11_method_13_code 19 = .ok (.iconst 1, 1) := by decide +kernel
theorem d_Terms_scaleBack_20 : decode prog_11_method_13_code 20 = .ok (.if_icmp .ne 21, 3) := by decide +kernel
theorem d_Terms_scaleBack_23 : decode prog_11_method_13_code 23 = .ok (.aload_n 0, 1) := by decide +kernel
theorem d_Terms_scaleBack_24 : decode prog_11_method_13_code 24 = .ok (.iconst 1, 1) := by decide +kernel
theorem d_Terms_scaleBack_25 : decode prog_11_method_13_code 25 = .ok (.aload_n 1, 1) := by decide +kernel
theorem d_Terms_scaleBack_26 : decode prog_11_method_13_code 26 = .ok (.aload_n 0, 1) := by decide +kernel
theorem d_Terms_scaleBack_27 : decode prog_11_method_13_code 27 = .ok (.getfield 24, 3) := by decide +kernel
theorem d_Terms_scaleBack_30 : decode prog_11_method_13_code 30 = .ok (.iload_n 2, 1) := by decide +kernel
theorem d_Terms_scaleBack_31 : decode prog_11_method_13_code 31 = .ok (.iaload, 1) := by decide +kernel
theorem d_Terms_scaleBack_32 : decode prog_11_method_13_code 32 = .ok (.invokevirtual 143, 3) := by decide +kernel
theorem d_Terms_scaleBack_35 : decode prog_11_method_13_code 35 = .ok (.invokevirtual 60, 3) := by decide +kernel
theorem d_Terms_scaleBack_38 : decode prog_11_method_13_code 38 = .ok (.goto 27, 3) := by decide +kernel
theorem d_Terms_scaleBack_41 : decode prog_11_method_13_code 41 = .ok (.aload_n 0, 1) := by decide +kernel
theorem d_Terms_scaleBack_42 : decode prog_11_method_13_code 42 = .ok (.bipush 9, 2) := by decide +kernel
theorem d_Terms_scaleBack_44 : decode prog_11_method_13_code 44 = .ok (.iload_n 2, 1) := by decide +kernel
theorem d_Terms_scaleBack_45 : decode prog_11_method_13_code 45 = .ok (.iconst 0, 1) := by decide +kernel
theorem d_Terms_scaleBack_46 : decode prog_11_method_13_code 46 = .ok (.aload_n 1, 1) := by decide +kernel
theorem d_Terms_scaleBack_47 : decode prog_11_method_13_code 47 = .ok (.getfield 107, 3) := by decide +kernel
theorem d_Terms_scaleBack_50 : decode prog_11_method_13_code 50 = .ok (.aload_n 1, 1) := by decide +kernel
theorem d_Terms_scaleBack_51 : decode prog_11_method_13_code 51 = .ok (.getfield 109, 3) := by decide +kernel
theorem d_Terms_scaleBack_54 : decode prog_11_method_13_code 54 = .ok (.aload_n 1, 1) := by decide +kernel
theorem d_Terms_scaleBack_55 : decode prog_11_method_13_code 55 = .ok (.getfield 145, 3) := by decide +kernel
theorem d_Terms_scaleBack_58 : decode prog_11_method_13_code 58 = .ok (.aload_n 1, 1) := by decide +kernel
theorem d_Terms_scaleBack_59 : decode prog_11_method_13_code 59 = .ok (.getfield 147, 3) := by decide +kernel
theorem d_Terms_scaleBack_62 : decode prog_11_method_13_code 62 = .ok (.invokevirtual 111, 3) := by decide +kernel
theorem d_Terms_scaleBack_65 : decode prog_11_method_13_code 65 = .ok (.ireturn, 1) := by decide +kernel
abbrev M_Terms_passForth : q_M := (⟨"LensPaths$Terms", "passForth", "(LLensPaths$Primitive;)V"⟩, prog_11_method_6_code, 3, none, "LensPaths$Terms", [], false, 3, 72)
theorem d_Terms_passForth_0 : decode prog_11_method_6_code 0 = .ok (.aload_n 0, 1) := by decide +kernel
theorem d_Terms_passForth_1 : decode prog_11_method_6_code 1 = .ok (.getfield 18, 3) := by decide +kernel
theorem d_Terms_passForth_4 : decode prog_11_method_6_code 4 = .ok (.aload_n 1, 1) := by decide +kernel
theorem d_Terms_passForth_5 : decode prog_11_method_6_code 5 = .ok (.getfield 84, 3) := by decide +kernel
theorem d_Terms_passForth_8 : decode prog_11_method_6_code 8 = .ok (.iaload, 1) := by decide +kernel
theorem d_Terms_passForth_9 : decode prog_11_method_6_code 9 = .ok (.istore_n 2, 1) := by decide +kernel
theorem d_Terms_passForth_10 : decode prog_11_method_6_code 10 = .ok (.aload_n 1, 1) := by decide +kernel
theorem d_Terms_passForth_11 : decode prog_11_method_6_code 11 = .ok (.getfield 89, 3) := by decide +kernel
theorem d_Terms_passForth_14 : decode prog_11_method_6_code 14 = .ok (.tableswitch 220 1 8 #[46, 220, 63, 220, 81, 90, 108, 166], 46) := by decide +kernel
theorem d_Terms_passForth_60 : decode prog_11_method_6_code 60 = .ok (.aload_n 0, 1) := by decide +kernel
theorem d_Terms_passForth_61 : decode prog_11_method_6_code 61 = .ok (.getfield 18, 3) := by decide +kernel
theorem d_Terms_passForth_64 : decode prog_11_method_6_code 64 = .ok (.aload_n 1, 1) := by decide +kernel
theorem d_Terms_passForth_65 : decode prog_11_method_6_code 65 = .ok (.getfield 84, 3) := by decide +kernel
theorem d_Terms_passForth_68 : decode prog_11_method_6_code 68 = .ok (.aload_n 0, 1) := by decide +kernel
theorem d_Terms_passForth_69 : decode prog_11_method_6_code 69 = .ok (.aload_n 1, 1) := by decide +kernel
theorem d_Terms_passForth_70 : decode prog_11_method_6_code 70 = .ok (.invokevirtual 91, 3) := by decide +kernel
theorem d_Terms_passForth_73 : decode prog_11_method_6_code 73 = .ok (.iastore, 1) := by decide +kernel
theorem d_Terms_passForth_74 : decode prog_11_method_6_code 74 = .ok (.goto 160, 3) := by decide +kernel
theorem d_Terms_passForth_77 : decode prog_11_method_6_code 77 = .ok (.aload_n 0, 1) := by decide +kernel
theorem d_Terms_passForth_78 : decode prog_11_method_6_code 78 = .ok (.getfield 18, 3) := by decide +kernel
theorem d_Terms_passForth_81 : decode prog_11_method_6_code 81 = .ok (.aload_n 1, 1) := by decide +kernel
theorem d_Terms_passForth_82 : decode prog_11_method_6_code 82 = .ok (.getfield 84, 3) := by decide +kernel
theorem d_Terms_passForth_85 : decode prog_11_method_6_code 85 = .ok (.aload_n 0, 1) := by decide +kernel
theorem d_Terms_passForth_86 : decode prog_11_method_6_code 86 = .ok (.iconst 3, 1) := by decide +kernel
theorem d_Terms_passForth_87 : decode prog_11_method_6_code 87 = .ok (.iload_n 2, 1) := by decide +kernel
theorem d_Terms_passForth_88 : decode prog_11_method_6_code 88 = .ok (.invokevirtual 60, 3) := by decide +kernel
theorem d_Terms_passForth_91 : decode prog_11_method_6_code 91 = .ok (.iastore, 1) := by decide +kernel
theorem d_Terms_passForth_92 : decode prog_11_method_6_code 92 = .ok (.goto 142, 3) := by decide +kernel
theorem d_Terms_passForth_95 : decode prog_11_method_6_code 95 = .ok (.aload_n 0, 1) := by decide +kernel
theorem d_Terms_passForth_96 : decode prog_11_method_6_code 96 = .ok (.aload_n 1, 1) := by decide +kernel
theorem d_Terms_passForth_97 : decode prog_11_method_6_code 97 = .ok (.iload_n 2, 1) := by decide +kernel
theorem d_Terms_passForth_98 : decode prog_11_method_6_code 98 = .ok (.invokevirtual 95, 3) := by decide +kernel
theorem d_Terms_passForth_101 : decode prog_11_method_6_code 101 = .ok (.goto 133, 3) := by decide +kernel
theorem d_Terms_passForth_104 : decode prog_11_method_6_code 104 = .ok (.aload_n 0, 1) := by decide +kernel
theorem d_Terms_passForth_105 : decode prog_11_method_6_code 105 = .ok (.getfield 18, 3) := by decide +kernel
theorem d_Terms_passForth_108 : decode prog_11_method_6_code 108 = .ok (.aload_n 1, 1) := by decide +kernel
theorem d_Terms_passForth_109 : decode prog_11_method_6_code 109 = .ok (.getfield 84, 3) := by decide +kernel
theorem d_Terms_passForth_112 : decode prog_11_method_6_code 112 = .ok (.aload_n 0, 1) := by decide +kernel
theorem d_Terms_passForth_113 : decode prog_11_method_6_code 113 = .ok (.aload_n 1, 1) := by decide +kernel
theorem d_Terms_passForth_114 : decode prog_11_method_6_code 114 = .ok (.iload_n 2, 1) := by decide +kernel
theorem d_Terms_passForth_115 : decode prog_11_method_6_code 115 = .ok (.invokevirtual 99, 3) := by decide +kernel
theorem d_Terms_passForth_118 : decode prog_11_method_6_code 118 = .ok (.iastore, 1) := by decide +kernel
theorem d_Terms_passForth_119 : decode prog_11_method_6_code 119 = .ok (.goto 115, 3) := by decide +kernel
theorem d_Terms_passForth_122 : decode prog_11_method_6_code 122 = .ok (.aload_n 0, 1) := by decide +kernel
theorem d_Terms_passForth_123 : decode prog_11_method_6_code 123 = .ok (.getfield 18, 3) := by decide +kernel
theorem d_Terms_passForth_126 : decode prog_11_method_6_code 126 = .ok (.aload_n 1, 1) := by decide +kernel
theorem d_Terms_passForth_127 : decode prog_11_method_6_code 127 = .ok (.getfield 84, 3) := by decide +kernel
theorem d_Terms_passForth_130 : decode prog_11_method_6_code 130 = .ok (.aload_n 0, 1) := by decide +kernel
theorem d_Terms_passForth_131 : decode prog_11_method_6_code 131 = .ok (.getfield 21, 3) := by decide +kernel
theorem d_Terms_passForth_134 : decode prog_11_method_6_code 134 = .ok (.iload_n 2, 1) := by decide +kernel
theorem d_Terms_passForth_135 : decode prog_11_method_6_code 135 = .ok (.iaload, 1) := by decide +kernel
theorem d_Terms_passForth_136 : decode prog_11_method_6_code 136 = .ok (.iconst 1, 1) := by decide +kernel
theorem d_Terms_passForth_137 : decode prog_11_method_6_code 137 = .ok (.if_icmp .ne 21, 3) := by decide +kernel
theorem d_Terms_passForth_140 : decode prog_11_method_6_code 140 = .ok (.aload_n 0, 1) := by decide +kernel
theorem d_Terms_passForth_141 : decode prog_11_method_6_code 141 = .ok (.iconst 1, 1) := by decide +kernel
theorem d_Terms_passForth_142 : decode prog_11_method_6_code 142 = .ok (.aload_n 1, 1) := by decide +kernel
theorem d_Terms_passForth_143 : decode prog_11_method_6_code 143 = .ok (.aload_n 0, 1) := by decide +kernel
theorem d_Terms_passForth_144 : decode prog_11_method_6_code 144 = .ok (.getfield 24, 3) := by decide +kernel
theorem d_Terms_passForth_147 : decode prog_11_method_6_code 147 = .ok (.iload_n 2, 1) := by decide +kernel
theorem d_Terms_passForth_148 : decode prog_11_method_6_code 148 = .ok (.iaload, 1) := by decide +kernel
theorem d_Terms_passForth_149 : decode prog_11_method_6_code 149 = .ok (.invokevirtual 103, 3) := by decide +kernel
theorem d_Terms_passForth_152 : decode prog_11_method_6_code 152 = .ok (.invokevirtual 60, 3) := by decide +kernel
theorem d_Terms_passForth_155 : decode prog_11_method_6_code 155 = .ok (.goto 21, 3) := by decide +kernel
theorem d_Terms_passForth_158 : decode prog_11_method_6_code 158 = .ok (.aload_n 0, 1) := by decide +kernel
theorem d_Terms_passForth_159 : decode prog_11_method_6_code 159 = .ok (.bipush 10, 2) := by decide +kernel
theorem d_Terms_passForth_161 : decode prog_11_method_6_code 161 = .ok (.iload_n 2, 1) := by decide +kernel
theorem d_Terms_passForth_162 : decode prog_11_method_6_code 162 = .ok (.iconst 0, 1) := by decide +kernel
theorem d_Terms_passForth_163 : decode prog_11_method_6_code 163 = .ok (.aload_n 1, 1) := by decide +kernel
theorem d_Terms_passForth_164 : decode prog_11_method_6_code 164 = .ok (.getfield 107, 3) := by decide +kernel
theorem d_Terms_passForth_167 : decode prog_11_method_6_code 167 = .ok (.aload_n 1, 1) := by decide +kernel
theorem d_Terms_passForth_168 : decode prog_11_method_6_code 168 = .ok (.getfield 109, 3) := by decide +kernel
theorem d_Terms_passForth_171 : decode prog_11_method_6_code 171 = .ok (.iconst 0, 1) := by decide +kernel
theorem d_Terms_passForth_172 : decode prog_11_method_6_code 172 = .ok (.iconst 0, 1) := by decide +kernel
theorem d_Terms_passForth_173 : decode prog_11_method_6_code 173 = .ok (.invokevirtual 111, 3) := by decide +kernel
theorem d_Terms_passForth_176 : decode prog_11_method_6_code 176 = .ok (.iastore, 1) := by decide +kernel
theorem d_Terms_passForth_177 : decode prog_11_method_6_code 177 = .ok (.goto 57, 3) := by decide +kernel
theorem d_Terms_passForth_180 : decode prog_11_method_6_code 180 = .ok (.aload_n 0, 1) := by decide +kernel
theorem d_Terms_passForth_181 : decode prog_11_method_6_code 181 = .ok (.getfield 18, 3) := by decide +kernel
theorem d_Terms_passForth_184 : decode prog_11_method_6_code 184 = .ok (.aload_n 1, 1) := by decide +kernel
theorem d_Terms_passForth_185 : decode prog_11_method_6_code 185 = .ok (.getfield 84, 3) := by decide +kernel
theorem d_Terms_passForth_188 : decode prog_11_method_6_code 188 = .ok (.aload_n 0, 1) := by decide +kernel
theorem d_Terms_passForth_189 : decode prog_11_method_6_code 189 = .ok (.getfield 21, 3) := by decide +kernel
theorem d_Terms_passForth_192 : decode prog_11_method_6_code 192 = .ok (.iload_n 2, 1) := by decide +kernel
theorem d_Terms_passForth_193 : decode prog_11_method_6_code 193 = .ok (.iaload, 1) := by decide +kernel
theorem d_Terms_passForth_194 : decode prog_11_method_6_code 194 = .ok (.iconst 2, 1) := by decide +kernel
theorem d_Terms_passForth_195 : decode prog_11_method_6_code 195 = .ok (.if_icmp .eq 24, 3) := by decide +kernel
theorem d_Terms_passForth_198 : decode prog_11_method_6_code 198 = .ok (.aload_n 0, 1) := by decide +kernel
theorem d_Terms_passForth_199 : decode prog_11_method_6_code 199 = .ok (.getfield 21, 3) := by decide +kernel
theorem d_Terms_passForth_202 : decode prog_11_method_6_code 202 = .ok (.iload_n 2, 1) := by decide +kernel
theorem d_Terms_passForth_203 : decode prog_11_method_6_code 203 = .ok (.iaload, 1) := by decide +kernel
theorem d_Terms_passForth_204 : decode prog_11_method_6_code 204 = .ok (.iconst 3, 1) := by decide +kernel
theorem d_Terms_passForth_205 : decode prog_11_method_6_code 205 = .ok (.if_icmp .eq 14, 3) := by decide +kernel
theorem d_Terms_passForth_208 : decode prog_11_method_6_code 208 = .ok (.aload_n 0, 1) := by decide +kernel
theorem d_Terms_passForth_209 : decode prog_11_method_6_code 209 = .ok (.getfield 21, 3) := by decide +kernel
theorem d_Terms_passForth_212 : decode prog_11_method_6_code 212 = .ok (.iload_n 2, 1) := by decide +kernel
theorem d_Terms_passForth_213 : decode prog_11_method_6_code 213 = .ok (.iaload, 1) := by decide +kernel
theorem d_Terms_passForth_214 : decode prog_11_method_6_code 214 = .ok (.bipush 11, 2) := by decide +kernel
theorem d_Terms_passForth_216 : decode prog_11_method_6_code 216 = .ok (.if_icmp .ne 7, 3) := by decide +kernel
theorem d_Terms_passForth_219 : decode prog_11_method_6_code 219 = .ok (.iload_n 2, 1) := by decide +kernel
theorem d_Terms_passForth_220 : decode prog_11_method_6_code 220 = .ok (.goto 10, 3) := by decide +kernel
theorem d_Terms_passForth_223 : decode prog_11_method_6_code 223 = .ok (.aload_n 0, 1) := by decide +kernel
theorem d_Terms_passForth_224 : decode prog_11_method_6_code 224 = .ok (.bipush 11, 2) := by decide +kernel
theorem d_Terms_passForth_226 : decode prog_11_method_6_code 226 = .ok (.iload_n 2, 1) := by decide +kernel
theorem d_Terms_passForth_227 : decode prog_11_method_6_code 227 = .ok (.invokevirtual 60, 3) := by decide +kernel
theorem d_Terms_passForth_230 : decode prog_11_method_6_code 230 = .ok (.iastore, 1) := by decide +kernel
theorem d_Terms_passForth_231 : decode prog_11_method_6_code 231 = .ok (.goto 3, 3) := by decide +kernel
theorem d_Terms_passForth_234 : decode prog_11_method_6_code 234 = .ok (.return_, 1) := by decide +kernel
abbrev M_Terms_passBack : q_M := (⟨"LensPaths$Terms", "passBack", "(LLensPaths$Primitive;)V"⟩, prog_11_method_7_code, 3, none, "LensPaths$Terms", [], false, 3, 74)
theorem d_Terms_passBack_0 : decode prog_11_method_7_code 0 = .ok (.aload_n 0, 1) := by decide +kernel
theorem d_Terms_passBack_1 : decode prog_11_method_7_code 1 = .ok (.getfield 18, 3) := by decide +kernel
theorem d_Terms_passBack_4 : decode prog_11_method_7_code 4 = .ok (.aload_n 1, 1) := by decide +kernel
theorem d_Terms_passBack_5 : decode prog_11_method_7_code 5 = .ok (.getfield 84, 3) := by decide +kernel
theorem d_Terms_passBack_8 : decode prog_11_method_7_code 8 = .ok (.iaload, 1) := by decide +kernel
theorem d_Terms_passBack_9 : decode prog_11_method_7_code 9 = .ok (.istore_n 2, 1) := by decide +kernel
theorem d_Terms_passBack_10 : decode prog_11_method_7_code 10 = .ok (.aload_n 1, 1) := by decide +kernel
theorem d_Terms_passBack_11 : decode prog_11_method_7_code 11 = .ok (.getfield 89, 3) := by decide +kernel
theorem d_Terms_passBack_14 : decode prog_11_method_7_code 14 = .ok (.tableswitch 114 2 6 #[34, 51, 114, 69, 96], 34) := by decide +kernel
theorem d_Terms_passBack_48 : decode prog_11_method_7_code 48 = .ok (.aload_n 0, 1) := by decide +kernel
theorem d_Terms_passBack_49 : decode prog_11_method_7_code 49 = .ok (.getfield 18, 3) := by decide +kernel
theorem d_Terms_passBack_52 : decode prog_11_method_7_code 52 = .ok (.aload_n 1, 1) := by decide +kernel
theorem d_Terms_passBack_53 : decode prog_11_method_7_code 53 = .ok (.getfield 84, 3) := by decide +kernel
theorem d_Terms_passBack_56 : decode prog_11_method_7_code 56 = .ok (.aload_n 0, 1) := by decide +kernel
theorem d_Terms_passBack_57 : decode prog_11_method_7_code 57 = .ok (.aload_n 1, 1) := by decide +kernel
theorem d_Terms_passBack_58 : decode prog_11_method_7_code 58 = .ok (.invokevirtual 91, 3) := by decide +kernel
theorem d_Terms_passBack_61 : decode prog_11_method_7_code 61 = .ok (.iastore, 1) := by decide +kernel
theorem d_Terms_passBack_62 : decode prog_11_method_7_code 62 = .ok (.goto 66, 3) := by decide +kernel
theorem d_Terms_passBack_65 : decode prog_11_method_7_code 65 = .ok (.aload_n 0, 1) := by decide +kernel
theorem d_Terms_passBack_66 : decode prog_11_method_7_code 66 = .ok (.getfield 18, 3) := by decide +kernel
theorem d_Terms_passBack_69 : decode prog_11_method_7_code 69 = .ok (.aload_n 1, 1) := by decide +kernel
theorem d_Terms_passBack_70 : decode prog_11_method_7_code 70 = .ok (.getfield 84, 3) := by decide +kernel
theorem d_Terms_passBack_73 : decode prog_11_method_7_code 73 = .ok (.aload_n 0, 1) := by decide +kernel
theorem d_Terms_passBack_74 : decode prog_11_method_7_code 74 = .ok (.aload_n 1, 1) := by decide +kernel
theorem d_Terms_passBack_75 : decode prog_11_method_7_code 75 = .ok (.iload_n 2, 1) := by decide +kernel
theorem d_Terms_passBack_76 : decode prog_11_method_7_code 76 = .ok (.invokevirtual 115, 3) := by decide +kernel
theorem d_Terms_passBack_79 : decode prog_11_method_7_code 79 = .ok (.iastore, 1) := by decide +kernel
theorem d_Terms_passBack_80 : decode prog_11_method_7_code 80 = .ok (.goto 48, 3) := by decide +kernel
theorem d_Terms_passBack_83 : decode prog_11_method_7_code 83 = .ok (.aload_n 0, 1) := by decide +kernel
theorem d_Terms_passBack_84 : decode prog_11_method_7_code 84 = .ok (.getfield 18, 3) := by decide +kernel
theorem d_Terms_passBack_87 : decode prog_11_method_7_code 87 = .ok (.aload_n 1, 1) := by decide +kernel
theorem d_Terms_passBack_88 : decode prog_11_method_7_code 88 = .ok (.getfield 84, 3) := by decide +kernel
theorem d_Terms_passBack_91 : decode prog_11_method_7_code 91 = .ok (.aload_n 0, 1) := by decide +kernel
theorem d_Terms_passBack_92 : decode prog_11_method_7_code 92 = .ok (.aload_n 1, 1) := by decide +kernel
theorem d_Terms_passBack_93 : decode prog_11_method_7_code 93 = .ok (.iload_n 2, 1) := by decide +kernel
theorem d_Terms_passBack_94 : decode prog_11_method_7_code 94 = .ok (.aload_n 0, 1) := by decide +kernel
theorem d_Terms_passBack_95 : decode prog_11_method_7_code 95 = .ok (.getfield 18, 3) := by decide +kernel
theorem d_Terms_passBack_98 : decode prog_11_method_7_code 98 = .ok (.aload_n 1, 1) := by decide +kernel
theorem d_Terms_passBack_99 : decode prog_11_method_7_code 99 = .ok (.getfield 118, 3) := by decide +kernel
theorem d_Terms_passBack_102 : decode prog_11_method_7_code 102 = .ok (.iaload, 1) := by decide +kernel
theorem d_Terms_passBack_103 : decode prog_11_method_7_code 103 = .ok (.invokevirtual 121, 3) := by decide +kernel
theorem d_Terms_passBack_106 : decode prog_11_method_7_code 106 = .ok (.iastore, 1) := by decide +kernel
theorem d_Terms_passBack_107 : decode prog_11_method_7_code 107 = .ok (.goto 21, 3) := by decide +kernel
theorem d_Terms_passBack_110 : decode prog_11_method_7_code 110 = .ok (.aload_n 0, 1) := by decide +kernel
theorem d_Terms_passBack_111 : decode prog_11_method_7_code 111 = .ok (.getfield 18, 3) := by decide +kernel
theorem d_Terms_passBack_114 : decode prog_11_method_7_code 114 = .ok (.aload_n 1, 1) := by decide +kernel
theorem d_Terms_passBack_115 : decode prog_11_method_7_code 115 = .ok (.getfield 84, 3) := by decide +kernel
theorem d_Terms_passBack_118 : decode prog_11_method_7_code 118 = .ok (.aload_n 0, 1) := by decide +kernel
theorem d_Terms_passBack_119 : decode prog_11_method_7_code 119 = .ok (.aload_n 1, 1) := by decide +kernel
theorem d_Terms_passBack_120 : decode prog_11_method_7_code 120 = .ok (.iload_n 2, 1) := by decide +kernel
theorem d_Terms_passBack_121 : decode prog_11_method_7_code 121 = .ok (.invokevirtual 125, 3) := by decide +kernel
theorem d_Terms_passBack_124 : decode prog_11_method_7_code 124 = .ok (.iastore, 1) := by decide +kernel
theorem d_Terms_passBack_125 : decode prog_11_method_7_code 125 = .ok (.goto 3, 3) := by decide +kernel
theorem d_Terms_passBack_128 : decode prog_11_method_7_code 128 = .ok (.return_, 1) := by decide +kernel
section Terms
variable {g : q_G} {sz te po : Nat} {T : q_T} {I : q_I} {R : q_R} {J : q_J} {tb : List KT} {p : KP} {t u : KT}
/-- an entry of the class's table -/
def o_en (te : Nat) (tb : List KT) (i : Nat) (t : KT) (I : q_I) : Prop := I (te + 4) (nI i) = nI (z_k t) ∧ I (te + 5) (nI i) = z_e1 tb t ∧ I (te + 6) (nI i) = z_e2 tb t ∧ I (te + 7) (nI i) = z_a t ∧ I (te + 8) (nI i) = z_b t ∧ I (te + 9) (nI i) = z_lo t ∧ I (te + 10) (nI i) = z_hi t
def o_tb (te : Nat) (tb : List KT) (I : q_I) : Prop := I te (nI 10) = nI tb.length ∧ z_tok tb ∧ ∀ i t, tb[i]? = some t → o_en te tb i t I
def o_fi (te : Nat) (I I' : q_I) : Prop := ∀ b, b < te ∨ (te < b ∧ b < te + 4) ∨ te + 10 < b → I' b = I b
theorem o_fi.refl : o_fi te I I := fun _ _ => rfl
theorem o_fi.trans {I1 I2 : q_I} (h : o_fi te I I1) (h2 : o_fi te I1 I2) : o_fi te I I2 := fun b hb => (h2 b hb).trans (h b hb)
/-- a term is found or made -/
def o_rt (te : Nat) (tb : List KT) (t : KT) (n sz : Nat) (T : q_T) (I : q_I) (R : q_R) (J : q_J) (r : Int32) (h' : q_H) : Prop := ∃ (I' : q_I) (tb' : List KT), h' = (sz, T, I', R, J) ∧ o_fi te I I' ∧ o_tb te tb' I' ∧ z_ex tb tb' ∧ tb'.length ≤ tb.length + n ∧ t ∈ tb' ∧ r = nI (tb'.idxOf t)
theorem o_rt.old (h : o_tb te tb I) (ht : t ∈ tb) {n : Nat} : o_rt te tb t n sz T I R J (nI (tb.idxOf t)) (sz, T, I, R, J) := ⟨I, tb, rfl, o_fi.refl, h, z_ex.refl tb, by omega, ht, rfl⟩
/-- what stands at a term's index -/
theorem o_tb.at (h : o_tb te tb I) (ht : t ∈ tb) : o_en te tb (tb.idxOf t) t I := h.2.2 _ t (z_ix ht)
set_option maxHeartbeats 1000000 in
theorem c_Terms_intern2 (hL : q_L 8 t_Terms te T R) (h : o_tb te tb I) (hlen : tb.length < 152) (ht : z_ok t) (hcl : z_cl tb t) : q_Ci g M_Terms_intern [.ref te, .int (nI (z_k t)), .int (z_e1 tb t), .int (z_e2 tb t), .int (z_a t), .int (z_b t), .int (z_lo t), .int (z_hi t)] (sz, T, I, R, J) 0 0 (fun r h' => o_rt te tb t 1 sz T I R J r h' ∧ (t ∈ tb → h' = (sz, T, I, R, J))) := by
  obtain ⟨Q, hQ⟩ : ∃ Q : q_O → q_H → Prop, Q = (fun o h' => ∃ r : Int32, o = .inl (some (.int r)) ∧ o_rt te tb t 1 sz T I R J r h' ∧ (t ∈ tb → h' = (sz, T, I, R, J))) := ⟨_, rfl⟩
  have hn := h.1
  refine q_C.of (ls0 := [some (.ref te), some (.int (nI (z_k t))), some (.int (z_e1 tb t)), some (.int (z_e2 tb t)), some (.int (z_a t)), some (.int (z_b t)), some (.int (z_lo t)), some (.int (z_hi t)), none]) (by decide) rfl (by decide) (Nat.le_of_ble_eq_true rfl) rfl ?_
  rw [← hQ]
  have loop : ∀ (j i : Nat), i + j = tb.length → (∀ a u, a < i → tb[a]? = some u → u ≠ t) → q_V g M_Terms_intern 0 0 0 0 (sz, T, I, R, J) Q 3 [some (.ref te), some (.int (nI (z_k t))), some (.int (z_e1 tb t)), some (.int (z_e2 tb t)), some (.int (z_a t)), some (.int (z_b t)), some (.int (z_lo t)), some (.int (z_hi t)), some (.int (nI i))] [] := by
    intro j
    induction j with
    | zero =>
      intro i hi hno
      obtain rfl : i = tb.length := by omega
      have hnm : t ∉ tb := fun hm => by
        obtain ⟨a, ha⟩ := List.getElem?_of_mem hm
        exact hno a t (List.getElem?_eq_some_iff.mp ha).1 ha rfl
      have ead : z_add tb t = tb ++ [t] := by unfold z_add; rw [if_neg hnm]
      refine q_iload d_Terms_intern_3 rfl ?_
      refine q_aload_n d_Terms_intern_5 rfl rfl ?_
      refine q_getI (ci := 8) (fk := 10) d_Terms_intern_6 rfl (Nat.le_of_ble_eq_true rfl) w_248 (fun _ _ => rfl) hL.1 ?_
      rw [hn]
      refine q_icmp_ge (tgt := 102) d_Terms_intern_9 rfl (fun hc => ?_) (fun hc => ?_)
      rotate_left
      · exact absurd (Int32.le_refl _) hc
      refine q_aload_n d_Terms_intern_102 rfl rfl ?_
      refine q_getR (ci := 8) (fk := 3) d_Terms_intern_103 rfl (Nat.le_of_ble_eq_true rfl) w_241 (fun _ _ => rfl) hL.1 (hL.2 3 _ _ _ rfl).1 ?_
      refine q_aload_n d_Terms_intern_106 rfl rfl ?_
      refine q_getI (ci := 8) (fk := 10) d_Terms_intern_107 rfl (Nat.le_of_ble_eq_true rfl) w_248 (fun _ _ => rfl) hL.1 ?_
      rw [hn]
      refine q_iload_n d_Terms_intern_110 rfl rfl ?_
      refine q_iast d_Terms_intern_111 (hL.2 3 _ _ _ rfl).2 (by first | assumption | exact vp_in_nI (by omega) (by omega)) ?_
      refine q_aload_n d_Terms_intern_112 rfl rfl ?_
      refine q_getR (ci := 8) (fk := 4) d_Terms_intern_113 rfl (Nat.le_of_ble_eq_true rfl) w_242 (fun _ _ => rfl) hL.1 (hL.2 4 _ _ _ rfl).1 ?_
      refine q_aload_n d_Terms_intern_116 rfl rfl ?_
      refine q_getI (ci := 8) (fk := 10) d_Terms_intern_117 rfl (Nat.le_of_ble_eq_true rfl) w_248 (fun _ _ => rfl) hL.1 ?_
      rw [q_upI_nea (by omega), hn]
      refine q_iload_n d_Terms_intern_120 rfl rfl ?_
      refine q_iast d_Terms_intern_121 (hL.2 4 _ _ _ rfl).2 (by first | assumption | exact vp_in_nI (by omega) (by omega)) ?_
      refine q_aload_n d_Terms_intern_122 rfl rfl ?_
      refine q_getR (ci := 8) (fk := 5) d_Terms_intern_123 rfl (Nat.le_of_ble_eq_true rfl) w_243 (fun _ _ => rfl) hL.1 (hL.2 5 _ _ _ rfl).1 ?_
      refine q_aload_n d_Terms_intern_126 rfl rfl ?_
      refine q_getI (ci := 8) (fk := 10) d_Terms_intern_127 rfl (Nat.le_of_ble_eq_true rfl) w_248 (fun _ _ => rfl) hL.1 ?_
      rw [q_upI_nea (by omega), q_upI_nea (by omega), hn]
      refine q_iload_n d_Terms_intern_130 rfl rfl ?_
      refine q_iast d_Terms_intern_131 (hL.2 5 _ _ _ rfl).2 (by first | assumption | exact vp_in_nI (by omega) (by omega)) ?_
      refine q_aload_n d_Terms_intern_132 rfl rfl ?_
      refine q_getR (ci := 8) (fk := 6) d_Terms_intern_133 rfl (Nat.le_of_ble_eq_true rfl) w_244 (fun _ _ => rfl) hL.1 (hL.2 6 _ _ _ rfl).1 ?_
      refine q_aload_n d_Terms_intern_136 rfl rfl ?_
      refine q_getI (ci := 8) (fk := 10) d_Terms_intern_137 rfl (Nat.le_of_ble_eq_true rfl) w_248 (fun _ _ => rfl) hL.1 ?_
      rw [q_upI_nea (by omega), q_upI_nea (by omega), q_upI_nea (by omega), hn]
      refine q_iload d_Terms_intern_140 rfl ?_
      refine q_iast d_Terms_intern_142 (hL.2 6 _ _ _ rfl).2 (by first | assumption | exact vp_in_nI (by omega) (by omega)) ?_
      refine q_aload_n d_Terms_intern_143 rfl rfl ?_
      refine q_getR (ci := 8) (fk := 7) d_Terms_intern_144 rfl (Nat.le_of_ble_eq_true rfl) w_245 (fun _ _ => rfl) hL.1 (hL.2 7 _ _ _ rfl).1 ?_
      refine q_aload_n d_Terms_intern_147 rfl rfl ?_
      refine q_getI (ci := 8) (fk := 10) d_Terms_intern_148 rfl (Nat.le_of_ble_eq_true rfl) w_248 (fun _ _ => rfl) hL.1 ?_
      rw [q_upI_nea (by omega), q_upI_nea (by omega), q_upI_nea (by omega), q_upI_nea (by omega), hn]
      refine q_iload d_Terms_intern_151 rfl ?_
      refine q_iast d_Terms_intern_153 (hL.2 7 _ _ _ rfl).2 (by first | assumption | exact vp_in_nI (by omega) (by omega)) ?_
      refine q_aload_n d_Terms_intern_154 rfl rfl ?_
      refine q_getR (ci := 8) (fk := 8) d_Terms_intern_155 rfl (Nat.le_of_ble_eq_true rfl) w_246 (fun _ _ => rfl) hL.1 (hL.2 8 _ _ _ rfl).1 ?_
      refine q_aload_n d_Terms_intern_158 rfl rfl ?_
      refine q_getI (ci := 8) (fk := 10) d_Terms_intern_159 rfl (Nat.le_of_ble_eq_true rfl) w_248 (fun _ _ => rfl) hL.1 ?_
      rw [q_upI_nea (by omega), q_upI_nea (by omega), q_upI_nea (by omega), q_upI_nea (by omega), q_upI_nea (by omega), hn]
      refine q_iload d_Terms_intern_162 rfl ?_
      refine q_iast d_Terms_intern_164 (hL.2 8 _ _ _ rfl).2 (by first | assumption | exact vp_in_nI (by omega) (by omega)) ?_
      refine q_aload_n d_Terms_intern_165 rfl rfl ?_
      refine q_getR (ci := 8) (fk := 9) d_Terms_intern_166 rfl (Nat.le_of_ble_eq_true rfl) w_247 (fun _ _ => rfl) hL.1 (hL.2 9 _ _ _ rfl).1 ?_
      refine q_aload_n d_Terms_intern_169 rfl rfl ?_
      refine q_getI (ci := 8) (fk := 10) d_Terms_intern_170 rfl (Nat.le_of_ble_eq_true rfl) w_248 (fun _ _ => rfl) hL.1 ?_
      rw [q_upI_nea (by omega), q_upI_nea (by omega), q_upI_nea (by omega), q_upI_nea (by omega), q_upI_nea (by omega), q_upI_nea (by omega), hn]
      refine q_iload d_Terms_intern_173 rfl ?_
      refine q_iast d_Terms_intern_175 (hL.2 9 _ _ _ rfl).2 (by first | assumption | exact vp_in_nI (by omega) (by omega)) ?_
      obtain ⟨I1, hI1⟩ : ∃ I1, I1 = q_upI (q_upI (q_upI (q_upI (q_upI (q_upI (q_upI I (te + 4) (nI tb.length) (nI (z_k t))) (te + 5) (nI tb.length) (z_e1 tb t)) (te + 6) (nI tb.length) (z_e2 tb t)) (te + 7) (nI tb.length) (z_a t)) (te + 8) (nI tb.length) (z_b t)) (te + 9) (nI tb.length) (z_lo t)) (te + 10) (nI tb.length) (z_hi t) := ⟨_, rfl⟩
      rw [← hI1]
      have o1 : ∀ b, b < te + 4 ∨ te + 10 < b → I1 b = I b := fun b hb => by rw [hI1]; funext z; rw [q_upI_nea (by omega), q_upI_nea (by omega), q_upI_nea (by omega), q_upI_nea (by omega), q_upI_nea (by omega), q_upI_nea (by omega), q_upI_nea (by omega)]
      have o1i : ∀ b i, i < tb.length → I1 b (nI i) = I b (nI i) := fun b i hi => by rw [hI1, q_upI_nk (by omega), q_upI_nk (by omega), q_upI_nk (by omega), q_upI_nk (by omega), q_upI_nk (by omega), q_upI_nk (by omega), q_upI_nk (by omega)]
      have hn1 : I1 te (nI 10) = nI tb.length := by rw [o1 te (by omega)]; exact hn
      refine q_aload_n d_Terms_intern_176 rfl rfl ?_
      refine q_dup d_Terms_intern_177 rfl ?_
      refine q_getI (ci := 8) (fk := 10) d_Terms_intern_178 rfl (Nat.le_of_ble_eq_true rfl) w_248 (fun _ _ => rfl) hL.1 ?_
      rw [hn1]
      refine q_iconst (v := nI 1) d_Terms_intern_181 (by decide) ?_
      first | refine q_iaddN d_Terms_intern_182 ?_ | refine q_iadd d_Terms_intern_182 ?_
      refine q_putI (ci := 8) (fk := 10) d_Terms_intern_183 rfl (Nat.le_of_ble_eq_true rfl) w_248 (Or.inl rfl) (fun _ _ => rfl) rfl rfl hL.1 ?_
      refine q_aload_n d_Terms_intern_186 rfl rfl ?_
      refine q_getI (ci := 8) (fk := 10) d_Terms_intern_187 rfl (Nat.le_of_ble_eq_true rfl) w_248 (fun _ _ => rfl) hL.1 ?_
      rw [q_upI_self]
      refine q_iconst (v := nI 1) d_Terms_intern_190 (by decide) ?_
      refine q_isub d_Terms_intern_191 ?_
      rw [nI_sb tb.length 1]
      refine q_iret d_Terms_intern_192 rfl (by omega) (by omega) ?_
      rw [hQ]
      have o2 : ∀ b, b ≠ te → q_upI I1 te (nI 10) (nI (tb.length + 1)) b = I1 b := fun b hb => by funext z; rw [q_upI_nea hb]
      refine ⟨_, rfl, ?_, fun hm => absurd hm hnm⟩
      refine ⟨_, z_add tb t, rfl, fun b hb => ?_, ⟨?_, z_add_tok h.2.1 ht hcl, fun i u hu => ?_⟩, z_add_ex tb t, z_add_len tb t, z_add_mem tb t, ?_⟩
      · rw [o2 b (by omega), o1 b (by omega)]
      · rw [q_upI_self, ead, List.length_append]; rfl
      · have hex := z_add_ex tb t
        unfold o_en
        rw [o2 _ (by omega), o2 _ (by omega), o2 _ (by omega), o2 _ (by omega), o2 _ (by omega), o2 _ (by omega), o2 _ (by omega)]
        rw [ead, List.getElem?_append] at hu
        by_cases hi : i < tb.length
        · rw [if_pos hi] at hu
          have hcu := (h.2.1.2 u (List.mem_of_getElem? hu)).2
          rw [hex.e1 hcu, hex.e2 hcu, o1i _ i hi, o1i _ i hi, o1i _ i hi, o1i _ i hi, o1i _ i hi, o1i _ i hi, o1i _ i hi]
          exact h.2.2 i u hu
        · rw [if_neg hi] at hu
          have hz : i = tb.length := by
            have := (List.getElem?_eq_some_iff.mp hu).1
            simp only [List.length_singleton] at this
            omega
          subst hz
          rw [Nat.sub_self] at hu
          have e : t = u := Option.some.inj hu
          subst e
          rw [hex.e1 hcl, hex.e2 hcl, hI1]
          refine ⟨?_, ?_, ?_, ?_, ?_, ?_, ?_⟩
          · rw [q_upI_nea (by omega), q_upI_nea (by omega), q_upI_nea (by omega), q_upI_nea (by omega), q_upI_nea (by omega), q_upI_nea (by omega), q_upI_self]
          · rw [q_upI_nea (by omega), q_upI_nea (by omega), q_upI_nea (by omega), q_upI_nea (by omega), q_upI_nea (by omega), q_upI_self]
          · rw [q_upI_nea (by omega), q_upI_nea (by omega), q_upI_nea (by omega), q_upI_nea (by omega), q_upI_self]
          · rw [q_upI_nea (by omega), q_upI_nea (by omega), q_upI_nea (by omega), q_upI_self]
          · rw [q_upI_nea (by omega), q_upI_nea (by omega), q_upI_self]
          · rw [q_upI_nea (by omega), q_upI_self]
          · rw [q_upI_self]
      · rw [ead, List.idxOf_append, if_neg hnm, List.idxOf_cons_self, Nat.zero_add]
    | succ j ih =>
      intro i hi hno
      obtain ⟨u, hu⟩ : ∃ u, tb[i]? = some u := ⟨_, List.getElem?_eq_getElem (by omega)⟩
      obtain ⟨n1, n2, n3, n4, n5, n6, n7⟩ := h.2.2 i u hu
      obtain ⟨ok, cl⟩ := h.2.1.2 u (List.mem_of_getElem? hu)
      have next : u ≠ t → q_V g M_Terms_intern 0 0 0 0 (sz, T, I, R, J) Q 96 [some (.ref te), some (.int (nI (z_k t))), some (.int (z_e1 tb t)), some (.int (z_e2 tb t)), some (.int (z_a t)), some (.int (z_b t)), some (.int (z_lo t)), some (.int (z_hi t)), some (.int (nI i))] [] := by
        intro hne
        first | refine q_iincN d_Terms_intern_96 rfl (Nat.le_of_ble_eq_true rfl) (by first | exact q_ok0 | exact q_okI rfl | exact q_okR rfl | exact q_okN rfl) rfl ?_ | refine q_iinc d_Terms_intern_96 rfl rfl (Nat.le_of_ble_eq_true rfl) (by first | exact q_ok0 | exact q_okI rfl | exact q_okR rfl | exact q_okN rfl) rfl ?_
        refine q_goto (tgt := 3) d_Terms_intern_99 rfl ?_
        refine ih (i + 1) (by omega) (fun a w ha hw => ?_)
        by_cases hai : a = i
        · subst hai
          rw [← Option.some.inj (hu.symm.trans hw)]; exact hne
        · exact hno a w (by omega) hw
      refine q_iload d_Terms_intern_3 rfl ?_
      refine q_aload_n d_Terms_intern_5 rfl rfl ?_
      refine q_getI (ci := 8) (fk := 10) d_Terms_intern_6 rfl (Nat.le_of_ble_eq_true rfl) w_248 (fun _ _ => rfl) hL.1 ?_
      rw [hn]
      refine q_icmp_ge (tgt := 102) d_Terms_intern_9 rfl (fun hc => ?_) (fun hc => ?_)
      · rw [nI_leI (by omega) (by omega)] at hc
        omega
      refine q_aload_n d_Terms_intern_12 rfl rfl ?_
      refine q_getR (ci := 8) (fk := 3) d_Terms_intern_13 rfl (Nat.le_of_ble_eq_true rfl) w_241 (fun _ _ => rfl) hL.1 (hL.2 3 _ _ _ rfl).1 ?_
      refine q_iload d_Terms_intern_16 rfl ?_
      refine q_iald d_Terms_intern_18 (hL.2 3 _ _ _ rfl).2 (by first | assumption | exact vp_in_nI (by omega) (by omega)) ?_
      rw [n1]
      refine q_iload_n d_Terms_intern_19 rfl rfl ?_
      refine q_icmp_ne (tgt := 96) d_Terms_intern_20 rfl (fun hc => ?_) (fun hc => ?_)
      · exact next (fun z => hc (by rw [z]))
      have q1 := hc
      refine q_aload_n d_Terms_intern_23 rfl rfl ?_
      refine q_getR (ci := 8) (fk := 4) d_Terms_intern_24 rfl (Nat.le_of_ble_eq_true rfl) w_242 (fun _ _ => rfl) hL.1 (hL.2 4 _ _ _ rfl).1 ?_
      refine q_iload d_Terms_intern_27 rfl ?_
      refine q_iald d_Terms_intern_29 (hL.2 4 _ _ _ rfl).2 (by first | assumption | exact vp_in_nI (by omega) (by omega)) ?_
      rw [n2]
      refine q_iload_n d_Terms_intern_30 rfl rfl ?_
      refine q_icmp_ne (tgt := 96) d_Terms_intern_31 rfl (fun hc => ?_) (fun hc => ?_)
      · exact next (fun z => hc (by rw [z]))
      have q2 := hc
      refine q_aload_n d_Terms_intern_34 rfl rfl ?_
      refine q_getR (ci := 8) (fk := 5) d_Terms_intern_35 rfl (Nat.le_of_ble_eq_true rfl) w_243 (fun _ _ => rfl) hL.1 (hL.2 5 _ _ _ rfl).1 ?_
      refine q_iload d_Terms_intern_38 rfl ?_
      refine q_iald d_Terms_intern_40 (hL.2 5 _ _ _ rfl).2 (by first | assumption | exact vp_in_nI (by omega) (by omega)) ?_
      rw [n3]
      refine q_iload_n d_Terms_intern_41 rfl rfl ?_
      refine q_icmp_ne (tgt := 96) d_Terms_intern_42 rfl (fun hc => ?_) (fun hc => ?_)
      · exact next (fun z => hc (by rw [z]))
      have q3 := hc
      refine q_aload_n d_Terms_intern_45 rfl rfl ?_
      refine q_getR (ci := 8) (fk := 6) d_Terms_intern_46 rfl (Nat.le_of_ble_eq_true rfl) w_244 (fun _ _ => rfl) hL.1 (hL.2 6 _ _ _ rfl).1 ?_
      refine q_iload d_Terms_intern_49 rfl ?_
      refine q_iald d_Terms_intern_51 (hL.2 6 _ _ _ rfl).2 (by first | assumption | exact vp_in_nI (by omega) (by omega)) ?_
      rw [n4]
      refine q_iload d_Terms_intern_52 rfl ?_
      refine q_icmp_ne (tgt := 96) d_Terms_intern_54 rfl (fun hc => ?_) (fun hc => ?_)
      · exact next (fun z => hc (by rw [z]))
      have q4 := hc
      refine q_aload_n d_Terms_intern_57 rfl rfl ?_
      refine q_getR (ci := 8) (fk := 7) d_Terms_intern_58 rfl (Nat.le_of_ble_eq_true rfl) w_245 (fun _ _ => rfl) hL.1 (hL.2 7 _ _ _ rfl).1 ?_
      refine q_iload d_Terms_intern_61 rfl ?_
      refine q_iald d_Terms_intern_63 (hL.2 7 _ _ _ rfl).2 (by first | assumption | exact vp_in_nI (by omega) (by omega)) ?_
      rw [n5]
      refine q_iload d_Terms_intern_64 rfl ?_
      refine q_icmp_ne (tgt := 96) d_Terms_intern_66 rfl (fun hc => ?_) (fun hc => ?_)
      · exact next (fun z => hc (by rw [z]))
      have q5 := hc
      refine q_aload_n d_Terms_intern_69 rfl rfl ?_
      refine q_getR (ci := 8) (fk := 8) d_Terms_intern_70 rfl (Nat.le_of_ble_eq_true rfl) w_246 (fun _ _ => rfl) hL.1 (hL.2 8 _ _ _ rfl).1 ?_
      refine q_iload d_Terms_intern_73 rfl ?_
      refine q_iald d_Terms_intern_75 (hL.2 8 _ _ _ rfl).2 (by first | assumption | exact vp_in_nI (by omega) (by omega)) ?_
      rw [n6]
      refine q_iload d_Terms_intern_76 rfl ?_
      refine q_icmp_ne (tgt := 96) d_Terms_intern_78 rfl (fun hc => ?_) (fun hc => ?_)
      · exact next (fun z => hc (by rw [z]))
      have q6 := hc
      refine q_aload_n d_Terms_intern_81 rfl rfl ?_
      refine q_getR (ci := 8) (fk := 9) d_Terms_intern_82 rfl (Nat.le_of_ble_eq_true rfl) w_247 (fun _ _ => rfl) hL.1 (hL.2 9 _ _ _ rfl).1 ?_
      refine q_iload d_Terms_intern_85 rfl ?_
      refine q_iald d_Terms_intern_87 (hL.2 9 _ _ _ rfl).2 (by first | assumption | exact vp_in_nI (by omega) (by omega)) ?_
      rw [n7]
      refine q_iload d_Terms_intern_88 rfl ?_
      refine q_icmp_ne (tgt := 96) d_Terms_intern_90 rfl (fun hc => ?_) (fun hc => ?_)
      · exact next (fun z => hc (by rw [z]))
      have q7 := hc
      have hk1 := ok.1
      have hk2 := ht.1
      have e : u = t := z_inj (by omega) ok ht cl hcl ((nI_eq (by omega) (by omega)).mp q1) q2 q3 q4 q5 q6 q7
      refine q_iload d_Terms_intern_93 rfl ?_
      refine q_iret d_Terms_intern_95 rfl (by omega) (by omega) ?_
      rw [hQ]
      have hm : t ∈ tb := by rw [← e]; exact List.mem_of_getElem? hu
      have := z_ix_at h.2.1.1 hu
      rw [e] at this
      refine ⟨_, rfl, ?_, fun _ => rfl⟩
      rw [← this]
      exact o_rt.old h hm
  refine q_iconst (v := nI 0) d_Terms_intern_0 (by decide) ?_
  refine q_istore d_Terms_intern_1 (Nat.le_of_ble_eq_true rfl) (by first | exact q_ok0 | exact q_okI rfl | exact q_okR rfl | exact q_okN rfl) rfl ?_
  exact loop tb.length 0 (by omega) (fun a _ ha => absurd ha (Nat.not_lt_zero _))
theorem c_Terms_intern (hL : q_L 8 t_Terms te T R) (h : o_tb te tb I) (hlen : tb.length < 152) (ht : z_ok t) (hcl : z_cl tb t) : q_Ci g M_Terms_intern [.ref te, .int (nI (z_k t)), .int (z_e1 tb t), .int (z_e2 tb t), .int (z_a t), .int (z_b t), .int (z_lo t), .int (z_hi t)] (sz, T, I, R, J) 0 0 (o_rt te tb t 1 sz T I R J) := (c_Terms_intern2 hL h hlen ht hcl).imp fun o h' z => by
  obtain ⟨r, e, z1, -⟩ := z
  exact ⟨r, e, z1⟩
theorem c_simple_lf2 {k : Nat} (hL : q_L 8 t_Terms te T R) (h : o_tb te tb I) (hlen : tb.length < 152) (hk : k ≤ 2) (x : Int32) : q_Ci g M_Terms_simple [.ref te, .int (nI k), .int x] (sz, T, I, R, J) 0 0 (fun r h' => o_rt te tb (z_lf k x) 1 sz T I R J r h' ∧ (z_lf k x ∈ tb → h' = (sz, T, I, R, J))) := by
  have hi := c_Terms_intern2 (g := g) (sz := sz) (J := J) hL h hlen (z_ok_lf hk x) (z_cl_lf tb hk x)
  rw [show z_e2 tb (z_lf k x) = 0 by unfold z_e2; rw [if_neg (show ¬ z_k (z_lf k x) = 7 from (by show ¬ k = 7; omega))], show z_e1 tb (z_lf k x) = x by unfold z_e1; rw [if_pos (show z_k (z_lf k x) ≤ 2 from hk)]; rfl] at hi
  have hi2 : q_Ci g M_Terms_intern [.ref te, .int (nI k), .int x, .int 0, .int 0, .int 0, .int 0, .int 0] (sz, T, I, R, J) 0 0 (fun r h' => o_rt te tb (z_lf k x) 1 sz T I R J r h' ∧ (z_lf k x ∈ tb → h' = (sz, T, I, R, J))) := hi
  refine q_C.of (ls0 := [some (.ref te), some (.int (nI k)), some (.int x)]) (by decide) rfl (by decide) (Nat.le_of_ble_eq_true rfl) rfl ?_
  refine q_aload_n d_Terms_simple_0 rfl rfl ?_
  refine q_iload_n d_Terms_simple_1 rfl rfl ?_
  refine q_iload_n d_Terms_simple_2 rfl rfl ?_
  refine q_iconst (v := nI 0) d_Terms_simple_3 (by decide) ?_
  refine q_iconst (v := nI 0) d_Terms_simple_4 (by decide) ?_
  refine q_iconst (v := nI 0) d_Terms_simple_5 (by decide) ?_
  refine q_iconst (v := nI 0) d_Terms_simple_6 (by decide) ?_
  refine q_iconst (v := nI 0) d_Terms_simple_7 (by decide) ?_
  refine q_callVi (M2 := M_Terms_intern) d_Terms_simple_8 ⟨(Nat.le_of_ble_eq_true rfl), (Nat.le_of_ble_eq_true rfl), w_1051, w_9, ⟨by decide, by decide⟩, show _ = some 7 by decide +kernel⟩ w_1048 w_1050 (ci := 8) rfl s_38 hL.1 rfl (Nat.le_of_ble_eq_true rfl) (by omega) (by omega) (hi2) ?_
  rintro r h' hr
  refine q_iret d_Terms_simple_11 rfl (by omega) (by omega) ?_
  exact ⟨_, rfl, hr⟩
theorem c_Terms_simple (hL : q_L 8 t_Terms te T R) (h : o_tb te tb I) (hlen : tb.length < 152) (ht : z_ok t) (hcl : z_cl tb t) (h7 : z_k t ≠ 7) (ha : z_a t = 0) (hb : z_b t = 0) (hl : z_lo t = 0) (hh : z_hi t = 0) : q_Ci g M_Terms_simple [.ref te, .int (nI (z_k t)), .int (z_e1 tb t)] (sz, T, I, R, J) 0 0 (o_rt te tb t 1 sz T I R J) := by
  have hi := c_Terms_intern (g := g) (sz := sz) (J := J) hL h hlen ht hcl
  rw [ha, hb, hl, hh, show z_e2 tb t = 0 by unfold z_e2; rw [if_neg h7]] at hi
  refine q_C.of (ls0 := [some (.ref te), some (.int (nI (z_k t))), some (.int (z_e1 tb t))]) (by decide) rfl (by decide) (Nat.le_of_ble_eq_true rfl) rfl ?_
  refine q_aload_n d_Terms_simple_0 rfl rfl ?_
  refine q_iload_n d_Terms_simple_1 rfl rfl ?_
  refine q_iload_n d_Terms_simple_2 rfl rfl ?_
  refine q_iconst (v := nI 0) d_Terms_simple_3 (by decide) ?_
  refine q_iconst (v := nI 0) d_Terms_simple_4 (by decide) ?_
  refine q_iconst (v := nI 0) d_Terms_simple_5 (by decide) ?_
  refine q_iconst (v := nI 0) d_Terms_simple_6 (by decide) ?_
  refine q_iconst (v := nI 0) d_Terms_simple_7 (by decide) ?_
  refine q_callVi (M2 := M_Terms_intern) d_Terms_simple_8 ⟨(Nat.le_of_ble_eq_true rfl), (Nat.le_of_ble_eq_true rfl), w_1051, w_9, ⟨by decide, by decide⟩, show _ = some 7 by decide +kernel⟩ w_1048 w_1050 (ci := 8) rfl s_38 hL.1 rfl (Nat.le_of_ble_eq_true rfl) (by omega) (by omega) (hi) ?_
  rintro r h' hr
  refine q_iret d_Terms_simple_11 rfl (by omega) (by omega) ?_
  exact ⟨_, rfl, hr⟩
theorem z_e1_lf {k : Nat} (hk : k ≤ 2) (x : Int32) : z_e1 tb (z_lf k x) = x := by
  unfold z_e1
  rw [if_pos (show z_k (z_lf k x) ≤ 2 from hk)]; rfl
theorem z_e1_u1 {k : Nat} (hk : 3 ≤ k) (h7 : k ≠ 7) (a b lo hi : Int32) : z_e1 tb (z_u1 k t a b lo hi) = nI (tb.idxOf t) := by
  unfold z_e1
  rw [if_neg (show ¬ z_k (z_u1 k t a b lo hi) ≤ 2 from (by show ¬ k ≤ 2; omega)), z_c1_u1 h7]
theorem z_e2_u1 {k : Nat} (h7 : k ≠ 7) (a b lo hi : Int32) : z_e2 tb (z_u1 k t a b lo hi) = 0 := by
  unfold z_e2
  rw [if_neg (show ¬ z_k (z_u1 k t a b lo hi) = 7 from h7)]
theorem c_simple_lf {k : Nat} (hL : q_L 8 t_Terms te T R) (h : o_tb te tb I) (hlen : tb.length < 152) (hk : k ≤ 2) (x : Int32) : q_Ci g M_Terms_simple [.ref te, .int (nI k), .int x] (sz, T, I, R, J) 0 0 (o_rt te tb (z_lf k x) 1 sz T I R J) := by
  have := c_Terms_simple (g := g) (sz := sz) (J := J) hL h hlen (z_ok_lf hk x) (z_cl_lf tb hk x) (show k ≠ 7 by omega) rfl rfl rfl rfl
  rw [z_e1_lf hk] at this
  exact this
theorem c_simple_u1 {k : Nat} (hL : q_L 8 t_Terms te T R) (h : o_tb te tb I) (hlen : tb.length < 152) (h3 : 3 ≤ k) (h11 : k ≤ 11) (h7 : k ≠ 7) (ht : t ∈ tb) : q_Ci g M_Terms_simple [.ref te, .int (nI k), .int (nI (tb.idxOf t))] (sz, T, I, R, J) 0 0 (o_rt te tb (z_u1 k t 0 0 0 0) 1 sz T I R J) := by
  have := c_Terms_simple (g := g) (sz := sz) (J := J) hL h hlen (z_ok_u1 h3 h11 h7 t 0 0 0 0) (z_cl_u1 h7 ht 0 0 0 0) h7 rfl rfl rfl rfl
  rw [z_e1_u1 h3 h7] at this
  exact this
theorem c_intern_u1 {k : Nat} (hL : q_L 8 t_Terms te T R) (h : o_tb te tb I) (hlen : tb.length < 152) (h3 : 3 ≤ k) (h11 : k ≤ 11) (h7 : k ≠ 7) (ht : t ∈ tb) (a b lo hi : Int32) : q_Ci g M_Terms_intern [.ref te, .int (nI k), .int (nI (tb.idxOf t)), .int 0, .int a, .int b, .int lo, .int hi] (sz, T, I, R, J) 0 0 (o_rt te tb (z_u1 k t a b lo hi) 1 sz T I R J) := by
  have := c_Terms_intern (g := g) (sz := sz) (J := J) hL h hlen (z_ok_u1 h3 h11 h7 t a b lo hi) (z_cl_u1 h7 ht a b lo hi)
  rw [z_e1_u1 h3 h7, z_e2_u1 h7] at this
  exact this
end Terms
