/-! translate, by the reference: its rows and kept things -/
theorem d_Model_keepOne_0 : decode prog_14_method_32_code 0 = .ok (.aload_n 0, 1) := by decide +kernel
theorem d_Model_keepOne_1 : decode prog_14_method_32_code 1 = .ok (.getfield 71, 3) := by decide +kernel
theorem d_Model_keepOne_4 : decode prog_14_method_32_code 4 = .ok (.iload_n 1, 1) := by decide +kernel
theorem d_Model_keepOne_5 : decode prog_14_method_32_code 5 = .ok (.iconst 1, 1) := by decide +kernel
theorem d_Model_keepOne_6 : decode prog_14_method_32_code 6 = .ok (.iastore, 1) := by decide +kernel
theorem d_Model_keepOne_7 : decode prog_14_method_32_code 7 = .ok (.aload_n 0, 1) := by decide +kernel
theorem d_Model_keepOne_8 : decode prog_14_method_32_code 8 = .ok (.getfield 65, 3) := by decide +kernel
theorem d_Model_keepOne_11 : decode prog_14_method_32_code 11 = .ok (.bipush 7, 2) := by decide +kernel
theorem d_Model_keepOne_13 : decode prog_14_method_32_code 13 = .ok (.iload_n 2, 1) := by decide +kernel
theorem d_Model_keepOne_14 : decode prog_14_method_32_code 14 = .ok (.imul, 1) := by decide +kernel
theorem d_Model_keepOne_15 : decode prog_14_method_32_code 15 = .ok (.aload_n 0, 1) := by decide +kernel
theorem d_Model_keepOne_16 : decode prog_14_method_32_code 16 = .ok (.getfield 74, 3) := by decide +kernel
theorem d_Model_keepOne_19 : decode prog_14_method_32_code 19 = .ok (.bipush 14, 2) := by decide +kernel
theorem d_Model_keepOne_21 : decode prog_14_method_32_code 21 = .ok (.iload_n 1, 1) := by decide +kernel
theorem d_Model_keepOne_22 : decode prog_14_method_32_code 22 = .ok (.imul, 1) := by decide +kernel
theorem d_Model_keepOne_23 : decode prog_14_method_32_code 23 = .ok (.invokestatic 128, 3) := by decide +kernel
theorem d_Model_keepOne_26 : decode prog_14_method_32_code 26 = .ok (.return_, 1) := by decide +kernel
theorem d_Model_wrap_0 : decode prog_14_method_33_code 0 = .ok (.aload_n 0, 1) := by decide +kernel
theorem d_Model_wrap_1 : decode prog_14_method_33_code 1 = .ok (.getfield 65, 3) := by decide +kernel
theorem d_Model_wrap_4 : decode prog_14_method_33_code 4 = .ok (.bipush 7, 2) := by decide +kernel
theorem d_Model_wrap_6 : decode prog_14_method_33_code 6 = .ok (.iload_n 1, 1) := by decide +kernel
theorem d_Model_wrap_7 : decode prog_14_method_33_code 7 = .ok (.imul, 1) := by decide +kernel
theorem d_Model_wrap_8 : decode prog_14_method_33_code 8 = .ok (.iconst 1, 1) := by decide +kernel
theorem d_Model_wrap_9 : decode prog_14_method_33_code 9 = .ok (.iadd, 1) := by decide +kernel
theorem d_Model_wrap_10 : decode prog_14_method_33_code 10 = .ok (.iaload, 1) := by decide +kernel
theorem d_Model_wrap_11 : decode prog_14_method_33_code 11 = .ok (.istore_n 3, 1) := by decide +kernel
theorem d_Model_wrap_12 : decode prog_14_method_33_code 12 = .ok (.aload_n 0, 1) := by decide +kernel
theorem d_Model_wrap_13 : decode prog_14_method_33_code 13 = .ok (.getfield 71, 3) := by decide +kernel
theorem d_Model_wrap_16 : decode prog_14_method_33_code 16 = .ok (.iload_n 2, 1) := by decide +kernel
theorem d_Model_wrap_17 : decode prog_14_method_33_code 17 = .ok (.iaload, 1) := by decide +kernel
theorem d_Model_wrap_18 : decode prog_14_method_33_code 18 = .ok (.iconst 1, 1) := by decide +kernel
theorem d_Model_wrap_19 : decode prog_14_method_33_code 19 = .ok (.if_icmp .ne 99, 3) := by decide +kernel
theorem d_Model_wrap_22 : decode prog_14_method_33_code 22 = .ok (.aload_n 0, 1) := by decide +kernel
theorem d_Model_wrap_23 : decode prog_14_method_33_code 23 = .ok (.getfield 74, 3) := by decide +kernel
theorem d_Model_wrap_26 : decode prog_14_method_33_code 26 = .ok (.bipush 14, 2) := by decide +kernel
theorem d_Model_wrap_28 : decode prog_14_method_33_code 28 = .ok (.iload_n 2, 1) := by decide +kernel
theorem d_Model_wrap_29 : decode prog_14_method_33_code 29 = .ok (.imul, 1) := by decide +kernel
theorem d_Model_wrap_30 : decode prog_14_method_33_code 30 = .ok (.aload_n 0, 1) := by decide +kernel
theorem d_Model_wrap_31 : decode prog_14_method_33_code 31 = .ok (.getfield 65, 3) := by decide +kernel
theorem d_Model_wrap_34 : decode prog_14_method_33_code 34 = .ok (.bipush 7, 2) := by decide +kernel
theorem d_Model_wrap_36 : decode prog_14_method_33_code 36 = .ok (.iload_n 1, 1) := by decide +kernel
theorem d_Model_wrap_37 : decode prog_14_method_33_code 37 = .ok (.imul, 1) := by decide +kernel
theorem d_Model_wrap_38 : decode prog_14_method_33_code 38 = .ok (.invokestatic 128, 3) := by decide +kernel
theorem d_Model_wrap_41 : decode prog_14_method_33_code 41 = .ok (.aload_n 0, 1) := by decide +kernel
theorem d_Model_wrap_42 : decode prog_14_method_33_code 42 = .ok (.getfield 65, 3) := by decide +kernel
theorem d_Model_wrap_45 : decode prog_14_method_33_code 45 = .ok (.bipush 7, 2) := by decide +kernel
theorem d_Model_wrap_47 : decode prog_14_method_33_code 47 = .ok (.iload_n 1, 1) := by decide +kernel
theorem d_Model_wrap_48 : decode prog_14_method_33_code 48 = .ok (.imul, 1) := by decide +kernel
theorem d_Model_wrap_49 : decode prog_14_method_33_code 49 = .ok (.iaload, 1) := by decide +kernel
theorem d_Model_wrap_50 : decode prog_14_method_33_code 50 = .ok (.ifCond .gt 22, 3) := by decide +kernel
theorem d_Model_wrap_53 : decode prog_14_method_33_code 53 = .ok (.iload_n 3, 1) := by decide +kernel
theorem d_Model_wrap_54 : decode prog_14_method_33_code 54 = .ok (.aload_n 0, 1) := by decide +kernel
theorem d_Model_wrap_55 : decode prog_14_method_33_code 55 = .ok (.getfield 59, 3) := by decide +kernel
theorem d_Model_wrap_58 : decode prog_14_method_33_code 58 = .ok (.iload_n 1, 1) := by decide +kernel
theorem d_Model_wrap_59 : decode prog_14_method_33_code 59 = .ok (.iaload, 1) := by decide +kernel
theorem d_Model_wrap_60 : decode prog_14_method_33_code 60 = .ok (.aload_n 0, 1) := by decide +kernel
theorem d_Model_wrap_61 : decode prog_14_method_33_code 61 = .ok (.getfield 62, 3) := by decide +kernel
theorem d_Model_wrap_64 : decode prog_14_method_33_code 64 = .ok (.iload_n 1, 1) := by decide +kernel
theorem d_Model_wrap_65 : decode prog_14_method_33_code 65 = .ok (.iaload, 1) := by decide +kernel
theorem d_Model_wrap_66 : decode prog_14_method_33_code 66 = .ok (.invokestatic 115, 3) := by decide +kernel
theorem d_Model_wrap_69 : decode prog_14_method_33_code 69 = .ok (.if_icmp .eq 49, 3) := by decide +kernel
theorem d_Model_wrap_72 : decode prog_14_method_33_code 72 = .ok (.aload_n 0, 1) := by decide +kernel
theorem d_Model_wrap_73 : decode prog_14_method_33_code 73 = .ok (.getfield 65, 3) := by decide +kernel
theorem d_Model_wrap_76 : decode prog_14_method_33_code 76 = .ok (.bipush 7, 2) := by decide +kernel
theorem d_Model_wrap_78 : decode prog_14_method_33_code 78 = .ok (.iload_n 1, 1) := by decide +kernel
theorem d_Model_wrap_79 : decode prog_14_method_33_code 79 = .ok (.imul, 1) := by decide +kernel
theorem d_Model_wrap_80 : decode prog_14_method_33_code 80 = .ok (.aload_n 0, 1) := by decide +kernel
theorem d_Model_wrap_81 : decode prog_14_method_33_code 81 = .ok (.getfield 65, 3) := by decide +kernel
theorem d_Model_wrap_84 : decode prog_14_method_33_code 84 = .ok (.bipush 7, 2) := by decide +kernel
theorem d_Model_wrap_86 : decode prog_14_method_33_code 86 = .ok (.iload_n 1, 1) := by decide +kernel
theorem d_Model_wrap_87 : decode prog_14_method_33_code 87 = .ok (.imul, 1) := by decide +kernel
theorem d_Model_wrap_88 : decode prog_14_method_33_code 88 = .ok (.iaload, 1) := by decide +kernel
theorem d_Model_wrap_89 : decode prog_14_method_33_code 89 = .ok (.ifCond .le 15, 3) := by decide +kernel
theorem d_Model_wrap_92 : decode prog_14_method_33_code 92 = .ok (.aload_n 0, 1) := by decide +kernel
theorem d_Model_wrap_93 : decode prog_14_method_33_code 93 = .ok (.getfield 65, 3) := by decide +kernel
theorem d_Model_wrap_96 : decode prog_14_method_33_code 96 = .ok (.bipush 7, 2) := by decide +kernel
theorem d_Model_wrap_98 : decode prog_14_method_33_code 98 = .ok (.iload_n 1, 1) := by decide +kernel
theorem d_Model_wrap_99 : decode prog_14_method_33_code 99 = .ok (.imul, 1) := by decide +kernel
theorem d_Model_wrap_100 : decode prog_14_method_33_code 100 = .ok (.iaload, 1) := by decide +kernel
theorem d_Model_wrap_101 : decode prog_14_method_33_code 101 = .ok (.goto 4, 3) := by decide +kernel
theorem d_Model_wrap_104 : decode prog_14_method_33_code 104 = .ok (.iconst 1, 1) := by decide +kernel
theorem d_Model_wrap_105 : decode prog_14_method_33_code 105 = .ok (.iastore, 1) := by decide +kernel
theorem d_Model_wrap_106 : decode prog_14_method_33_code 106 = .ok (.aload_n 0, 1) := by decide +kernel
theorem d_Model_wrap_107 : decode prog_14_method_33_code 107 = .ok (.getfield 65, 3) := by decide +kernel
theorem d_Model_wrap_110 : decode prog_14_method_33_code 110 = .ok (.bipush 7, 2) := by decide +kernel
theorem d_Model_wrap_112 : decode prog_14_method_33_code 112 = .ok (.iload_n 1, 1) := by decide +kernel
theorem d_Model_wrap_113 : decode prog_14_method_33_code 113 = .ok (.imul, 1) := by decide +kernel
theorem d_Model_wrap_114 : decode prog_14_method_33_code 114 = .ok (.iconst 1, 1) := by decide +kernel
theorem d_Model_wrap_115 : decode prog_14_method_33_code 115 = .ok (.iadd, 1) := by decide +kernel
theorem d_Model_wrap_116 : decode prog_14_method_33_code 116 = .ok (.iload_n 3, 1) := by decide +kernel
theorem d_Model_wrap_117 : decode prog_14_method_33_code 117 = .ok (.iastore, 1) := by decide +kernel
theorem d_Model_wrap_118 : decode prog_14_method_33_code 118 = .ok (.aload_n 0, 1) := by decide +kernel
theorem d_Model_wrap_119 : decode prog_14_method_33_code 119 = .ok (.getfield 71, 3) := by decide +kernel
theorem d_Model_wrap_122 : decode prog_14_method_33_code 122 = .ok (.iload_n 2, 1) := by decide +kernel
theorem d_Model_wrap_123 : decode prog_14_method_33_code 123 = .ok (.iconst 0, 1) := by decide +kernel
theorem d_Model_wrap_124 : decode prog_14_method_33_code 124 = .ok (.iastore, 1) := by decide +kernel
theorem d_Model_wrap_125 : decode prog_14_method_33_code 125 = .ok (.return_, 1) := by decide +kernel
theorem d_Model_plain_0 : decode prog_14_method_38_code 0 = .ok (.aload_n 0, 1) := by decide +kernel
theorem d_Model_plain_1 : decode prog_14_method_38_code 1 = .ok (.iload_n 1, 1) := by decide +kernel
theorem d_Model_plain_2 : decode prog_14_method_38_code 2 = .ok (.aload 8, 2) := by decide +kernel
theorem d_Model_plain_4 : decode prog_14_method_38_code 4 = .ok (.iconst 0, 1) := by decide +kernel
theorem d_Model_plain_5 : decode prog_14_method_38_code 5 = .ok (.invokestatic 128, 3) := by decide +kernel
theorem d_Model_plain_8 : decode prog_14_method_38_code 8 = .ok (.iload_n 2, 1) := by decide +kernel
theorem d_Model_plain_9 : decode prog_14_method_38_code 9 = .ok (.bipush 6, 2) := by decide +kernel
theorem d_Model_plain_11 : decode prog_14_method_38_code 11 = .ok (.if_icmp .ne 57, 3) := by decide +kernel
theorem d_Model_plain_14 : decode prog_14_method_38_code 14 = .ok (.aload_n 0, 1) := by decide +kernel
theorem d_Model_plain_15 : decode prog_14_method_38_code 15 = .ok (.iload_n 1, 1) := by decide +kernel
theorem d_Model_plain_16 : decode prog_14_method_38_code 16 = .ok (.iconst 1, 1) := by decide +kernel
theorem d_Model_plain_17 : decode prog_14_method_38_code 17 = .ok (.iadd, 1) := by decide +kernel
theorem d_Model_plain_18 : decode prog_14_method_38_code 18 = .ok (.iaload, 1) := by decide +kernel
theorem d_Model_plain_19 : decode prog_14_method_38_code 19 = .ok (.i2l, 1) := by decide +kernel
theorem d_Model_plain_20 : decode prog_14_method_38_code 20 = .ok (.lstore 9, 2) := by decide +kernel
theorem d_Model_plain_22 : decode prog_14_method_38_code 22 = .ok (.aload 8, 2) := by decide +kernel
theorem d_Model_plain_24 : decode prog_14_method_38_code 24 = .ok (.iconst 1, 1) := by decide +kernel
theorem d_Model_plain_25 : decode prog_14_method_38_code 25 = .ok (.iload 5, 2) := by decide +kernel
theorem d_Model_plain_27 : decode prog_14_method_38_code 27 = .ok (.ifCond .eq 18, 3) := by decide +kernel
theorem d_Model_plain_30 : decode prog_14_method_38_code 30 = .ok (.iload_n 3, 1) := by decide +kernel
theorem d_Model_plain_31 : decode prog_14_method_38_code 31 = .ok (.i2l, 1) := by decide +kernel
theorem d_Model_plain_32 : decode prog_14_method_38_code 32 = .ok (.lload 9, 2) := by decide +kernel
theorem d_Model_plain_34 : decode prog_14_method_38_code 34 = .ok (.lmul, 1) := by decide +kernel
theorem d_Model_plain_35 : decode prog_14_method_38_code 35 = .ok (.iload 4, 2) := by decide +kernel
theorem d_Model_plain_37 : decode prog_14_method_38_code 37 = .ok (.i2l, 1) := by decide +kernel
theorem d_Model_plain_38 : decode prog_14_method_38_code 38 = .ok (.invokestatic 184, 3) := by decide +kernel
theorem d_Model_plain_41 : decode prog_14_method_38_code 41 = .ok (.l2i, 1) := by decide +kernel
theorem d_Model_plain_42 : decode prog_14_method_38_code 42 = .ok (.goto 22, 3) := by decide +kernel
theorem d_Model_plain_45 : decode prog_14_method_38_code 45 = .ok (.iload 4, 2) := by decide +kernel
theorem d_Model_plain_47 : decode prog_14_method_38_code 47 = .ok (.i2l, 1) := by decide +kernel
theorem d_Model_plain_48 : decode prog_14_method_38_code 48 = .ok (.lload 9, 2) := by decide +kernel
theorem d_Model_plain_50 : decode prog_14_method_38_code 50 = .ok (.lmul, 1) := by decide +kernel
theorem d_Model_plain_51 : decode prog_14_method_38_code 51 = .ok (.iload_n 3, 1) := by decide +kernel
theorem d_Model_plain_52 : decode prog_14_method_38_code 52 = .ok (.i2l, 1) := by decide +kernel
theorem d_Model_plain_53 : decode prog_14_method_38_code 53 = .ok (.invokestatic 184, 3) := by decide +kernel
theorem d_Model_plain_56 : decode prog_14_method_38_code 56 = .ok (.iload 6, 2) := by decide +kernel
theorem d_Model_plain_58 : decode prog_14_method_38_code 58 = .ok (.iload 7, 2) := by decide +kernel
theorem d_Model_plain_60 : decode prog_14_method_38_code 60 = .ok (.invokestatic 218, 3) := by decide +kernel
theorem d_Model_plain_63 : decode prog_14_method_38_code 63 = .ok (.l2i, 1) := by decide +kernel
theorem d_Model_plain_64 : decode prog_14_method_38_code 64 = .ok (.iastore, 1) := by decide +kernel
theorem d_Model_plain_65 : decode prog_14_method_38_code 65 = .ok (.goto 126, 3) := by decide +kernel
theorem d_Model_plain_68 : decode prog_14_method_38_code 68 = .ok (.iload_n 2, 1) := by decide +kernel
theorem d_Model_plain_69 : decode prog_14_method_38_code 69 = .ok (.bipush 7, 2) := by decide +kernel
theorem d_Model_plain_71 : decode prog_14_method_38_code 71 = .ok (.if_icmp .ne 32, 3) := by decide +kernel
theorem d_Model_plain_74 : decode prog_14_method_38_code 74 = .ok (.iload 5, 2) := by decide +kernel
theorem d_Model_plain_76 : decode prog_14_method_38_code 76 = .ok (.ifCond .eq 27, 3) := by decide +kernel
theorem d_Model_plain_79 : decode prog_14_method_38_code 79 = .ok (.aload 8, 2) := by decide +kernel
theorem d_Model_plain_81 : decode prog_14_method_38_code 81 = .ok (.iconst 1, 1) := by decide +kernel
theorem d_Model_plain_82 : decode prog_14_method_38_code 82 = .ok (.aload 8, 2) := by decide +kernel
theorem d_Model_plain_84 : decode prog_14_method_38_code 84 = .ok (.iconst 1, 1) := by decide +kernel
theorem d_Model_plain_85 : decode prog_14_method_38_code 85 = .ok (.iaload, 1) := by decide +kernel
theorem d_Model_plain_86 : decode prog_14_method_38_code 86 = .ok (.iload_n 3, 1) := by decide +kernel
theorem d_Model_plain_87 : decode prog_14_method_38_code 87 = .ok (.if_icmp .ne 8, 3) := by decide +kernel
theorem d_Model_plain_90 : decode prog_14_method_38_code 90 = .ok (.iload 4, 2) := by decide +kernel
theorem d_Model_plain_92 : decode prog_14_method_38_code 92 = .ok (.goto 7, 3) := by decide +kernel
theorem d_Model_plain_95 : decode prog_14_method_38_code 95 = .ok (.aload 8, 2) := by decide +kernel
theorem d_Model_plain_97 : decode prog_14_method_38_code 97 = .ok (.iconst 1, 1) := by decide +kernel
theorem d_Model_plain_98 : decode prog_14_method_38_code 98 = .ok (.iaload, 1) := by decide +kernel
theorem d_Model_plain_99 : decode prog_14_method_38_code 99 = .ok (.iastore, 1) := by decide +kernel
theorem d_Model_plain_100 : decode prog_14_method_38_code 100 = .ok (.goto 91, 3) := by decide +kernel
theorem d_Model_plain_103 : decode prog_14_method_38_code 103 = .ok (.iload_n 2, 1) := by decide +kernel
theorem d_Model_plain_104 : decode prog_14_method_38_code 104 = .ok (.bipush 8, 2) := by decide +kernel
theorem d_Model_plain_106 : decode prog_14_method_38_code 106 = .ok (.if_icmp .ne 85, 3) := by decide +kernel
theorem d_Model_plain_109 : decode prog_14_method_38_code 109 = .ok (.iload 5, 2) := by decide +kernel
theorem d_Model_plain_111 : decode prog_14_method_38_code 111 = .ok (.ifCond .eq 80, 3) := by decide +kernel
theorem d_Model_plain_114 : decode prog_14_method_38_code 114 = .ok (.iconst 2, 1) := by decide +kernel
theorem d_Model_plain_115 : decode prog_14_method_38_code 115 = .ok (.istore 9, 2) := by decide +kernel
theorem d_Model_plain_117 : decode prog_14_method_38_code 117 = .ok (.iload 9, 2) := by decide +kernel
theorem d_Model_plain_119 : decode prog_14_method_38_code 119 = .ok (.aload 8, 2) := by decide +kernel
theorem d_Model_plain_121 : decode prog_14_method_38_code 121 = .ok (.iconst 0, 1) := by decide +kernel
theorem d_Model_plain_122 : decode prog_14_method_38_code 122 = .ok (.iaload, 1) := by decide +kernel
theorem d_Model_plain_123 : decode prog_14_method_38_code 123 = .ok (.if_icmp .gt 68, 3) := by decide +kernel
theorem d_Model_plain_126 : decode prog_14_method_38_code 126 = .ok (.iload 9, 2) := by decide +kernel
theorem d_Model_plain_128 : decode prog_14_method_38_code 128 = .ok (.istore 10, 2) := by decide +kernel
theorem d_Model_plain_130 : decode prog_14_method_38_code 130 = .ok (.iload 10, 2) := by decide +kernel
theorem d_Model_plain_132 : decode prog_14_method_38_code 132 = .ok (.iconst 1, 1) := by decide +kernel
theorem d_Model_plain_133 : decode prog_14_method_38_code 133 = .ok (.if_icmp .le 52, 3) := by decide +kernel
theorem d_Model_plain_136 : decode prog_14_method_38_code 136 = .ok (.aload 8, 2) := by decide +kernel
theorem d_Model_plain_138 : decode prog_14_method_38_code 138 = .ok (.iload 10, 2) := by decide +kernel
theorem d_Model_plain_140 : decode prog_14_method_38_code 140 = .ok (.iaload, 1) := by decide +kernel
theorem d_Model_plain_141 : decode prog_14_method_38_code 141 = .ok (.aload 8, 2) := by decide +kernel
theorem d_Model_plain_143 : decode prog_14_method_38_code 143 = .ok (.iload 10, 2) := by decide +kernel
theorem d_Model_plain_145 : decode prog_14_method_38_code 145 = .ok (.iconst 1, 1) := by decide +kernel
theorem d_Model_plain_146 : decode prog_14_method_38_code 146 = .ok (.isub, 1) := by decide +kernel
theorem d_Model_plain_147 : decode prog_14_method_38_code 147 = .ok (.iaload, 1) := by decide +kernel
theorem d_Model_plain_148 : decode prog_14_method_38_code 148 = .ok (.if_icmp .ge 37, 3) := by decide +kernel
theorem d_Model_plain_151 : decode prog_14_method_38_code 151 = .ok (.aload 8, 2) := by decide +kernel
theorem d_Model_plain_153 : decode prog_14_method_38_code 153 = .ok (.iload 10, 2) := by decide +kernel
theorem d_Model_plain_155 : decode prog_14_method_38_code 155 = .ok (.iaload, 1) := by decide +kernel
theorem d_Model_plain_156 : decode prog_14_method_38_code 156 = .ok (.istore 11, 2) := by decide +kernel
theorem d_Model_plain_158 : decode prog_14_method_38_code 158 = .ok (.aload 8, 2) := by decide +kernel
theorem d_Model_plain_160 : decode prog_14_method_38_code 160 = .ok (.iload 10, 2) := by decide +kernel
theorem d_Model_plain_162 : decode prog_14_method_38_code 162 = .ok (.aload 8, 2) := by decide +kernel
theorem d_Model_plain_164 : decode prog_14_method_38_code 164 = .ok (.iload 10, 2) := by decide +kernel
theorem d_Model_plain_166 : decode prog_14_method_38_code 166 = .ok (.iconst 1, 1) := by decide +kernel
theorem d_Model_plain_167 : decode prog_14_method_38_code 167 = .ok (.isub, 1) := by decide +kernel
theorem d_Model_plain_168 : decode prog_14_method_38_code 168 = .ok (.iaload, 1) := by decide +kernel
theorem d_Model_plain_169 : decode prog_14_method_38_code 169 = .ok (.iastore, 1) := by decide +kernel
theorem d_Model_plain_170 : decode prog_14_method_38_code 170 = .ok (.aload 8, 2) := by decide +kernel
theorem d_Model_plain_172 : decode prog_14_method_38_code 172 = .ok (.iload 10, 2) := by decide +kernel
theorem d_Model_plain_174 : decode prog_14_method_38_code 174 = .ok (.iconst 1, 1) := by decide +kernel
theorem d_Model_plain_175 : decode prog_14_method_38_code 175 = .ok (.isub, 1) := by decide +kernel
theorem d_Model_plain_176 : decode prog_14_method_38_code 176 = .ok (.iload 11, 2) := by decide +kernel
theorem d_Model_plain_178 : decode prog_14_method_38_code 178 = .ok (.iastore, 1) := by decide +kernel
theorem d_Model_plain_179 : decode prog_14_method_38_code 179 = .ok (.iinc 10 (-1), 3) := by decide +kernel
theorem d_Model_plain_182 : decode prog_14_method_38_code 182 = .ok (.goto (-52), 3) := by decide +kernel
theorem d_Model_plain_185 : decode prog_14_method_38_code 185 = .ok (.iinc 9 1, 3) := by decide +kernel
theorem d_Model_plain_188 : decode prog_14_method_38_code 188 = .ok (.goto (-71), 3) := by decide +kernel
theorem d_Model_plain_191 : decode prog_14_method_38_code 191 = .ok (.return_, 1) := by decide +kernel
abbrev M_Model_unwrap : q_M := (⟨"LensPathsModel", "unwrap", "(II)V"⟩, prog_14_method_34_code, 3, none, "LensPathsModel", [], false, 2, 46)
theorem d_Model_unwrap_0 : decode prog_14_method_34_code 0 = .ok (.aload_n 0, 1) := by decide +kernel
theorem d_Model_unwrap_1 : decode prog_14_method_34_code 1 = .ok (.getfield 71, 3) := by decide +kernel
theorem d_Model_unwrap_4 : decode prog_14_method_34_code 4 = .ok (.iload_n 2, 1) := by decide +kernel
theorem d_Model_unwrap_5 : decode prog_14_method_34_code 5 = .ok (.iconst 0, 1) := by decide +kernel
theorem d_Model_unwrap_6 : decode prog_14_method_34_code 6 = .ok (.iastore, 1) := by decide +kernel
theorem d_Model_unwrap_7 : decode prog_14_method_34_code 7 = .ok (.aload_n 0, 1) := by decide +kernel
theorem d_Model_unwrap_8 : decode prog_14_method_34_code 8 = .ok (.getfield 65, 3) := by decide +kernel
theorem d_Model_unwrap_11 : decode prog_14_method_34_code 11 = .ok (.bipush 7, 2) := by decide +kernel
theorem d_Model_unwrap_13 : decode prog_14_method_34_code 13 = .ok (.iload_n 1, 1) := by decide +kernel
theorem d_Model_unwrap_14 : decode prog_14_method_34_code 14 = .ok (.imul, 1) := by decide +kernel
theorem d_Model_unwrap_15 : decode prog_14_method_34_code 15 = .ok (.iaload, 1) := by decide +kernel
theorem d_Model_unwrap_16 : decode prog_14_method_34_code 16 = .ok (.iconst 1, 1) := by decide +kernel
theorem d_Model_unwrap_17 : decode prog_14_method_34_code 17 = .ok (.if_icmp .eq 9, 3) := by decide +kernel
theorem d_Model_unwrap_20 : decode prog_14_method_34_code 20 = .ok (.aload_n 0, 1) := by decide +kernel
theorem d_Model_unwrap_21 : decode prog_14_method_34_code 21 = .ok (.iload_n 2, 1) := by decide +kernel
theorem d_Model_unwrap_22 : decode prog_14_method_34_code 22 = .ok (.iload_n 1, 1) := by decide +kernel
theorem d_Model_unwrap_23 : decode prog_14_method_34_code 23 = .ok (.invokevirtual 200, 3) := by decide +kernel
theorem d_Model_unwrap_26 : decode prog_14_method_34_code 26 = .ok (.aload_n 0, 1) := by decide +kernel
theorem d_Model_unwrap_27 : decode prog_14_method_34_code 27 = .ok (.getfield 65, 3) := by decide +kernel
theorem d_Model_unwrap_30 : decode prog_14_method_34_code 30 = .ok (.bipush 7, 2) := by decide +kernel
theorem d_Model_unwrap_32 : decode prog_14_method_34_code 32 = .ok (.iload_n 1, 1) := by decide +kernel
theorem d_Model_unwrap_33 : decode prog_14_method_34_code 33 = .ok (.imul, 1) := by decide +kernel
theorem d_Model_unwrap_34 : decode prog_14_method_34_code 34 = .ok (.iaload, 1) := by decide +kernel
theorem d_Model_unwrap_35 : decode prog_14_method_34_code 35 = .ok (.ifCond .ne 29, 3) := by decide +kernel
theorem d_Model_unwrap_38 : decode prog_14_method_34_code 38 = .ok (.aload_n 0, 1) := by decide +kernel
theorem d_Model_unwrap_39 : decode prog_14_method_34_code 39 = .ok (.getfield 65, 3) := by decide +kernel
theorem d_Model_unwrap_42 : decode prog_14_method_34_code 42 = .ok (.bipush 7, 2) := by decide +kernel
theorem d_Model_unwrap_44 : decode prog_14_method_34_code 44 = .ok (.iload_n 1, 1) := by decide +kernel
theorem d_Model_unwrap_45 : decode prog_14_method_34_code 45 = .ok (.imul, 1) := by decide +kernel
theorem d_Model_unwrap_46 : decode prog_14_method_34_code 46 = .ok (.iconst 1, 1) := by decide +kernel
theorem d_Model_unwrap_47 : decode prog_14_method_34_code 47 = .ok (.iadd, 1) := by decide +kernel
theorem d_Model_unwrap_48 : decode prog_14_method_34_code 48 = .ok (.aload_n 0, 1) := by decide +kernel
theorem d_Model_unwrap_49 : decode prog_14_method_34_code 49 = .ok (.getfield 59, 3) := by decide +kernel
theorem d_Model_unwrap_52 : decode prog_14_method_34_code 52 = .ok (.iload_n 1, 1) := by decide +kernel
theorem d_Model_unwrap_53 : decode prog_14_method_34_code 53 = .ok (.iaload, 1) := by decide +kernel
theorem d_Model_unwrap_54 : decode prog_14_method_34_code 54 = .ok (.aload_n 0, 1) := by decide +kernel
theorem d_Model_unwrap_55 : decode prog_14_method_34_code 55 = .ok (.getfield 62, 3) := by decide +kernel
theorem d_Model_unwrap_58 : decode prog_14_method_34_code 58 = .ok (.iload_n 1, 1) := by decide +kernel
theorem d_Model_unwrap_59 : decode prog_14_method_34_code 59 = .ok (.iaload, 1) := by decide +kernel
theorem d_Model_unwrap_60 : decode prog_14_method_34_code 60 = .ok (.invokestatic 115, 3) := by decide +kernel
theorem d_Model_unwrap_63 : decode prog_14_method_34_code 63 = .ok (.iastore, 1) := by decide +kernel
theorem d_Model_unwrap_64 : decode prog_14_method_34_code 64 = .ok (.aload_n 0, 1) := by decide +kernel
theorem d_Model_unwrap_65 : decode prog_14_method_34_code 65 = .ok (.getfield 65, 3) := by decide +kernel
theorem d_Model_unwrap_68 : decode prog_14_method_34_code 68 = .ok (.bipush 7, 2) := by decide +kernel
theorem d_Model_unwrap_70 : decode prog_14_method_34_code 70 = .ok (.iload_n 1, 1) := by decide +kernel
theorem d_Model_unwrap_71 : decode prog_14_method_34_code 71 = .ok (.imul, 1) := by decide +kernel
theorem d_Model_unwrap_72 : decode prog_14_method_34_code 72 = .ok (.iconst 1, 1) := by decide +kernel
theorem d_Model_unwrap_73 : decode prog_14_method_34_code 73 = .ok (.iastore, 1) := by decide +kernel
theorem d_Model_unwrap_74 : decode prog_14_method_34_code 74 = .ok (.return_, 1) := by decide +kernel
abbrev M_Model_join : q_M := (⟨"LensPathsModel", "join", "(IIII)V"⟩, prog_14_method_37_code, 9, none, "LensPathsModel", [], false, 2, 49)
theorem d_Model_join_0 : decode prog_14_method_37_code 0 = .ok (.aload_n 0, 1) := by decide +kernel
theorem d_Model_join_1 : decode prog_14_method_37_code 1 = .ok (.getfield 68, 3) := by decide +kernel
theorem d_Model_join_4 : decode prog_14_method_37_code 4 = .ok (.iload_n 1, 1) := by decide +kernel
theorem d_Model_join_5 : decode prog_14_method_37_code 5 = .ok (.iaload, 1) := by decide +kernel
theorem d_Model_join_6 : decode prog_14_method_37_code 6 = .ok (.istore 5, 2) := by decide +kernel
theorem d_Model_join_8 : decode prog_14_method_37_code 8 = .ok (.aload_n 0, 1) := by decide +kernel
theorem d_Model_join_9 : decode prog_14_method_37_code 9 = .ok (.getfield 68, 3) := by decide +kernel
theorem d_Model_join_12 : decode prog_14_method_37_code 12 = .ok (.iload_n 2, 1) := by decide +kernel
theorem d_Model_join_13 : decode prog_14_method_37_code 13 = .ok (.iaload, 1) := by decide +kernel
theorem d_Model_join_14 : decode prog_14_method_37_code 14 = .ok (.istore 6, 2) := by decide +kernel
theorem d_Model_join_16 : decode prog_14_method_37_code 16 = .ok (.aload_n 0, 1) := by decide +kernel
theorem d_Model_join_17 : decode prog_14_method_37_code 17 = .ok (.getfield 59, 3) := by decide +kernel
theorem d_Model_join_20 : decode prog_14_method_37_code 20 = .ok (.iload_n 1, 1) := by decide +kernel
theorem d_Model_join_21 : decode prog_14_method_37_code 21 = .ok (.aload_n 0, 1) := by decide +kernel
theorem d_Model_join_22 : decode prog_14_method_37_code 22 = .ok (.getfield 38, 3) := by decide +kernel
theorem d_Model_join_25 : decode prog_14_method_37_code 25 = .ok (.iload 4, 2) := by decide +kernel
theorem d_Model_join_27 : decode prog_14_method_37_code 27 = .ok (.bipush 6, 2) := by decide +kernel
theorem d_Model_join_29 : decode prog_14_method_37_code 29 = .ok (.iadd, 1) := by decide +kernel
theorem d_Model_join_30 : decode prog_14_method_37_code 30 = .ok (.iaload, 1) := by decide +kernel
theorem d_Model_join_31 : decode prog_14_method_37_code 31 = .ok (.iastore, 1) := by decide +kernel
theorem d_Model_join_32 : decode prog_14_method_37_code 32 = .ok (.aload_n 0, 1) := by decide +kernel
theorem d_Model_join_33 : decode prog_14_method_37_code 33 = .ok (.getfield 62, 3) := by decide +kernel
theorem d_Model_join_36 : decode prog_14_method_37_code 36 = .ok (.iload_n 1, 1) := by decide +kernel
theorem d_Model_join_37 : decode prog_14_method_37_code 37 = .ok (.aload_n 0, 1) := by decide +kernel
theorem d_Model_join_38 : decode prog_14_method_37_code 38 = .ok (.getfield 38, 3) := by decide +kernel
theorem d_Model_join_41 : decode prog_14_method_37_code 41 = .ok (.iload 4, 2) := by decide +kernel
theorem d_Model_join_43 : decode prog_14_method_37_code 43 = .ok (.bipush 7, 2) := by decide +kernel
theorem d_Model_join_45 : decode prog_14_method_37_code 45 = .ok (.iadd, 1) := by decide +kernel
theorem d_Model_join_46 : decode prog_14_method_37_code 46 = .ok (.iaload, 1) := by decide +kernel
theorem d_Model_join_47 : decode prog_14_method_37_code 47 = .ok (.iastore, 1) := by decide +kernel
theorem d_Model_join_48 : decode prog_14_method_37_code 48 = .ok (.aload_n 0, 1) := by decide +kernel
theorem d_Model_join_49 : decode prog_14_method_37_code 49 = .ok (.getfield 118, 3) := by decide +kernel
theorem d_Model_join_52 : decode prog_14_method_37_code 52 = .ok (.iconst 1, 1) := by decide +kernel
theorem d_Model_join_53 : decode prog_14_method_37_code 53 = .ok (.if_icmp .ne 89, 3) := by decide +kernel
theorem d_Model_join_56 : decode prog_14_method_37_code 56 = .ok (.aload_n 0, 1) := by decide +kernel
theorem d_Model_join_57 : decode prog_14_method_37_code 57 = .ok (.getfield 65, 3) := by decide +kernel
theorem d_Model_join_60 : decode prog_14_method_37_code 60 = .ok (.bipush 7, 2) := by decide +kernel
theorem d_Model_join_62 : decode prog_14_method_37_code 62 = .ok (.iload_n 1, 1) := by decide +kernel
theorem d_Model_join_63 : decode prog_14_method_37_code 63 = .ok (.imul, 1) := by decide +kernel
theorem d_Model_join_64 : decode prog_14_method_37_code 64 = .ok (.iconst 1, 1) := by decide +kernel
theorem d_Model_join_65 : decode prog_14_method_37_code 65 = .ok (.iadd, 1) := by decide +kernel
theorem d_Model_join_66 : decode prog_14_method_37_code 66 = .ok (.iaload, 1) := by decide +kernel
theorem d_Model_join_67 : decode prog_14_method_37_code 67 = .ok (.i2l, 1) := by decide +kernel
theorem d_Model_join_68 : decode prog_14_method_37_code 68 = .ok (.iload_n 3, 1) := by decide +kernel
theorem d_Model_join_69 : decode prog_14_method_37_code 69 = .ok (.i2l, 1) := by decide +kernel
theorem d_Model_join_70 : decode prog_14_method_37_code 70 = .ok (.lmul, 1) := by decide +kernel
theorem d_Model_join_71 : decode prog_14_method_37_code 71 = .ok (.aload_n 0, 1) := by decide +kernel
theorem d_Model_join_72 : decode prog_14_method_37_code 72 = .ok (.getfield 65, 3) := by decide +kernel
theorem d_Model_join_75 : decode prog_14_method_37_code 75 = .ok (.bipush 7, 2) := by decide +kernel
theorem d_Model_join_77 : decode prog_14_method_37_code 77 = .ok (.iload_n 2, 1) := by decide +kernel
theorem d_Model_join_78 : decode prog_14_method_37_code 78 = .ok (.imul, 1) := by decide +kernel
theorem d_Model_join_79 : decode prog_14_method_37_code 79 = .ok (.iconst 1, 1) := by decide +kernel
theorem d_Model_join_80 : decode prog_14_method_37_code 80 = .ok (.iadd, 1) := by decide +kernel
theorem d_Model_join_81 : decode prog_14_method_37_code 81 = .ok (.iaload, 1) := by decide +kernel
theorem d_Model_join_82 : decode prog_14_method_37_code 82 = .ok (.i2l, 1) := by decide +kernel
theorem d_Model_join_83 : decode prog_14_method_37_code 83 = .ok (.ladd, 1) := by decide +kernel
theorem d_Model_join_84 : decode prog_14_method_37_code 84 = .ok (.lstore 7, 2) := by decide +kernel
theorem d_Model_join_86 : decode prog_14_method_37_code 86 = .ok (.aload_n 0, 1) := by decide +kernel
theorem d_Model_join_87 : decode prog_14_method_37_code 87 = .ok (.aload_n 0, 1) := by decide +kernel
theorem d_Model_join_88 : decode prog_14_method_37_code 88 = .ok (.getfield 214, 3) := by decide +kernel
theorem d_Model_join_91 : decode prog_14_method_37_code 91 = .ok (.ifCond .ne 29, 3) := by decide +kernel
theorem d_Model_join_94 : decode prog_14_method_37_code 94 = .ok (.lload 7, 2) := by decide +kernel
theorem d_Model_join_96 : decode prog_14_method_37_code 96 = .ok (.aload_n 0, 1) := by decide +kernel
theorem d_Model_join_97 : decode prog_14_method_37_code 97 = .ok (.getfield 59, 3) := by decide +kernel
theorem d_Model_join_100 : decode prog_14_method_37_code 100 = .ok (.iload_n 1, 1) := by decide +kernel
theorem d_Model_join_101 : decode prog_14_method_37_code 101 = .ok (.iaload, 1) := by decide +kernel
theorem d_Model_join_102 : decode prog_14_method_37_code 102 = .ok (.i2l, 1) := by decide +kernel
theorem d_Model_join_103 : decode prog_14_method_37_code 103 = .ok (.lcmp, 1) := by decide +kernel
theorem d_Model_join_104 : decode prog_14_method_37_code 104 = .ok (.ifCond .lt 16, 3) := by decide +kernel
theorem d_Model_join_107 : decode prog_14_method_37_code 107 = .ok (.lload 7, 2) := by decide +kernel
theorem d_Model_join_109 : decode prog_14_method_37_code 109 = .ok (.aload_n 0, 1) := by decide +kernel
theorem d_Model_join_110 : decode prog_14_method_37_code 110 = .ok (.getfield 62, 3) := by decide +kernel
theorem d_Model_join_113 : decode prog_14_method_37_code 113 = .ok (.iload_n 1, 1) := by decide +kernel
theorem d_Model_join_114 : decode prog_14_method_37_code 114 = .ok (.iaload, 1) := by decide +kernel
theorem d_Model_join_115 : decode prog_14_method_37_code 115 = .ok (.i2l, 1) := by decide +kernel
theorem d_Model_join_116 : decode prog_14_method_37_code 116 = .ok (.lcmp, 1) := by decide +kernel
theorem d_Model_join_117 : decode prog_14_method_37_code 117 = .ok (.ifCond .le 7, 3) := by decide +kernel
theorem d_Model_join_120 : decode prog_14_method_37_code 120 = .ok (.iconst 1, 1) := by decide +kernel
theorem d_Model_join_121 : decode prog_14_method_37_code 121 = .ok (.goto 4, 3) := by decide +kernel
theorem d_Model_join_124 : decode prog_14_method_37_code 124 = .ok (.iconst 0, 1) := by decide +kernel
theorem d_Model_join_125 : decode prog_14_method_37_code 125 = .ok (.putfield 214, 3) := by decide +kernel
theorem d_Model_join_128 : decode prog_14_method_37_code 128 = .ok (.aload_n 0, 1) := by decide +kernel
theorem d_Model_join_129 : decode prog_14_method_37_code 129 = .ok (.getfield 65, 3) := by decide +kernel
theorem d_Model_join_132 : decode prog_14_method_37_code 132 = .ok (.bipush 7, 2) := by decide +kernel
theorem d_Model_join_134 : decode prog_14_method_37_code 134 = .ok (.iload_n 1, 1) := by decide +kernel
theorem d_Model_join_135 : decode prog_14_method_37_code 135 = .ok (.imul, 1) := by decide +kernel
theorem d_Model_join_136 : decode prog_14_method_37_code 136 = .ok (.iconst 1, 1) := by decide +kernel
theorem d_Model_join_137 : decode prog_14_method_37_code 137 = .ok (.iadd, 1) := by decide +kernel
theorem d_Model_join_138 : decode prog_14_method_37_code 138 = .ok (.lload 7, 2) := by decide +kernel
theorem d_Model_join_140 : decode prog_14_method_37_code 140 = .ok (.l2i, 1) := by decide +kernel
theorem d_Model_join_141 : decode prog_14_method_37_code 141 = .ok (.iastore, 1) := by decide +kernel
theorem d_Model_join_142 : decode prog_14_method_37_code 142 = .ok (.aload_n 0, 1) := by decide +kernel
theorem d_Model_join_143 : decode prog_14_method_37_code 143 = .ok (.getfield 118, 3) := by decide +kernel
theorem d_Model_join_146 : decode prog_14_method_37_code 146 = .ok (.iconst 2, 1) := by decide +kernel
theorem d_Model_join_147 : decode prog_14_method_37_code 147 = .ok (.if_icmp .ne 148, 3) := by decide +kernel
theorem d_Model_join_150 : decode prog_14_method_37_code 150 = .ok (.aload_n 0, 1) := by decide +kernel
theorem d_Model_join_151 : decode prog_14_method_37_code 151 = .ok (.getfield 77, 3) := by decide +kernel
theorem d_Model_join_154 : decode prog_14_method_37_code 154 = .ok (.iload 5, 2) := by decide +kernel
theorem d_Model_join_156 : decode prog_14_method_37_code 156 = .ok (.iaload, 1) := by decide +kernel
theorem d_Model_join_157 : decode prog_14_method_37_code 157 = .ok (.iconst 5, 1) := by decide +kernel
theorem d_Model_join_158 : decode prog_14_method_37_code 158 = .ok (.if_icmp .ne 58, 3) := by decide +kernel
theorem d_Model_join_161 : decode prog_14_method_37_code 161 = .ok (.aload_n 0, 1) := by decide +kernel
theorem d_Model_join_162 : decode prog_14_method_37_code 162 = .ok (.getfield 77, 3) := by decide +kernel
theorem d_Model_join_165 : decode prog_14_method_37_code 165 = .ok (.iload 6, 2) := by decide +kernel
theorem d_Model_join_167 : decode prog_14_method_37_code 167 = .ok (.iaload, 1) := by decide +kernel
theorem d_Model_join_168 : decode prog_14_method_37_code 168 = .ok (.bipush 6, 2) := by decide +kernel
theorem d_Model_join_170 : decode prog_14_method_37_code 170 = .ok (.if_icmp .ne 46, 3) := by decide +kernel
theorem d_Model_join_173 : decode prog_14_method_37_code 173 = .ok (.aload_n 0, 1) := by decide +kernel
theorem d_Model_join_174 : decode prog_14_method_37_code 174 = .ok (.iload 5, 2) := by decide +kernel
theorem d_Model_join_176 : decode prog_14_method_37_code 176 = .ok (.iconst 0, 1) := by decide +kernel
theorem d_Model_join_177 : decode prog_14_method_37_code 177 = .ok (.invokevirtual 207, 3) := by decide +kernel
theorem d_Model_join_180 : decode prog_14_method_37_code 180 = .ok (.aload_n 0, 1) := by decide +kernel
theorem d_Model_join_181 : decode prog_14_method_37_code 181 = .ok (.iload 6, 2) := by decide +kernel
theorem d_Model_join_183 : decode prog_14_method_37_code 183 = .ok (.iconst 0, 1) := by decide +kernel
theorem d_Model_join_184 : decode prog_14_method_37_code 184 = .ok (.invokevirtual 207, 3) := by decide +kernel
theorem d_Model_join_187 : decode prog_14_method_37_code 187 = .ok (.if_icmp .ne 29, 3) := by decide +kernel
theorem d_Model_join_190 : decode prog_14_method_37_code 190 = .ok (.aload_n 0, 1) := by decide +kernel
theorem d_Model_join_191 : decode prog_14_method_37_code 191 = .ok (.iload 5, 2) := by decide +kernel
theorem d_Model_join_193 : decode prog_14_method_37_code 193 = .ok (.iconst 1, 1) := by decide +kernel
theorem d_Model_join_194 : decode prog_14_method_37_code 194 = .ok (.invokevirtual 207, 3) := by decide +kernel
theorem d_Model_join_197 : decode prog_14_method_37_code 197 = .ok (.iload_n 3, 1) := by decide +kernel
theorem d_Model_join_198 : decode prog_14_method_37_code 198 = .ok (.if_icmp .ne 18, 3) := by decide +kernel
theorem d_Model_join_201 : decode prog_14_method_37_code 201 = .ok (.aload_n 0, 1) := by decide +kernel
theorem d_Model_join_202 : decode prog_14_method_37_code 202 = .ok (.iload 6, 2) := by decide +kernel
theorem d_Model_join_204 : decode prog_14_method_37_code 204 = .ok (.iconst 1, 1) := by decide +kernel
theorem d_Model_join_205 : decode prog_14_method_37_code 205 = .ok (.invokevirtual 207, 3) := by decide +kernel
theorem d_Model_join_208 : decode prog_14_method_37_code 208 = .ok (.iload_n 3, 1) := by decide +kernel
theorem d_Model_join_209 : decode prog_14_method_37_code 209 = .ok (.if_icmp .ne 7, 3) := by decide +kernel
theorem d_Model_join_212 : decode prog_14_method_37_code 212 = .ok (.iconst 1, 1) := by decide +kernel
theorem d_Model_join_213 : decode prog_14_method_37_code 213 = .ok (.goto 4, 3) := by decide +kernel
theorem d_Model_join_216 : decode prog_14_method_37_code 216 = .ok (.iconst 0, 1) := by decide +kernel
theorem d_Model_join_217 : decode prog_14_method_37_code 217 = .ok (.istore 7, 2) := by decide +kernel
theorem d_Model_join_219 : decode prog_14_method_37_code 219 = .ok (.aload_n 0, 1) := by decide +kernel
theorem d_Model_join_220 : decode prog_14_method_37_code 220 = .ok (.getfield 68, 3) := by decide +kernel
theorem d_Model_join_223 : decode prog_14_method_37_code 223 = .ok (.iload_n 1, 1) := by decide +kernel
theorem d_Model_join_224 : decode prog_14_method_37_code 224 = .ok (.aload_n 0, 1) := by decide +kernel
theorem d_Model_join_225 : decode prog_14_method_37_code 225 = .ok (.iload 5, 2) := by decide +kernel
theorem d_Model_join_227 : decode prog_14_method_37_code 227 = .ok (.invokevirtual 210, 3) := by decide +kernel
theorem d_Model_join_230 : decode prog_14_method_37_code 230 = .ok (.ifCond .eq 36, 3) := by decide +kernel
theorem d_Model_join_233 : decode prog_14_method_37_code 233 = .ok (.aload_n 0, 1) := by decide +kernel
theorem d_Model_join_234 : decode prog_14_method_37_code 234 = .ok (.iload 6, 2) := by decide +kernel
theorem d_Model_join_236 : decode prog_14_method_37_code 236 = .ok (.invokevirtual 210, 3) := by decide +kernel
theorem d_Model_join_239 : decode prog_14_method_37_code 239 = .ok (.ifCond .eq 27, 3) := by decide +kernel
theorem d_Model_join_242 : decode prog_14_method_37_code 242 = .ok (.aload_n 0, 1) := by decide +kernel
theorem d_Model_join_243 : decode prog_14_method_37_code 243 = .ok (.aload_n 0, 1) := by decide +kernel
theorem d_Model_join_244 : decode prog_14_method_37_code 244 = .ok (.iload 5, 2) := by decide +kernel
theorem d_Model_join_246 : decode prog_14_method_37_code 246 = .ok (.iconst 0, 1) := by decide +kernel
theorem d_Model_join_247 : decode prog_14_method_37_code 247 = .ok (.invokevirtual 207, 3) := by decide +kernel
theorem d_Model_join_250 : decode prog_14_method_37_code 250 = .ok (.iload_n 3, 1) := by decide +kernel
theorem d_Model_join_251 : decode prog_14_method_37_code 251 = .ok (.imul, 1) := by decide +kernel
theorem d_Model_join_252 : decode prog_14_method_37_code 252 = .ok (.aload_n 0, 1) := by decide +kernel
theorem d_Model_join_253 : decode prog_14_method_37_code 253 = .ok (.iload 6, 2) := by decide +kernel
theorem d_Model_join_255 : decode prog_14_method_37_code 255 = .ok (.iconst 0, 1) := by decide +kernel
theorem d_Model_join_256 : decode prog_14_method_37_code 256 = .ok (.invokevirtual 207, 3) := by decide +kernel
theorem d_Model_join_259 : decode prog_14_method_37_code 259 = .ok (.iadd, 1) := by decide +kernel
theorem d_Model_join_260 : decode prog_14_method_37_code 260 = .ok (.invokevirtual 121, 3) := by decide +kernel
theorem d_Model_join_263 : decode prog_14_method_37_code 263 = .ok (.goto 31, 3) := by decide +kernel
theorem d_Model_join_266 : decode prog_14_method_37_code 266 = .ok (.iload 7, 2) := by decide +kernel
theorem d_Model_join_268 : decode prog_14_method_37_code 268 = .ok (.ifCond .eq 13, 3) := by decide +kernel
theorem d_Model_join_271 : decode prog_14_method_37_code 271 = .ok (.aload_n 0, 1) := by decide +kernel
theorem d_Model_join_272 : decode prog_14_method_37_code 272 = .ok (.iload 5, 2) := by decide +kernel
theorem d_Model_join_274 : decode prog_14_method_37_code 274 = .ok (.iconst 0, 1) := by decide +kernel
theorem d_Model_join_275 : decode prog_14_method_37_code 275 = .ok (.invokevirtual 207, 3) := by decide +kernel
theorem d_Model_join_278 : decode prog_14_method_37_code 278 = .ok (.goto 16, 3) := by decide +kernel
theorem d_Model_join_281 : decode prog_14_method_37_code 281 = .ok (.aload_n 0, 1) := by decide +kernel
theorem d_Model_join_282 : decode prog_14_method_37_code 282 = .ok (.bipush 7, 2) := by decide +kernel
theorem d_Model_join_284 : decode prog_14_method_37_code 284 = .ok (.iload 5, 2) := by decide +kernel
theorem d_Model_join_286 : decode prog_14_method_37_code 286 = .ok (.iload 6, 2) := by decide +kernel
theorem d_Model_join_288 : decode prog_14_method_37_code 288 = .ok (.iload_n 3, 1) := by decide +kernel
theorem d_Model_join_289 : decode prog_14_method_37_code 289 = .ok (.iconst 0, 1) := by decide +kernel
theorem d_Model_join_290 : decode prog_14_method_37_code 290 = .ok (.iconst 0, 1) := by decide +kernel
theorem d_Model_join_291 : decode prog_14_method_37_code 291 = .ok (.invokevirtual 124, 3) := by decide +kernel
theorem d_Model_join_294 : decode prog_14_method_37_code 294 = .ok (.iastore, 1) := by decide +kernel
theorem d_Model_join_295 : decode prog_14_method_37_code 295 = .ok (.aload_n 0, 1) := by decide +kernel
theorem d_Model_join_296 : decode prog_14_method_37_code 296 = .ok (.iload_n 2, 1) := by decide +kernel
theorem d_Model_join_297 : decode prog_14_method_37_code 297 = .ok (.invokevirtual 203, 3) := by decide +kernel
theorem d_Model_join_300 : decode prog_14_method_37_code 300 = .ok (.return_, 1) := by decide +kernel
abbrev M_Model_within : q_M := (⟨"LensPathsModel", "within", "(JII)J"⟩, prog_14_method_24_code, 4, (some .long), "LensPathsModel", [], false, 0, 0)
theorem d_Model_within_0 : decode prog_14_method_24_code 0 = .ok (.lload_n 0, 1) := by decide +kernel
theorem d_Model_within_1 : decode prog_14_method_24_code 1 = .ok (.iload_n 2, 1) := by decide +kernel
theorem d_Model_within_2 : decode prog_14_method_24_code 2 = .ok (.i2l, 1) := by decide +kernel
theorem d_Model_within_3 : decode prog_14_method_24_code 3 = .ok (.lcmp, 1) := by decide +kernel
theorem d_Model_within_4 : decode prog_14_method_24_code 4 = .ok (.ifCond .ge 8, 3) := by decide +kernel
theorem d_Model_within_7 : decode prog_14_method_24_code 7 = .ok (.iload_n 2, 1) := by decide +kernel
theorem d_Model_within_8 : decode prog_14_method_24_code 8 = .ok (.i2l, 1) := by decide +kernel
theorem d_Model_within_9 : decode prog_14_method_24_code 9 = .ok (.goto 16, 3) := by decide +kernel
theorem d_Model_within_12 : decode prog_14_method_24_code 12 = .ok (.lload_n 0, 1) := by decide +kernel
theorem d_Model_within_13 : decode prog_14_method_24_code 13 = .ok (.iload_n 3, 1) := by decide +kernel
theorem d_Model_within_14 : decode prog_14_method_24_code 14 = .ok (.i2l, 1) := by decide +kernel
theorem d_Model_within_15 : decode prog_14_method_24_code 15 = .ok (.lcmp, 1) := by decide +kernel
theorem d_Model_within_16 : decode prog_14_method_24_code 16 = .ok (.ifCond .le 8, 3) := by decide +kernel
theorem d_Model_within_19 : decode prog_14_method_24_code 19 = .ok (.iload_n 3, 1) := by decide +kernel
theorem d_Model_within_20 : decode prog_14_method_24_code 20 = .ok (.i2l, 1) := by decide +kernel
theorem d_Model_within_21 : decode prog_14_method_24_code 21 = .ok (.goto 4, 3) := by decide +kernel
theorem d_Model_within_24 : decode prog_14_method_24_code 24 = .ok (.lload_n 0, 1) := by decide +kernel
theorem d_Model_within_25 : decode prog_14_method_24_code 25 = .ok (.lreturn, 1) := by decide +kernel
abbrev M_Model_back : q_M := (⟨"LensPathsModel", "back", "(II)V"⟩, prog_14_method_29_code, 10, none, "LensPathsModel", [], false, 4, 107)
theorem d_Model_back_0 : decode prog_14_method_29_code 0 = .ok (.aload_n 0, 1) := by decide +kernel
theorem d_Model_back_1 : decode prog_14_method_29_code 1 = .ok (.iload_n 1, 1) := by decide +kernel
theorem d_Model_back_2 : decode prog_14_method_29_code 2 = .ok (.iload_n 2, 1) := by decide +kernel
theorem d_Model_back_3 : decode prog_14_method_29_code 3 = .ok (.invokevirtual 157, 3) := by decide +kernel
theorem d_Model_back_6 : decode prog_14_method_29_code 6 = .ok (.istore_n 3, 1) := by decide +kernel
theorem d_Model_back_7 : decode prog_14_method_29_code 7 = .ok (.aload_n 0, 1) := by decide +kernel
theorem d_Model_back_8 : decode prog_14_method_29_code 8 = .ok (.getfield 38, 3) := by decide +kernel
theorem d_Model_back_11 : decode prog_14_method_29_code 11 = .ok (.iload_n 3, 1) := by decide +kernel
theorem d_Model_back_12 : decode prog_14_method_29_code 12 = .ok (.iaload, 1) := by decide +kernel
theorem d_Model_back_13 : decode prog_14_method_29_code 13 = .ok (.istore 4, 2) := by decide +kernel
theorem d_Model_back_15 : decode prog_14_method_29_code 15 = .ok (.aload_n 0, 1) := by decide +kernel
theorem d_Model_back_16 : decode prog_14_method_29_code 16 = .ok (.getfield 38, 3) := by decide +kernel
theorem d_Model_back_19 : decode prog_14_method_29_code 19 = .ok (.iload_n 3, 1) := by decide +kernel
theorem d_Model_back_20 : decode prog_14_method_29_code 20 = .ok (.iconst 1, 1) := by decide +kernel
theorem d_Model_back_21 : decode prog_14_method_29_code 21 = .ok (.iadd, 1) := by decide +kernel
theorem d_Model_back_22 : decode prog_14_method_29_code 22 = .ok (.iaload, 1) := by decide +kernel
theorem d_Model_back_23 : decode prog_14_method_29_code 23 = .ok (.istore 5, 2) := by decide +kernel
theorem d_Model_back_25 : decode prog_14_method_29_code 25 = .ok (.aload_n 0, 1) := by decide +kernel
theorem d_Model_back_26 : decode prog_14_method_29_code 26 = .ok (.getfield 38, 3) := by decide +kernel
theorem d_Model_back_29 : decode prog_14_method_29_code 29 = .ok (.iload_n 3, 1) := by decide +kernel
theorem d_Model_back_30 : decode prog_14_method_29_code 30 = .ok (.iconst 2, 1) := by decide +kernel
theorem d_Model_back_31 : decode prog_14_method_29_code 31 = .ok (.iadd, 1) := by decide +kernel
theorem d_Model_back_32 : decode prog_14_method_29_code 32 = .ok (.iaload, 1) := by decide +kernel
theorem d_Model_back_33 : decode prog_14_method_29_code 33 = .ok (.istore 6, 2) := by decide +kernel
theorem d_Model_back_35 : decode prog_14_method_29_code 35 = .ok (.aload_n 0, 1) := by decide +kernel
theorem d_Model_back_36 : decode prog_14_method_29_code 36 = .ok (.getfield 38, 3) := by decide +kernel
theorem d_Model_back_39 : decode prog_14_method_29_code 39 = .ok (.iload_n 3, 1) := by decide +kernel
theorem d_Model_back_40 : decode prog_14_method_29_code 40 = .ok (.iconst 3, 1) := by decide +kernel
theorem d_Model_back_41 : decode prog_14_method_29_code 41 = .ok (.iadd, 1) := by decide +kernel
theorem d_Model_back_42 : decode prog_14_method_29_code 42 = .ok (.iaload, 1) := by decide +kernel
theorem d_Model_back_43 : decode prog_14_method_29_code 43 = .ok (.istore 7, 2) := by decide +kernel
theorem d_Model_back_45 : decode prog_14_method_29_code 45 = .ok (.bipush 8, 2) := by decide +kernel
theorem d_Model_back_47 : decode prog_14_method_29_code 47 = .ok (.iload_n 1, 1) := by decide +kernel
theorem d_Model_back_48 : decode prog_14_method_29_code 48 = .ok (.imul, 1) := by decide +kernel
theorem d_Model_back_49 : decode prog_14_method_29_code 49 = .ok (.iload_n 2, 1) := by decide +kernel
theorem d_Model_back_50 : decode prog_14_method_29_code 50 = .ok (.iadd, 1) := by decide +kernel
theorem d_Model_back_51 : decode prog_14_method_29_code 51 = .ok (.istore 8, 2) := by decide +kernel
theorem d_Model_back_53 : decode prog_14_method_29_code 53 = .ok (.aload_n 0, 1) := by decide +kernel
theorem d_Model_back_54 : decode prog_14_method_29_code 54 = .ok (.iload 5, 2) := by decide +kernel
theorem d_Model_back_56 : decode prog_14_method_29_code 56 = .ok (.invokevirtual 111, 3) := by decide +kernel
theorem d_Model_back_59 : decode prog_14_method_29_code 59 = .ok (.istore 9, 2) := by decide +kernel
theorem d_Model_back_61 : decode prog_14_method_29_code 61 = .ok (.iload 4, 2) := by decide +kernel
theorem d_Model_back_63 : decode prog_14_method_29_code 63 = .ok (.tableswitch 207 0 6 #[41, 60, 71, 81, 41, 133, 156], 41) := by decide +kernel
theorem d_Model_back_104 : decode prog_14_method_29_code 104 = .ok (.aload_n 0, 1) := by decide +kernel
theorem d_Model_back_105 : decode prog_14_method_29_code 105 = .ok (.aload_n 0, 1) := by decide +kernel
theorem d_Model_back_106 : decode prog_14_method_29_code 106 = .ok (.iload 4, 2) := by decide +kernel
theorem d_Model_back_108 : decode prog_14_method_29_code 108 = .ok (.iload 5, 2) := by decide +kernel
theorem d_Model_back_110 : decode prog_14_method_29_code 110 = .ok (.iload 6, 2) := by decide +kernel
theorem d_Model_back_112 : decode prog_14_method_29_code 112 = .ok (.invokevirtual 160, 3) := by decide +kernel
theorem d_Model_back_115 : decode prog_14_method_29_code 115 = .ok (.iload 5, 2) := by decide +kernel
theorem d_Model_back_117 : decode prog_14_method_29_code 117 = .ok (.invokevirtual 163, 3) := by decide +kernel
theorem d_Model_back_120 : decode prog_14_method_29_code 120 = .ok (.goto 166, 3) := by decide +kernel
theorem d_Model_back_123 : decode prog_14_method_29_code 123 = .ok (.aload_n 0, 1) := by decide +kernel
theorem d_Model_back_124 : decode prog_14_method_29_code 124 = .ok (.iload 5, 2) := by decide +kernel
theorem d_Model_back_126 : decode prog_14_method_29_code 126 = .ok (.iload 8, 2) := by decide +kernel
theorem d_Model_back_128 : decode prog_14_method_29_code 128 = .ok (.invokevirtual 170, 3) := by decide +kernel
theorem d_Model_back_131 : decode prog_14_method_29_code 131 = .ok (.goto 155, 3) := by decide +kernel
theorem d_Model_back_134 : decode prog_14_method_29_code 134 = .ok (.aload_n 0, 1) := by decide +kernel
theorem d_Model_back_135 : decode prog_14_method_29_code 135 = .ok (.iload_n 3, 1) := by decide +kernel
theorem d_Model_back_136 : decode prog_14_method_29_code 136 = .ok (.iload 8, 2) := by decide +kernel
theorem d_Model_back_138 : decode prog_14_method_29_code 138 = .ok (.invokevirtual 167, 3) := by decide +kernel
theorem d_Model_back_141 : decode prog_14_method_29_code 141 = .ok (.goto 145, 3) := by decide +kernel
theorem d_Model_back_144 : decode prog_14_method_29_code 144 = .ok (.aload_n 0, 1) := by decide +kernel
theorem d_Model_back_145 : decode prog_14_method_29_code 145 = .ok (.getfield 56, 3) := by decide +kernel
theorem d_Model_back_148 : decode prog_14_method_29_code 148 = .ok (.iload 9, 2) := by decide +kernel
theorem d_Model_back_150 : decode prog_14_method_29_code 150 = .ok (.iconst 0, 1) := by decide +kernel
theorem d_Model_back_151 : decode prog_14_method_29_code 151 = .ok (.iastore, 1) := by decide +kernel
theorem d_Model_back_152 : decode prog_14_method_29_code 152 = .ok (.aload_n 0, 1) := by decide +kernel
theorem d_Model_back_153 : decode prog_14_method_29_code 153 = .ok (.getfield 118, 3) := by decide +kernel
theorem d_Model_back_156 : decode prog_14_method_29_code 156 = .ok (.iconst 1, 1) := by decide +kernel
theorem d_Model_back_157 : decode prog_14_method_29_code 157 = .ok (.if_icmp .ne 11, 3) := by decide +kernel
theorem d_Model_back_160 : decode prog_14_method_29_code 160 = .ok (.aload_n 0, 1) := by decide +kernel
theorem d_Model_back_161 : decode prog_14_method_29_code 161 = .ok (.iload 9, 2) := by decide +kernel
theorem d_Model_back_163 : decode prog_14_method_29_code 163 = .ok (.iload 8, 2) := by decide +kernel
theorem d_Model_back_165 : decode prog_14_method_29_code 165 = .ok (.invokevirtual 188, 3) := by decide +kernel
theorem d_Model_back_168 : decode prog_14_method_29_code 168 = .ok (.aload_n 0, 1) := by decide +kernel
theorem d_Model_back_169 : decode prog_14_method_29_code 169 = .ok (.getfield 68, 3) := by decide +kernel
theorem d_Model_back_172 : decode prog_14_method_29_code 172 = .ok (.iload 9, 2) := by decide +kernel
theorem d_Model_back_174 : decode prog_14_method_29_code 174 = .ok (.aload_n 0, 1) := by decide +kernel
theorem d_Model_back_175 : decode prog_14_method_29_code 175 = .ok (.getfield 118, 3) := by decide +kernel
theorem d_Model_back_178 : decode prog_14_method_29_code 178 = .ok (.iconst 2, 1) := by decide +kernel
theorem d_Model_back_179 : decode prog_14_method_29_code 179 = .ok (.if_icmp .ne 12, 3) := by decide +kernel
theorem d_Model_back_182 : decode prog_14_method_29_code 182 = .ok (.aload_n 0, 1) := by decide +kernel
theorem d_Model_back_183 : decode prog_14_method_29_code 183 = .ok (.iload 9, 2) := by decide +kernel
theorem d_Model_back_185 : decode prog_14_method_29_code 185 = .ok (.invokevirtual 191, 3) := by decide +kernel
theorem d_Model_back_188 : decode prog_14_method_29_code 188 = .ok (.goto 4, 3) := by decide +kernel
theorem d_Model_back_191 : decode prog_14_method_29_code 191 = .ok (.iconst 0, 1) := by decide +kernel
theorem d_Model_back_192 : decode prog_14_method_29_code 192 = .ok (.iastore, 1) := by decide +kernel
theorem d_Model_back_193 : decode prog_14_method_29_code 193 = .ok (.goto 93, 3) := by decide +kernel
theorem d_Model_back_196 : decode prog_14_method_29_code 196 = .ok (.aload_n 0, 1) := by decide +kernel
theorem d_Model_back_197 : decode prog_14_method_29_code 197 = .ok (.iload 9, 2) := by decide +kernel
theorem d_Model_back_199 : decode prog_14_method_29_code 199 = .ok (.aload_n 0, 1) := by decide +kernel
theorem d_Model_back_200 : decode prog_14_method_29_code 200 = .ok (.iload 5, 2) := by decide +kernel
theorem d_Model_back_202 : decode prog_14_method_29_code 202 = .ok (.iload 7, 2) := by decide +kernel
theorem d_Model_back_204 : decode prog_14_method_29_code 204 = .ok (.invokestatic 194, 3) := by decide +kernel
theorem d_Model_back_207 : decode prog_14_method_29_code 207 = .ok (.invokevirtual 111, 3) := by decide +kernel
theorem d_Model_back_210 : decode prog_14_method_29_code 210 = .ok (.iload 6, 2) := by decide +kernel
theorem d_Model_back_212 : decode prog_14_method_29_code 212 = .ok (.iload_n 3, 1) := by decide +kernel
theorem d_Model_back_213 : decode prog_14_method_29_code 213 = .ok (.invokevirtual 197, 3) := by decide +kernel
theorem d_Model_back_216 : decode prog_14_method_29_code 216 = .ok (.goto 70, 3) := by decide +kernel
theorem d_Model_back_219 : decode prog_14_method_29_code 219 = .ok (.aload_n 0, 1) := by decide +kernel
theorem d_Model_back_220 : decode prog_14_method_29_code 220 = .ok (.getfield 59, 3) := by decide +kernel
theorem d_Model_back_223 : decode prog_14_method_29_code 223 = .ok (.iload 9, 2) := by decide +kernel
theorem d_Model_back_225 : decode prog_14_method_29_code 225 = .ok (.aload_n 0, 1) := by decide +kernel
theorem d_Model_back_226 : decode prog_14_method_29_code 226 = .ok (.getfield 38, 3) := by decide +kernel
theorem d_Model_back_229 : decode prog_14_method_29_code 229 = .ok (.iload_n 3, 1) := by decide +kernel
theorem d_Model_back_230 : decode prog_14_method_29_code 230 = .ok (.bipush 6, 2) := by decide +kernel
theorem d_Model_back_232 : decode prog_14_method_29_code 232 = .ok (.iadd, 1) := by decide +kernel
theorem d_Model_back_233 : decode prog_14_method_29_code 233 = .ok (.iaload, 1) := by decide +kernel
theorem d_Model_back_234 : decode prog_14_method_29_code 234 = .ok (.iastore, 1) := by decide +kernel
theorem d_Model_back_235 : decode prog_14_method_29_code 235 = .ok (.aload_n 0, 1) := by decide +kernel
theorem d_Model_back_236 : decode prog_14_method_29_code 236 = .ok (.getfield 62, 3) := by decide +kernel
theorem d_Model_back_239 : decode prog_14_method_29_code 239 = .ok (.iload 9, 2) := by decide +kernel
theorem d_Model_back_241 : decode prog_14_method_29_code 241 = .ok (.aload_n 0, 1) := by decide +kernel
theorem d_Model_back_242 : decode prog_14_method_29_code 242 = .ok (.getfield 38, 3) := by decide +kernel
theorem d_Model_back_245 : decode prog_14_method_29_code 245 = .ok (.iload_n 3, 1) := by decide +kernel
theorem d_Model_back_246 : decode prog_14_method_29_code 246 = .ok (.bipush 7, 2) := by decide +kernel
theorem d_Model_back_248 : decode prog_14_method_29_code 248 = .ok (.iadd, 1) := by decide +kernel
theorem d_Model_back_249 : decode prog_14_method_29_code 249 = .ok (.iaload, 1) := by decide +kernel
theorem d_Model_back_250 : decode prog_14_method_29_code 250 = .ok (.iastore, 1) := by decide +kernel
theorem d_Model_back_251 : decode prog_14_method_29_code 251 = .ok (.aload_n 0, 1) := by decide +kernel
theorem d_Model_back_252 : decode prog_14_method_29_code 252 = .ok (.iload 9, 2) := by decide +kernel
theorem d_Model_back_254 : decode prog_14_method_29_code 254 = .ok (.iload 4, 2) := by decide +kernel
theorem d_Model_back_256 : decode prog_14_method_29_code 256 = .ok (.iload 6, 2) := by decide +kernel
theorem d_Model_back_258 : decode prog_14_method_29_code 258 = .ok (.iload 7, 2) := by decide +kernel
theorem d_Model_back_260 : decode prog_14_method_29_code 260 = .ok (.iconst 0, 1) := by decide +kernel
theorem d_Model_back_261 : decode prog_14_method_29_code 261 = .ok (.iload 8, 2) := by decide +kernel
theorem d_Model_back_263 : decode prog_14_method_29_code 263 = .ok (.iload_n 3, 1) := by decide +kernel
theorem d_Model_back_264 : decode prog_14_method_29_code 264 = .ok (.invokevirtual 180, 3) := by decide +kernel
theorem d_Model_back_267 : decode prog_14_method_29_code 267 = .ok (.goto 19, 3) := by decide +kernel
theorem d_Model_back_270 : decode prog_14_method_29_code 270 = .ok (.aload_n 0, 1) := by decide +kernel
theorem d_Model_back_271 : decode prog_14_method_29_code 271 = .ok (.iload 9, 2) := by decide +kernel
theorem d_Model_back_273 : decode prog_14_method_29_code 273 = .ok (.iload 4, 2) := by decide +kernel
theorem d_Model_back_275 : decode prog_14_method_29_code 275 = .ok (.iload 6, 2) := by decide +kernel
theorem d_Model_back_277 : decode prog_14_method_29_code 277 = .ok (.iload 7, 2) := by decide +kernel
theorem d_Model_back_279 : decode prog_14_method_29_code 279 = .ok (.iconst 0, 1) := by decide +kernel
theorem d_Model_back_280 : decode prog_14_method_29_code 280 = .ok (.iload 8, 2) := by decide +kernel
theorem d_Model_back_282 : decode prog_14_method_29_code 282 = .ok (.iload_n 3, 1) := by decide +kernel
theorem d_Model_back_283 : decode prog_14_method_29_code 283 = .ok (.invokevirtual 180, 3) := by decide +kernel
theorem d_Model_back_286 : decode prog_14_method_29_code 286 = .ok (.return_, 1) := by decide +kernel
abbrev M_Model_goRoute : q_M := (⟨"LensPathsModel", "goRoute", "()V"⟩, prog_14_method_74_code, 5, none, "LensPathsModel", [], false, 5, 136)
theorem d_Model_goRoute_0 : decode prog_14_method_74_code 0 = .ok (.iconst 0, 1) := by decide +kernel
theorem d_Model_goRoute_1 : decode prog_14_method_74_code 1 = .ok (.istore_n 1, 1) := by decide +kernel
theorem d_Model_goRoute_2 : decode prog_14_method_74_code 2 = .ok (.iload_n 1, 1) := by decide +kernel
theorem d_Model_goRoute_3 : decode prog_14_method_74_code 3 = .ok (.iconst 1, 1) := by decide +kernel
theorem d_Model_goRoute_4 : decode prog_14_method_74_code 4 = .ok (.iadd, 1) := by decide +kernel
theorem d_Model_goRoute_5 : decode prog_14_method_74_code 5 = .ok (.aload_n 0, 1) := by decide +kernel
theorem d_Model_goRoute_6 : decode prog_14_method_74_code 6 = .ok (.getfield 299, 3) := by decide +kernel
theorem d_Model_goRoute_9 : decode prog_14_method_74_code 9 = .ok (.if_icmp .ge 87, 3) := by decide +kernel
theorem d_Model_goRoute_12 : decode prog_14_method_74_code 12 = .ok (.aload_n 0, 1) := by decide +kernel
theorem d_Model_goRoute_13 : decode prog_14_method_74_code 13 = .ok (.getfield 89, 3) := by decide +kernel
theorem d_Model_goRoute_16 : decode prog_14_method_74_code 16 = .ok (.iload_n 1, 1) := by decide +kernel
theorem d_Model_goRoute_17 : decode prog_14_method_74_code 17 = .ok (.iaload, 1) := by decide +kernel
theorem d_Model_goRoute_18 : decode prog_14_method_74_code 18 = .ok (.istore_n 2, 1) := by decide +kernel
theorem d_Model_goRoute_19 : decode prog_14_method_74_code 19 = .ok (.aload_n 0, 1) := by decide +kernel
theorem d_Model_goRoute_20 : decode prog_14_method_74_code 20 = .ok (.getfield 29, 3) := by decide +kernel
theorem d_Model_goRoute_23 : decode prog_14_method_74_code 23 = .ok (.iload_n 2, 1) := by decide +kernel
theorem d_Model_goRoute_24 : decode prog_14_method_74_code 24 = .ok (.iaload, 1) := by decide +kernel
theorem d_Model_goRoute_25 : decode prog_14_method_74_code 25 = .ok (.aload_n 0, 1) := by decide +kernel
theorem d_Model_goRoute_26 : decode prog_14_method_74_code 26 = .ok (.getfield 86, 3) := by decide +kernel
theorem d_Model_goRoute_29 : decode prog_14_method_74_code 29 = .ok (.iload_n 1, 1) := by decide +kernel
theorem d_Model_goRoute_30 : decode prog_14_method_74_code 30 = .ok (.iaload, 1) := by decide +kernel
theorem d_Model_goRoute_31 : decode prog_14_method_74_code 31 = .ok (.if_icmp .ne 7, 3) := by decide +kernel
theorem d_Model_goRoute_34 : decode prog_14_method_74_code 34 = .ok (.iconst 1, 1) := by decide +kernel
theorem d_Model_goRoute_35 : decode prog_14_method_74_code 35 = .ok (.goto 4, 3) := by decide +kernel
theorem d_Model_goRoute_38 : decode prog_14_method_74_code 38 = .ok (.iconst 0, 1) := by decide +kernel
theorem d_Model_goRoute_39 : decode prog_14_method_74_code 39 = .ok (.istore_n 3, 1) := by decide +kernel
theorem d_Model_goRoute_40 : decode prog_14_method_74_code 40 = .ok (.iconst 0, 1) := by decide +kernel
theorem d_Model_goRoute_41 : decode prog_14_method_74_code 41 = .ok (.istore 4, 2) := by decide +kernel
theorem d_Model_goRoute_43 : decode prog_14_method_74_code 43 = .ok (.iload 4, 2) := by decide +kernel
theorem d_Model_goRoute_45 : decode prog_14_method_74_code 45 = .ok (.aload_n 0, 1) := by decide +kernel
theorem d_Model_goRoute_46 : decode prog_14_method_74_code 46 = .ok (.getfield 35, 3) := by decide +kernel
theorem d_Model_goRoute_49 : decode prog_14_method_74_code 49 = .ok (.iload_n 2, 1) := by decide +kernel
theorem d_Model_goRoute_50 : decode prog_14_method_74_code 50 = .ok (.iaload, 1) := by decide +kernel
theorem d_Model_goRoute_51 : decode prog_14_method_74_code 51 = .ok (.if_icmp .ge 39, 3) := by decide +kernel
theorem d_Model_goRoute_54 : decode prog_14_method_74_code 54 = .ok (.iload_n 3, 1) := by decide +kernel
theorem d_Model_goRoute_55 : decode prog_14_method_74_code 55 = .ok (.ifCond .eq 13, 3) := by decide +kernel
theorem d_Model_goRoute_58 : decode prog_14_method_74_code 58 = .ok (.aload_n 0, 1) := by decide +kernel
theorem d_Model_goRoute_59 : decode prog_14_method_74_code 59 = .ok (.iload_n 2, 1) := by decide +kernel
theorem d_Model_goRoute_60 : decode prog_14_method_74_code 60 = .ok (.iload 4, 2) := by decide +kernel
theorem d_Model_goRoute_62 : decode prog_14_method_74_code 62 = .ok (.invokevirtual 263, 3) := by decide +kernel
theorem d_Model_goRoute_65 : decode prog_14_method_74_code 65 = .ok (.goto 19, 3) := by decide +kernel
theorem d_Model_goRoute_68 : decode prog_14_method_74_code 68 = .ok (.aload_n 0, 1) := by decide +kernel
theorem d_Model_goRoute_69 : decode prog_14_method_74_code 69 = .ok (.iload_n 2, 1) := by decide +kernel
theorem d_Model_goRoute_70 : decode prog_14_method_74_code 70 = .ok (.aload_n 0, 1) := by decide +kernel
theorem d_Model_goRoute_71 : decode prog_14_method_74_code 71 = .ok (.getfield 35, 3) := by decide +kernel
theorem d_Model_goRoute_74 : decode prog_14_method_74_code 74 = .ok (.iload_n 2, 1) := by decide +kernel
theorem d_Model_goRoute_75 : decode prog_14_method_74_code 75 = .ok (.iaload, 1) := by decide +kernel
theorem d_Model_goRoute_76 : decode prog_14_method_74_code 76 = .ok (.iconst 1, 1) := by decide +kernel
theorem d_Model_goRoute_77 : decode prog_14_method_74_code 77 = .ok (.isub, 1) := by decide +kernel
theorem d_Model_goRoute_78 : decode prog_14_method_74_code 78 = .ok (.iload 4, 2) := by decide +kernel
theorem d_Model_goRoute_80 : decode prog_14_method_74_code 80 = .ok (.isub, 1) := by decide +kernel
theorem d_Model_goRoute_81 : decode prog_14_method_74_code 81 = .ok (.invokevirtual 305, 3) := by decide +kernel
theorem d_Model_goRoute_84 : decode prog_14_method_74_code 84 = .ok (.iinc 4 1, 3) := by decide +kernel
theorem d_Model_goRoute_87 : decode prog_14_method_74_code 87 = .ok (.goto (-44), 3) := by decide +kernel
theorem d_Model_goRoute_90 : decode prog_14_method_74_code 90 = .ok (.iinc 1 1, 3) := by decide +kernel
theorem d_Model_goRoute_93 : decode prog_14_method_74_code 93 = .ok (.goto (-91), 3) := by decide +kernel
theorem d_Model_goRoute_96 : decode prog_14_method_74_code 96 = .ok (.return_, 1) := by decide +kernel
abbrev M_Model_translate : q_M := (⟨"LensPathsModel", "translate", "(II)I"⟩, prog_14_method_75_code, 5, (some .int), "LensPathsModel", [], false, 6, 160)
theorem d_Model_translate_0 : decode prog_14_method_75_code 0 = .ok (.aload_n 0, 1) := by decide +kernel
theorem d_Model_translate_1 : decode prog_14_method_75_code 1 = .ok (.aload_n 0, 1) := by decide +kernel
theorem d_Model_translate_2 : decode prog_14_method_75_code 2 = .ok (.iload_n 1, 1) := by decide +kernel
theorem d_Model_translate_3 : decode prog_14_method_75_code 3 = .ok (.invokevirtual 284, 3) := by decide +kernel
theorem d_Model_translate_6 : decode prog_14_method_75_code 6 = .ok (.ifCond .eq 11, 3) := by decide +kernel
theorem d_Model_translate_9 : decode prog_14_method_75_code 9 = .ok (.aload_n 0, 1) := by decide +kernel
theorem d_Model_translate_10 : decode prog_14_method_75_code 10 = .ok (.iload_n 2, 1) := by decide +kernel
theorem d_Model_translate_11 : decode prog_14_method_75_code 11 = .ok (.invokevirtual 254, 3) := by decide +kernel
theorem d_Model_translate_14 : decode prog_14_method_75_code 14 = .ok (.ifCond .ne 7, 3) := by decide +kernel
theorem d_Model_translate_17 : decode prog_14_method_75_code 17 = .ok (.iconst 1, 1) := by decide +kernel
theorem d_Model_translate_18 : decode prog_14_method_75_code 18 = .ok (.goto 23, 3) := by decide +kernel
theorem d_Model_translate_21 : decode prog_14_method_75_code 21 = .ok (.aload_n 0, 1) := by decide +kernel
theorem d_Model_translate_22 : decode prog_14_method_75_code 22 = .ok (.aload_n 0, 1) := by decide +kernel
theorem d_Model_translate_23 : decode prog_14_method_75_code 23 = .ok (.getfield 41, 3) := by decide +kernel
theorem d_Model_translate_26 : decode prog_14_method_75_code 26 = .ok (.iload_n 1, 1) := by decide +kernel
theorem d_Model_translate_27 : decode prog_14_method_75_code 27 = .ok (.iaload, 1) := by decide +kernel
theorem d_Model_translate_28 : decode prog_14_method_75_code 28 = .ok (.iload_n 2, 1) := by decide +kernel
theorem d_Model_translate_29 : decode prog_14_method_75_code 29 = .ok (.iconst (-1), 1) := by decide +kernel
theorem d_Model_translate_30 : decode prog_14_method_75_code 30 = .ok (.invokevirtual 308, 3) := by decide +kernel
theorem d_Model_translate_33 : decode prog_14_method_75_code 33 = .ok (.ifCond .ne 7, 3) := by decide +kernel
theorem d_Model_translate_36 : decode prog_14_method_75_code 36 = .ok (.iconst 2, 1) := by decide +kernel
theorem d_Model_translate_37 : decode prog_14_method_75_code 37 = .ok (.goto 4, 3) := by decide +kernel
theorem d_Model_translate_40 : decode prog_14_method_75_code 40 = .ok (.iconst 0, 1) := by decide +kernel
theorem d_Model_translate_41 : decode prog_14_method_75_code 41 = .ok (.putfield 101, 3) := by decide +kernel
theorem d_Model_translate_44 : decode prog_14_method_75_code 44 = .ok (.aload_n 0, 1) := by decide +kernel
theorem d_Model_translate_45 : decode prog_14_method_75_code 45 = .ok (.getfield 101, 3) := by decide +kernel
theorem d_Model_translate_48 : decode prog_14_method_75_code 48 = .ok (.ifCond .le 5, 3) := by decide +kernel
theorem d_Model_translate_51 : decode prog_14_method_75_code 51 = .ok (.iconst 0, 1) := by decide +kernel
theorem d_Model_translate_52 : decode prog_14_method_75_code 52 = .ok (.ireturn, 1) := by decide +kernel
theorem d_Model_translate_53 : decode prog_14_method_75_code 53 = .ok (.sipush 128, 3) := by decide +kernel
theorem d_Model_translate_56 : decode prog_14_method_75_code 56 = .ok (.istore_n 3, 1) := by decide +kernel
theorem d_Model_translate_57 : decode prog_14_method_75_code 57 = .ok (.aload_n 0, 1) := by decide +kernel
theorem d_Model_translate_58 : decode prog_14_method_75_code 58 = .ok (.iconst 1, 1) := by decide +kernel
theorem d_Model_translate_59 : decode prog_14_method_75_code 59 = .ok (.putfield 118, 3) := by decide +kernel
theorem d_Model_translate_62 : decode prog_14_method_75_code 62 = .ok (.aload_n 0, 1) := by decide +kernel
theorem d_Model_translate_63 : decode prog_14_method_75_code 63 = .ok (.iconst 0, 1) := by decide +kernel
theorem d_Model_translate_64 : decode prog_14_method_75_code 64 = .ok (.putfield 214, 3) := by decide +kernel
theorem d_Model_translate_67 : decode prog_14_method_75_code 67 = .ok (.aload_n 0, 1) := by decide +kernel
theorem d_Model_translate_68 : decode prog_14_method_75_code 68 = .ok (.aload_n 0, 1) := by decide +kernel
theorem d_Model_translate_69 : decode prog_14_method_75_code 69 = .ok (.getfield 41, 3) := by decide +kernel
theorem d_Model_translate_72 : decode prog_14_method_75_code 72 = .ok (.iload_n 1, 1) := by decide +kernel
theorem d_Model_translate_73 : decode prog_14_method_75_code 73 = .ok (.iaload, 1) := by decide +kernel
theorem d_Model_translate_74 : decode prog_14_method_75_code 74 = .ok (.invokevirtual 237, 3) := by decide +kernel
theorem d_Model_translate_77 : decode prog_14_method_75_code 77 = .ok (.iconst 0, 1) := by decide +kernel
theorem d_Model_translate_78 : decode prog_14_method_75_code 78 = .ok (.istore 4, 2) := by decide +kernel
theorem d_Model_translate_80 : decode prog_14_method_75_code 80 = .ok (.iload 4, 2) := by decide +kernel
theorem d_Model_translate_82 : decode prog_14_method_75_code 82 = .ok (.aload_n 0, 1) := by decide +kernel
theorem d_Model_translate_83 : decode prog_14_method_75_code 83 = .ok (.getfield 108, 3) := by decide +kernel
theorem d_Model_translate_86 : decode prog_14_method_75_code 86 = .ok (.if_icmp .ge 32, 3) := by decide +kernel
theorem d_Model_translate_89 : decode prog_14_method_75_code 89 = .ok (.aload_n 0, 1) := by decide +kernel
theorem d_Model_translate_90 : decode prog_14_method_75_code 90 = .ok (.getfield 44, 3) := by decide +kernel
theorem d_Model_translate_93 : decode prog_14_method_75_code 93 = .ok (.aload_n 0, 1) := by decide +kernel
theorem d_Model_translate_94 : decode prog_14_method_75_code 94 = .ok (.iload_n 1, 1) := by decide +kernel
theorem d_Model_translate_95 : decode prog_14_method_75_code 95 = .ok (.iload 4, 2) := by decide +kernel
theorem d_Model_translate_97 : decode prog_14_method_75_code 97 = .ok (.invokevirtual 293, 3) := by decide +kernel
theorem d_Model_translate_100 : decode prog_14_method_75_code 100 = .ok (.aload_n 0, 1) := by decide +kernel
theorem d_Model_translate_101 : decode prog_14_method_75_code 101 = .ok (.getfield 65, 3) := by decide +kernel
theorem d_Model_translate_104 : decode prog_14_method_75_code 104 = .ok (.bipush 7, 2) := by decide +kernel
theorem d_Model_translate_106 : decode prog_14_method_75_code 106 = .ok (.iload 4, 2) := by decide +kernel
theorem d_Model_translate_108 : decode prog_14_method_75_code 108 = .ok (.imul, 1) := by decide +kernel
theorem d_Model_translate_109 : decode prog_14_method_75_code 109 = .ok (.invokestatic 128, 3) := by decide +kernel
theorem d_Model_translate_112 : decode prog_14_method_75_code 112 = .ok (.iinc 4 1, 3) := by decide +kernel
theorem d_Model_translate_115 : decode prog_14_method_75_code 115 = .ok (.goto (-35), 3) := by decide +kernel
theorem d_Model_translate_118 : decode prog_14_method_75_code 118 = .ok (.iconst 0, 1) := by decide +kernel
theorem d_Model_translate_119 : decode prog_14_method_75_code 119 = .ok (.istore 4, 2) := by decide +kernel
theorem d_Model_translate_121 : decode prog_14_method_75_code 121 = .ok (.iload 4, 2) := by decide +kernel
theorem d_Model_translate_123 : decode prog_14_method_75_code 123 = .ok (.iload_n 3, 1) := by decide +kernel
theorem d_Model_translate_124 : decode prog_14_method_75_code 124 = .ok (.if_icmp .ge 27, 3) := by decide +kernel
theorem d_Model_translate_127 : decode prog_14_method_75_code 127 = .ok (.aload_n 0, 1) := by decide +kernel
theorem d_Model_translate_128 : decode prog_14_method_75_code 128 = .ok (.getfield 71, 3) := by decide +kernel
theorem d_Model_translate_131 : decode prog_14_method_75_code 131 = .ok (.iload 4, 2) := by decide +kernel
theorem d_Model_translate_133 : decode prog_14_method_75_code 133 = .ok (.aload_n 0, 1) := by decide +kernel
theorem d_Model_translate_134 : decode prog_14_method_75_code 134 = .ok (.getfield 47, 3) := by decide +kernel
theorem d_Model_translate_137 : decode prog_14_method_75_code 137 = .ok (.iload_n 3, 1) := by decide +kernel
theorem d_Model_translate_138 : decode prog_14_method_75_code 138 = .ok (.iload_n 1, 1) := by decide +kernel
theorem d_Model_translate_139 : decode prog_14_method_75_code 139 = .ok (.imul, 1) := by decide +kernel
theorem d_Model_translate_140 : decode prog_14_method_75_code 140 = .ok (.iload 4, 2) := by decide +kernel
theorem d_Model_translate_142 : decode prog_14_method_75_code 142 = .ok (.iadd, 1) := by decide +kernel
theorem d_Model_translate_143 : decode prog_14_method_75_code 143 = .ok (.iaload, 1) := by decide +kernel
theorem d_Model_translate_144 : decode prog_14_method_75_code 144 = .ok (.iastore, 1) := by decide +kernel
theorem d_Model_translate_145 : decode prog_14_method_75_code 145 = .ok (.iinc 4 1, 3) := by decide +kernel
theorem d_Model_translate_148 : decode prog_14_method_75_code 148 = .ok (.goto (-27), 3) := by decide +kernel
theorem d_Model_translate_151 : decode prog_14_method_75_code 151 = .ok (.iconst 0, 1) := by decide +kernel
theorem d_Model_translate_152 : decode prog_14_method_75_code 152 = .ok (.istore 4, 2) := by decide +kernel
theorem d_Model_translate_154 : decode prog_14_method_75_code 154 = .ok (.iload 4, 2) := by decide +kernel
theorem d_Model_translate_156 : decode prog_14_method_75_code 156 = .ok (.bipush 14, 2) := by decide +kernel
theorem d_Model_translate_158 : decode prog_14_method_75_code 158 = .ok (.iload_n 3, 1) := by decide +kernel
theorem d_Model_translate_159 : decode prog_14_method_75_code 159 = .ok (.imul, 1) := by decide +kernel
theorem d_Model_translate_160 : decode prog_14_method_75_code 160 = .ok (.if_icmp .ge 30, 3) := by decide +kernel
theorem d_Model_translate_163 : decode prog_14_method_75_code 163 = .ok (.aload_n 0, 1) := by decide +kernel
theorem d_Model_translate_164 : decode prog_14_method_75_code 164 = .ok (.getfield 74, 3) := by decide +kernel
theorem d_Model_translate_167 : decode prog_14_method_75_code 167 = .ok (.iload 4, 2) := by decide +kernel
theorem d_Model_translate_169 : decode prog_14_method_75_code 169 = .ok (.aload_n 0, 1) := by decide +kernel
theorem d_Model_translate_170 : decode prog_14_method_75_code 170 = .ok (.getfield 50, 3) := by decide +kernel
theorem d_Model_translate_173 : decode prog_14_method_75_code 173 = .ok (.bipush 14, 2) := by decide +kernel
theorem d_Model_translate_175 : decode prog_14_method_75_code 175 = .ok (.iload_n 3, 1) := by decide +kernel
theorem d_Model_translate_176 : decode prog_14_method_75_code 176 = .ok (.imul, 1) := by decide +kernel
theorem d_Model_translate_177 : decode prog_14_method_75_code 177 = .ok (.iload_n 1, 1) := by decide +kernel
theorem d_Model_translate_178 : decode prog_14_method_75_code 178 = .ok (.imul, 1) := by decide +kernel
theorem d_Model_translate_179 : decode prog_14_method_75_code 179 = .ok (.iload 4, 2) := by decide +kernel
theorem d_Model_translate_181 : decode prog_14_method_75_code 181 = .ok (.iadd, 1) := by decide +kernel
theorem d_Model_translate_182 : decode prog_14_method_75_code 182 = .ok (.iaload, 1) := by decide +kernel
theorem d_Model_translate_183 : decode prog_14_method_75_code 183 = .ok (.iastore, 1) := by decide +kernel
theorem d_Model_translate_184 : decode prog_14_method_75_code 184 = .ok (.iinc 4 1, 3) := by decide +kernel
theorem d_Model_translate_187 : decode prog_14_method_75_code 187 = .ok (.goto (-33), 3) := by decide +kernel
theorem d_Model_translate_190 : decode prog_14_method_75_code 190 = .ok (.aload_n 0, 1) := by decide +kernel
theorem d_Model_translate_191 : decode prog_14_method_75_code 191 = .ok (.invokevirtual 311, 3) := by decide +kernel
theorem d_Model_translate_194 : decode prog_14_method_75_code 194 = .ok (.aload_n 0, 1) := by decide +kernel
theorem d_Model_translate_195 : decode prog_14_method_75_code 195 = .ok (.aload_n 0, 1) := by decide +kernel
theorem d_Model_translate_196 : decode prog_14_method_75_code 196 = .ok (.getfield 214, 3) := by decide +kernel
theorem d_Model_translate_199 : decode prog_14_method_75_code 199 = .ok (.ifCond .eq 7, 3) := by decide +kernel
theorem d_Model_translate_202 : decode prog_14_method_75_code 202 = .ok (.iconst 3, 1) := by decide +kernel
theorem d_Model_translate_203 : decode prog_14_method_75_code 203 = .ok (.goto 4, 3) := by decide +kernel
theorem d_Model_translate_206 : decode prog_14_method_75_code 206 = .ok (.iconst 0, 1) := by decide +kernel
theorem d_Model_translate_207 : decode prog_14_method_75_code 207 = .ok (.putfield 101, 3) := by decide +kernel
theorem d_Model_translate_210 : decode prog_14_method_75_code 210 = .ok (.aload_n 0, 1) := by decide +kernel
theorem d_Model_translate_211 : decode prog_14_method_75_code 211 = .ok (.getfield 101, 3) := by decide +kernel
theorem d_Model_translate_214 : decode prog_14_method_75_code 214 = .ok (.ifCond .le 5, 3) := by decide +kernel
theorem d_Model_translate_217 : decode prog_14_method_75_code 217 = .ok (.iconst 0, 1) := by decide +kernel
theorem d_Model_translate_218 : decode prog_14_method_75_code 218 = .ok (.ireturn, 1) := by decide +kernel
theorem d_Model_translate_219 : decode prog_14_method_75_code 219 = .ok (.aload_n 0, 1) := by decide +kernel
theorem d_Model_translate_220 : decode prog_14_method_75_code 220 = .ok (.getfield 41, 3) := by decide +kernel
theorem d_Model_translate_223 : decode prog_14_method_75_code 223 = .ok (.iload_n 1, 1) := by decide +kernel
theorem d_Model_translate_224 : decode prog_14_method_75_code 224 = .ok (.iload_n 2, 1) := by decide +kernel
theorem d_Model_translate_225 : decode prog_14_method_75_code 225 = .ok (.iastore, 1) := by decide +kernel
theorem d_Model_translate_226 : decode prog_14_method_75_code 226 = .ok (.iconst 0, 1) := by decide +kernel
theorem d_Model_translate_227 : decode prog_14_method_75_code 227 = .ok (.istore 4, 2) := by decide +kernel
theorem d_Model_translate_229 : decode prog_14_method_75_code 229 = .ok (.iload 4, 2) := by decide +kernel
theorem d_Model_translate_231 : decode prog_14_method_75_code 231 = .ok (.aload_n 0, 1) := by decide +kernel
theorem d_Model_translate_232 : decode prog_14_method_75_code 232 = .ok (.getfield 13, 3) := by decide +kernel
theorem d_Model_translate_235 : decode prog_14_method_75_code 235 = .ok (.iload_n 2, 1) := by decide +kernel
theorem d_Model_translate_236 : decode prog_14_method_75_code 236 = .ok (.iaload, 1) := by decide +kernel
theorem d_Model_translate_237 : decode prog_14_method_75_code 237 = .ok (.if_icmp .ge 46, 3) := by decide +kernel
theorem d_Model_translate_240 : decode prog_14_method_75_code 240 = .ok (.aload_n 0, 1) := by decide +kernel
theorem d_Model_translate_241 : decode prog_14_method_75_code 241 = .ok (.getfield 65, 3) := by decide +kernel
theorem d_Model_translate_244 : decode prog_14_method_75_code 244 = .ok (.bipush 7, 2) := by decide +kernel
theorem d_Model_translate_246 : decode prog_14_method_75_code 246 = .ok (.aload_n 0, 1) := by decide +kernel
theorem d_Model_translate_247 : decode prog_14_method_75_code 247 = .ok (.aload_n 0, 1) := by decide +kernel
theorem d_Model_translate_248 : decode prog_14_method_75_code 248 = .ok (.getfield 17, 3) := by decide +kernel
theorem d_Model_translate_251 : decode prog_14_method_75_code 251 = .ok (.bipush 24, 2) := by decide +kernel
theorem d_Model_translate_253 : decode prog_14_method_75_code 253 = .ok (.iload_n 2, 1) := by decide +kernel
theorem d_Model_translate_254 : decode prog_14_method_75_code 254 = .ok (.imul, 1) := by decide +kernel
theorem d_Model_translate_255 : decode prog_14_method_75_code 255 = .ok (.iload 4, 2) := by decide +kernel
theorem d_Model_translate_257 : decode prog_14_method_75_code 257 = .ok (.iadd, 1) := by decide +kernel
theorem d_Model_translate_258 : decode prog_14_method_75_code 258 = .ok (.iaload, 1) := by decide +kernel
theorem d_Model_translate_259 : decode prog_14_method_75_code 259 = .ok (.invokevirtual 111, 3) := by decide +kernel
theorem d_Model_translate_262 : decode prog_14_method_75_code 262 = .ok (.imul, 1) := by decide +kernel
theorem d_Model_translate_263 : decode prog_14_method_75_code 263 = .ok (.aload_n 0, 1) := by decide +kernel
theorem d_Model_translate_264 : decode prog_14_method_75_code 264 = .ok (.getfield 44, 3) := by decide +kernel
theorem d_Model_translate_267 : decode prog_14_method_75_code 267 = .ok (.aload_n 0, 1) := by decide +kernel
theorem d_Model_translate_268 : decode prog_14_method_75_code 268 = .ok (.iload_n 1, 1) := by decide +kernel
theorem d_Model_translate_269 : decode prog_14_method_75_code 269 = .ok (.iload 4, 2) := by decide +kernel
theorem d_Model_translate_271 : decode prog_14_method_75_code 271 = .ok (.invokevirtual 293, 3) := by decide +kernel
theorem d_Model_translate_274 : decode prog_14_method_75_code 274 = .ok (.invokestatic 128, 3) := by decide +kernel
theorem d_Model_translate_277 : decode prog_14_method_75_code 277 = .ok (.iinc 4 1, 3) := by decide +kernel
theorem d_Model_translate_280 : decode prog_14_method_75_code 280 = .ok (.goto (-51), 3) := by decide +kernel
theorem d_Model_translate_283 : decode prog_14_method_75_code 283 = .ok (.iconst 0, 1) := by decide +kernel
theorem d_Model_translate_284 : decode prog_14_method_75_code 284 = .ok (.istore 4, 2) := by decide +kernel
theorem d_Model_translate_286 : decode prog_14_method_75_code 286 = .ok (.iload 4, 2) := by decide +kernel
theorem d_Model_translate_288 : decode prog_14_method_75_code 288 = .ok (.iload_n 3, 1) := by decide +kernel
theorem d_Model_translate_289 : decode prog_14_method_75_code 289 = .ok (.if_icmp .ge 27, 3) := by decide +kernel
theorem d_Model_translate_292 : decode prog_14_method_75_code 292 = .ok (.aload_n 0, 1) := by decide +kernel
theorem d_Model_translate_293 : decode prog_14_method_75_code 293 = .ok (.getfield 47, 3) := by decide +kernel
theorem d_Model_translate_296 : decode prog_14_method_75_code 296 = .ok (.iload_n 3, 1) := by decide +kernel
theorem d_Model_translate_297 : decode prog_14_method_75_code 297 = .ok (.iload_n 1, 1) := by decide +kernel
theorem d_Model_translate_298 : decode prog_14_method_75_code 298 = .ok (.imul, 1) := by decide +kernel
theorem d_Model_translate_299 : decode prog_14_method_75_code 299 = .ok (.iload 4, 2) := by decide +kernel
theorem d_Model_translate_301 : decode prog_14_method_75_code 301 = .ok (.iadd, 1) := by decide +kernel
theorem d_Model_translate_302 : decode prog_14_method_75_code 302 = .ok (.aload_n 0, 1) := by decide +kernel
theorem d_Model_translate_303 : decode prog_14_method_75_code 303 = .ok (.getfield 71, 3) := by decide +kernel
theorem d_Model_translate_306 : decode prog_14_method_75_code 306 = .ok (.iload 4, 2) := by decide +kernel
theorem d_Model_translate_308 : decode prog_14_method_75_code 308 = .ok (.iaload, 1) := by decide +kernel
theorem d_Model_translate_309 : decode prog_14_method_75_code 309 = .ok (.iastore, 1) := by decide +kernel
theorem d_Model_translate_310 : decode prog_14_method_75_code 310 = .ok (.iinc 4 1, 3) := by decide +kernel
theorem d_Model_translate_313 : decode prog_14_method_75_code 313 = .ok (.goto (-27), 3) := by decide +kernel
theorem d_Model_translate_316 : decode prog_14_method_75_code 316 = .ok (.iconst 0, 1) := by decide +kernel
theorem d_Model_translate_317 : decode prog_14_method_75_code 317 = .ok (.istore 4, 2) := by decide +kernel
theorem d_Model_translate_319 : decode prog_14_method_75_code 319 = .ok (.iload 4, 2) := by decide +kernel
theorem d_Model_translate_321 : decode prog_14_method_75_code 321 = .ok (.bipush 14, 2) := by decide +kernel
theorem d_Model_translate_323 : decode prog_14_method_75_code 323 = .ok (.iload_n 3, 1) := by decide +kernel
theorem d_Model_translate_324 : decode prog_14_method_75_code 324 = .ok (.imul, 1) := by decide +kernel
theorem d_Model_translate_325 : decode prog_14_method_75_code 325 = .ok (.if_icmp .ge 30, 3) := by decide +kernel
theorem d_Model_translate_328 : decode prog_14_method_75_code 328 = .ok (.aload_n 0, 1) := by decide +kernel
theorem d_Model_translate_329 : decode prog_14_method_75_code 329 = .ok (.getfield 50, 3) := by decide +kernel
theorem d_Model_translate_332 : decode prog_14_method_75_code 332 = .ok (.bipush 14, 2) := by decide +kernel
theorem d_Model_translate_334 : decode prog_14_method_75_code 334 = .ok (.iload_n 3, 1) := by decide +kernel
theorem d_Model_translate_335 : decode prog_14_method_75_code 335 = .ok (.imul, 1) := by decide +kernel
theorem d_Model_translate_336 : decode prog_14_method_75_code 336 = .ok (.iload_n 1, 1) := by decide +kernel
theorem d_Model_translate_337 : decode prog_14_method_75_code 337 = .ok (.imul, 1) := by decide +kernel
theorem d_Model_translate_338 : decode prog_14_method_75_code 338 = .ok (.iload 4, 2) := by decide +kernel
theorem d_Model_translate_340 : decode prog_14_method_75_code 340 = .ok (.iadd, 1) := by decide +kernel
theorem d_Model_translate_341 : decode prog_14_method_75_code 341 = .ok (.aload_n 0, 1) := by decide +kernel
theorem d_Model_translate_342 : decode prog_14_method_75_code 342 = .ok (.getfield 74, 3) := by decide +kernel
theorem d_Model_translate_345 : decode prog_14_method_75_code 345 = .ok (.iload 4, 2) := by decide +kernel
theorem d_Model_translate_347 : decode prog_14_method_75_code 347 = .ok (.iaload, 1) := by decide +kernel
theorem d_Model_translate_348 : decode prog_14_method_75_code 348 = .ok (.iastore, 1) := by decide +kernel
theorem d_Model_translate_349 : decode prog_14_method_75_code 349 = .ok (.iinc 4 1, 3) := by decide +kernel
theorem d_Model_translate_352 : decode prog_14_method_75_code 352 = .ok (.goto (-33), 3) := by decide +kernel
theorem d_Model_translate_355 : decode prog_14_method_75_code 355 = .ok (.aload_n 0, 1) := by decide +kernel
theorem d_Model_translate_356 : decode prog_14_method_75_code 356 = .ok (.getfield 299, 3) := by decide +kernel
theorem d_Model_translate_359 : decode prog_14_method_75_code 359 = .ok (.iconst 1, 1) := by decide +kernel
theorem d_Model_translate_360 : decode prog_14_method_75_code 360 = .ok (.isub, 1) := by decide +kernel
theorem d_Model_translate_361 : decode prog_14_method_75_code 361 = .ok (.ireturn, 1) := by decide +kernel
section MVal
variable {g : q_G} {sz m : Nat} {T : q_T} {I : q_I} {R : q_R} {J : q_J} {M : List KF} {X : KV}
def m_rv (m : Nat) (M : List KF) (V : Nat → List Int32) (I : q_I) : Prop := ∀ (i : Nat) (f : KF), M[i]? = some f → k_rw (I (m + 18)) (7 * i) (V f.2.2.2.2)
def m_k1 (m k : Nat) (K : KK) (I : q_I) : Prop := I (m + 20) (nI k) = nI K.1 ∧ (K.1 ≠ 0 → k_rw (I (m + 21)) (14 * k) K.2.1) ∧ (2 ≤ K.1 → k_rw (I (m + 21)) (14 * k + 7) K.2.2)
def m_kw (m : Nat) (K : Nat → KK) (I : q_I) : Prop := ∀ k, k < 128 → m_k1 m k (K k) I
/-- the reference's work, in mode 1 -/
def m_x (m : Nat) (M : List KF) (X : KV) (I : q_I) : Prop := k_mw m M I ∧ m_rv m M X.1 I ∧ m_kw m X.2.1 I ∧ I m (nI 27) = nI 1 ∧ I m (nI 28) = p_b X.2.2
/-- what stays -/
def m_xf (m : Nat) (I I' : q_I) : Prop := (∀ b, b ≠ m → b < m + 14 ∨ (m + 22 ≤ b ∧ b < m + 28) ∨ m + 30 ≤ b → I' b = I b) ∧ ∀ i, i ≠ nI 18 → i ≠ nI 28 → I' m i = I m i
theorem m_xf.refl : m_xf m I I := ⟨fun _ _ _ => rfl, fun _ _ _ => rfl⟩
theorem m_xf.trans {I1 I2 : q_I} (h : m_xf m I I1) (h2 : m_xf m I1 I2) : m_xf m I I2 := ⟨fun b a1 a2 => (h2.1 b a1 a2).trans (h.1 b a1 a2), fun i a1 a2 => (h2.2 i a1 a2).trans (h.2 i a1 a2)⟩
theorem m_wk.xf {I' : q_I} (h : m_wk m I I') : m_xf m I I' := ⟨fun b a1 a2 => h.1 b a1 (by omega), fun i a1 _ => h.2 i a1⟩
/-- arrays of work alone -/
theorem m_xf.arr {I' : q_I} (h : ∀ b, b < m + 14 ∨ (m + 22 ≤ b ∧ b < m + 28) ∨ m + 30 ≤ b → I' b = I b) : m_xf m I I' := ⟨fun b _ hb => h b hb, fun i _ _ => by rw [h m (by omega)]⟩
theorem k_mw.cong {I' : q_I} (h : k_mw m M I) (h0 : I' m (nI 18) = I m (nI 18)) (hI : ∀ j, 14 ≤ j → j ≤ 17 → I' (m + j) = I (m + j)) : k_mw m M I' := by
  unfold k_mw
  rw [h0, hI 14 (by omega) (by omega), hI 15 (by omega) (by omega), hI 16 (by omega) (by omega), hI 17 (by omega) (by omega)]
  exact h
theorem m_rv.cong {V : Nat → List Int32} {I' : q_I} (h : m_rv m M V I) (hI : I' (m + 18) = I (m + 18)) : m_rv m M V I' := by
  unfold m_rv; rw [hI]; exact h
theorem m_kw.cong {K : Nat → KK} {I' : q_I} (h : m_kw m K I) (h0 : I' (m + 20) = I (m + 20)) (h1 : I' (m + 21) = I (m + 21)) : m_kw m K I' := by
  unfold m_kw m_k1; rw [h0, h1]; exact h
theorem m_rv.put {V : Nat → List Int32} {k : Nat} {f : KF} {v : List Int32} {I' : q_I} (h : m_rv m M V I) (hn : k_nds M) (h26 : M.length ≤ 26) (hf : M[k]? = some f) (ho : ∀ j, j < 2 ^ 31 → j < 7 * k ∨ 7 * k + 7 ≤ j → I' (m + 18) (nI j) = I (m + 18) (nI j)) (hv : k_rw (I' (m + 18)) (7 * k) v) : m_rv m M (k_ud V f.2.2.2.2 v) I' := by
  intro i e he
  have hi := (List.getElem?_eq_some_iff.mp he).1
  by_cases hik : i = k
  · subst hik
    rw [← Option.some.inj (hf.symm.trans he), k_ud_self]
    exact hv
  · have hs : e.2.2.2.2 ≠ f.2.2.2.2 := fun z => by
      have e1 : (M.map (·.2.2.2.2))[i]? = some e.2.2.2.2 := by rw [List.getElem?_map, he]; rfl
      have e2 : (M.map (·.2.2.2.2))[k]? = some f.2.2.2.2 := by rw [List.getElem?_map, hf]; rfl
      rw [z] at e1
      exact hik ((k_idx hn e1).symm.trans (k_idx hn e2))
    rw [k_ud_ne hs]
    exact (h i e he).cong fun j j1 j2 => ho j (by omega) (by omega)
theorem m_kw.put {K : Nat → KK} {s : Nat} {Ks : KK} {I' : q_I} (h : m_kw m K I) (h20 : ∀ j, j < 128 → j ≠ s → I' (m + 20) (nI j) = I (m + 20) (nI j)) (h21 : ∀ j, j < 2 ^ 31 → j < 14 * s ∨ 14 * s + 14 ≤ j → I' (m + 21) (nI j) = I (m + 21) (nI j)) (hk : m_k1 m s Ks I') : m_kw m (k_ud K s Ks) I' := by
  intro j hj
  by_cases hjs : j = s
  · subst hjs
    rw [k_ud_self]; exact hk
  · rw [k_ud_ne hjs]
    obtain ⟨a1, a2, a3⟩ := h j hj
    exact ⟨by rw [h20 j hj hjs]; exact a1, fun z => (a2 z).cong fun i i1 i2 => h21 i (by omega) (by omega), fun z => (a3 z).cong fun i i1 i2 => h21 i (by omega) (by omega)⟩
theorem m_kw.zero {K : Nat → KK} {s : Nat} {I' : q_I} (h : m_kw m K I) (h20 : ∀ j, j < 128 → j ≠ s → I' (m + 20) (nI j) = I (m + 20) (nI j)) (h0 : I' (m + 20) (nI s) = nI 0) (h21 : I' (m + 21) = I (m + 21)) : m_kw m (k_ud K s k_n0) I' := h.put h20 (fun j _ _ => by rw [h21]) ⟨h0, fun z => absurd rfl z, fun z => absurd (show 2 ≤ 0 from z) (by omega)⟩
theorem c_Model_keepOne {k s : Nat} {f : KF} (hL : q_L 11 t_Model m T R) (h : m_x m M X I) (hf : M[k]? = some f) (hs : s < 128) : q_Cv g M_Model_keepOne [.ref m, .int (nI s), .int (nI k)] (sz, T, I, R, J) 0 0 (fun h' => ∃ I' : q_I, h' = (sz, T, I', R, J) ∧ (∀ b, b ≠ m + 20 → b ≠ m + 21 → I' b = I b) ∧ m_x m M (X.1, k_ud X.2.1 s (1, X.1 f.2.2.2.2, []), X.2.2) I') := by
  obtain ⟨x1, x2, x3, x4, x5⟩ := h
  have hkl := (List.getElem?_eq_some_iff.mp hf).1
  have h26 := x1.2.1
  have t18 : T (m + 18) = some (0, 182) := (hL.2 23 _ _ _ rfl).2
  have t21 : T (m + 21) = some (0, 1792) := (hL.2 26 _ _ _ rfl).2
  refine q_C.of (ls0 := [some (.ref m), some (.int (nI s)), some (.int (nI k))]) (by decide) rfl (by decide) (Nat.le_of_ble_eq_true rfl) rfl ?_
  refine q_aload_n d_Model_keepOne_0 rfl rfl ?_
  refine q_getR (ci := 11) (fk := 25) d_Model_keepOne_1 rfl (Nat.le_of_ble_eq_true rfl) w_1129 (fun _ _ => rfl) hL.1 (hL.2 25 _ _ _ rfl).1 ?_
  refine q_iload_n d_Model_keepOne_4 rfl rfl ?_
  refine q_iconst (v := nI 1) d_Model_keepOne_5 (by decide) ?_
  refine q_iast d_Model_keepOne_6 (hL.2 25 _ _ _ rfl).2 (by first | assumption | exact vp_in_nI (by omega) (by omega)) ?_
  obtain ⟨I1, hI1⟩ : ∃ I1, I1 = q_upI I (m + 20) (nI s) (nI 1) := ⟨_, rfl⟩
  rw [← hI1]
  have o1 : ∀ b, b ≠ m + 20 → I1 b = I b := fun b hb => by rw [hI1]; funext i; rw [q_upI_nea hb]
  refine q_aload_n d_Model_keepOne_7 rfl rfl ?_
  refine q_getR (ci := 11) (fk := 23) d_Model_keepOne_8 rfl (Nat.le_of_ble_eq_true rfl) w_1127 (fun _ _ => rfl) hL.1 (hL.2 23 _ _ _ rfl).1 ?_
  refine q_bipush (v := nI 7) d_Model_keepOne_11 (by decide) ?_
  refine q_iload_n d_Model_keepOne_13 rfl rfl ?_
  first | refine q_imulN d_Model_keepOne_14 ?_ | refine q_imul d_Model_keepOne_14 ?_
  refine q_aload_n d_Model_keepOne_15 rfl rfl ?_
  refine q_getR (ci := 11) (fk := 26) d_Model_keepOne_16 rfl (Nat.le_of_ble_eq_true rfl) w_1130 (fun _ _ => rfl) hL.1 (hL.2 26 _ _ _ rfl).1 ?_
  refine q_bipush (v := nI 14) d_Model_keepOne_19 (by decide) ?_
  refine q_iload_n d_Model_keepOne_21 rfl rfl ?_
  first | refine q_imulN d_Model_keepOne_22 ?_ | refine q_imul d_Model_keepOne_22 ?_
  refine q_callSv (M2 := M_Model_copyRow) d_Model_keepOne_23 ⟨(Nat.le_of_ble_eq_true rfl), (Nat.le_of_ble_eq_true rfl), w_1321, w_10, ⟨by decide, by decide⟩, show _ = some 4 by decide +kernel⟩ w_1319 w_1320 rfl (Nat.le_of_ble_eq_true rfl) (by omega) (by omega) (c_Model_copyRow (a := m + 18) (a2 := m + 21) t18 t21 (by omega) (by omega) (by omega) (by omega) (Or.inl (by omega))) ?_
  rintro _ ⟨I2, rfl, cp⟩
  refine q_vret d_Model_keepOne_26 rfl (by omega) (by omega) ?_
  have o2 : ∀ b, b ≠ m + 20 → b ≠ m + 21 → I2 b = I b := fun b b1 b2 => (cp.1 b b2).trans (o1 b b1)
  refine ⟨rfl, I2, rfl, o2, x1.cong (by rw [o2 m (by omega) (by omega)]) (fun j j1 j2 => o2 _ (by omega) (by omega)), x2.cong (o2 _ (by omega) (by omega)), ?_, by rw [o2 m (by omega) (by omega)]; exact x4, by rw [o2 m (by omega) (by omega)]; exact x5⟩
  have hr : k_rw (I1 (m + 18)) (7 * k) (X.1 f.2.2.2.2) := by rw [o1 _ (by omega)]; exact x2 k f hf
  refine x3.put (fun j j1 j2 => ?_) (fun j j1 j2 => ?_) ⟨?_, fun _ => cp.rw hr, fun z => absurd (show 2 ≤ 1 from z) (by omega)⟩
  · rw [cp.1 _ (by omega), hI1, q_upI_nk (by omega)]
  · rw [cp.2.2 j j1 (by omega), o1 _ (by omega)]
  · rw [cp.1 _ (by omega), hI1, q_upI_self]
theorem c_Model_arrive1 {q s : Nat} {p : KP} (hL : q_L 11 t_Model m T R) (h : m_x m M X I) (hlt : M.length < 26) (hn : ∀ f ∈ M, f.2.2.2.2 ≠ p.sl) (hp : k_mp m q p I) (hq : q + 7 < 1088) (hs : s < 128) (hK : (X.2.1 s).1 = 0 ∨ (X.2.1 s).1 = 1) : q_Cv g M_Model_arrive [.ref m, .int (nI q), .int (nI s)] (sz, T, I, R, J) 0 0 (fun h' => ∃ I' : q_I, h' = (sz, T, I', R, J) ∧ m_xf m I I' ∧ m_x m (M ++ [p.f]) (t_arr p s X) I') := by
  obtain ⟨x1, x2, x3, x4, x5⟩ := h
  obtain ⟨p0, p1, p2, p3, p5, p6, p7⟩ := hp
  have t18 : T (m + 18) = some (0, 182) := (hL.2 23 _ _ _ rfl).2
  have t21 : T (m + 21) = some (0, 1792) := (hL.2 26 _ _ _ rfl).2
  refine q_C.of (ls0 := [some (.ref m), some (.int (nI q)), some (.int (nI s)), none]) (by decide) rfl (by decide) (Nat.le_of_ble_eq_true rfl) rfl ?_
  refine q_aload_n d_Model_arrive_0 rfl rfl ?_
  refine q_aload_n d_Model_arrive_1 rfl rfl ?_
  refine q_getR (ci := 11) (fk := 12) d_Model_arrive_2 rfl (Nat.le_of_ble_eq_true rfl) w_1116 (fun _ _ => rfl) hL.1 (hL.2 12 _ _ _ rfl).1 ?_
  refine q_iload_n d_Model_arrive_5 rfl rfl ?_
  refine q_iconst (v := nI 1) d_Model_arrive_6 (by decide) ?_
  first | refine q_iaddN d_Model_arrive_7 ?_ | refine q_iadd d_Model_arrive_7 ?_
  refine q_iald d_Model_arrive_8 (hL.2 12 _ _ _ rfl).2 (by first | assumption | exact vp_in_nI (by omega) (by omega)) ?_
  rw [p1]
  refine q_aload_n d_Model_arrive_9 rfl rfl ?_
  refine q_getR (ci := 11) (fk := 12) d_Model_arrive_10 rfl (Nat.le_of_ble_eq_true rfl) w_1116 (fun _ _ => rfl) hL.1 (hL.2 12 _ _ _ rfl).1 ?_
  refine q_iload_n d_Model_arrive_13 rfl rfl ?_
  refine q_iconst (v := nI 5) d_Model_arrive_14 (by decide) ?_
  first | refine q_iaddN d_Model_arrive_15 ?_ | refine q_iadd d_Model_arrive_15 ?_
  refine q_iald d_Model_arrive_16 (hL.2 12 _ _ _ rfl).2 (by first | assumption | exact vp_in_nI (by omega) (by omega)) ?_
  rw [p5]
  refine q_aload_n d_Model_arrive_17 rfl rfl ?_
  refine q_getR (ci := 11) (fk := 12) d_Model_arrive_18 rfl (Nat.le_of_ble_eq_true rfl) w_1116 (fun _ _ => rfl) hL.1 (hL.2 12 _ _ _ rfl).1 ?_
  refine q_iload_n d_Model_arrive_21 rfl rfl ?_
  refine q_bipush (v := nI 6) d_Model_arrive_22 (by decide) ?_
  first | refine q_iaddN d_Model_arrive_24 ?_ | refine q_iadd d_Model_arrive_24 ?_
  refine q_iald d_Model_arrive_25 (hL.2 12 _ _ _ rfl).2 (by first | assumption | exact vp_in_nI (by omega) (by omega)) ?_
  rw [p6]
  refine q_aload_n d_Model_arrive_26 rfl rfl ?_
  refine q_getR (ci := 11) (fk := 12) d_Model_arrive_27 rfl (Nat.le_of_ble_eq_true rfl) w_1116 (fun _ _ => rfl) hL.1 (hL.2 12 _ _ _ rfl).1 ?_
  refine q_iload_n d_Model_arrive_30 rfl rfl ?_
  refine q_bipush (v := nI 7) d_Model_arrive_31 (by decide) ?_
  first | refine q_iaddN d_Model_arrive_33 ?_ | refine q_iadd d_Model_arrive_33 ?_
  refine q_iald d_Model_arrive_34 (hL.2 12 _ _ _ rfl).2 (by first | assumption | exact vp_in_nI (by omega) (by omega)) ?_
  rw [p7]
  refine q_callVi (M2 := M_Model_come) d_Model_arrive_35 ⟨(Nat.le_of_ble_eq_true rfl), (Nat.le_of_ble_eq_true rfl), w_1237, w_10, ⟨by decide, by decide⟩, show _ = some 4 by decide +kernel⟩ w_1234 w_1236 (ci := 11) rfl s_48 hL.1 rfl (Nat.le_of_ble_eq_true rfl) (by omega) (by omega) (c_Model_come0 hL x1 hlt (by rw [x4]; decide) p.f) ?_
  rintro _ _ ⟨rfl, I1, rfl, k1, k2, k3, k4, k5⟩
  have y3 : m_kw m X.2.1 I1 := x3.cong (k1.1 _ (by omega) (by omega)) (k1.1 _ (by omega) (by omega))
  have y4 : I1 m (nI 27) = nI 1 := by rw [k1.2 _ (fun z => absurd (q_nI_inj z) (by decide))]; exact x4
  have y5 : I1 m (nI 28) = p_b X.2.2 := by rw [k1.2 _ (fun z => absurd (q_nI_inj z) (by decide))]; exact x5
  have rows : ∀ (I2 : q_I) (v : List Int32), (∀ j, j < 7 * M.length → I2 (m + 18) (nI j) = I1 (m + 18) (nI j)) → k_rw (I2 (m + 18)) (7 * M.length) v → m_rv m (M ++ [p.f]) (k_ud X.1 p.sl v) I2 := fun I2 v e1 e2 i f hf => by
    rw [List.getElem?_append] at hf
    by_cases hi : i < M.length
    · rw [if_pos hi] at hf
      rw [k_ud_ne (hn f (List.mem_of_getElem? hf))]
      exact (x2 i f hf).cong fun j j1 j2 => (e1 j (by omega)).trans (k4 j (by omega))
    · rw [if_neg hi] at hf
      have hz : i - M.length = 0 := by
        have := (List.getElem?_eq_some_iff.mp hf).1
        simp only [List.length_singleton] at this
        omega
      rw [hz] at hf
      rw [← Option.some.inj hf, show i = M.length by omega]
      show k_rw _ _ (k_ud X.1 p.sl v p.sl)
      rw [k_ud_self]; exact e2
  refine q_istore_n d_Model_arrive_38 rfl (Nat.le_of_ble_eq_true rfl) (by first | exact q_ok0 | exact q_okI rfl | exact q_okR rfl | exact q_okN rfl) rfl ?_
  refine q_aload_n d_Model_arrive_39 rfl rfl ?_
  refine q_getI (ci := 11) (fk := 27) d_Model_arrive_40 rfl (Nat.le_of_ble_eq_true rfl) w_1131 (fun _ _ => rfl) hL.1 ?_
  rw [y4]
  refine q_iconst (v := nI 1) d_Model_arrive_43 (by decide) ?_
  refine q_icmp_ne (tgt := 83) d_Model_arrive_44 rfl (fun hc => ?_) (fun hc => ?_)
  · exact absurd rfl hc
  refine q_aload_n d_Model_arrive_47 rfl rfl ?_
  refine q_getR (ci := 11) (fk := 25) d_Model_arrive_48 rfl (Nat.le_of_ble_eq_true rfl) w_1129 (fun _ _ => rfl) hL.1 (hL.2 25 _ _ _ rfl).1 ?_
  refine q_iload_n d_Model_arrive_51 rfl rfl ?_
  refine q_iald d_Model_arrive_52 (hL.2 25 _ _ _ rfl).2 (by first | assumption | exact vp_in_nI (by omega) (by omega)) ?_
  rw [(y3 s hs).1]
  have fin : ∀ (I2 : q_I) (v : List Int32) (mcc msc : Nat), mcc = 0 → msc = 0 → (∀ b, b ≠ m + 18 → I2 b = I1 b) → (∀ j, j < 7 * M.length → I2 (m + 18) (nI j) = I1 (m + 18) (nI j)) → k_rw (I2 (m + 18)) (7 * M.length) v → v = (if (X.2.1 s).1 = 0 then k_dfl p.so p.lo p.hi else (X.2.1 s).2.1) → q_V g M_Model_arrive 0 0 mcc msc (sz, T, I2, R, J) (fun o h' => o = .inl none ∧ ∃ I' : q_I, h' = (sz, T, I', R, J) ∧ m_xf m I I' ∧ m_x m (M ++ [p.f]) (t_arr p s X) I') 76 [some (.ref m), some (.int (nI q)), some (.int (nI s)), some (.int (nI M.length))] [] := by
    intro I2 v mcc msc m1 m2 e1 e2 e3 e4
    subst m1 m2
    refine q_aload_n d_Model_arrive_76 rfl rfl ?_
    refine q_getR (ci := 11) (fk := 25) d_Model_arrive_77 rfl (Nat.le_of_ble_eq_true rfl) w_1129 (fun _ _ => rfl) hL.1 (hL.2 25 _ _ _ rfl).1 ?_
    refine q_iload_n d_Model_arrive_80 rfl rfl ?_
    refine q_iconst (v := nI 0) d_Model_arrive_81 (by decide) ?_
    refine q_iast d_Model_arrive_82 (hL.2 25 _ _ _ rfl).2 (by first | assumption | exact vp_in_nI (by omega) (by omega)) ?_
    refine q_vret d_Model_arrive_83 rfl (by omega) (by omega) ?_
    obtain ⟨I3, hI3⟩ : ∃ I3, I3 = q_upI I2 (m + 20) (nI s) (nI 0) := ⟨_, rfl⟩
    rw [← hI3]
    have o3 : ∀ b, b ≠ m + 20 → I3 b = I2 b := fun b hb => by rw [hI3]; funext i; rw [q_upI_nea hb]
    have o13 : ∀ b, b ≠ m + 18 → b ≠ m + 20 → I3 b = I1 b := fun b b1 b2 => (o3 b b2).trans (e1 b b1)
    refine ⟨rfl, I3, rfl, k1.xf.trans (m_xf.arr fun b hb => o13 b (by omega) (by omega)), k2.cong (by rw [o13 m (by omega) (by omega)]) (fun j j1 j2 => o13 _ (by omega) (by omega)), ?_, ?_, by rw [o13 m (by omega) (by omega)]; exact y4, by rw [o13 m (by omega) (by omega)]; exact y5⟩
    · show m_rv m (M ++ [p.f]) (k_ud X.1 p.sl _) I3
      rw [← e4]
      exact (rows I2 v e2 e3).cong (o3 _ (by omega))
    · refine y3.zero (fun j j1 j2 => ?_) ?_ (o13 _ (by omega) (by omega))
      · rw [hI3, q_upI_nk (by omega), e1 _ (by omega)]
      · rw [hI3, q_upI_self]
  rcases hK with h0 | h0
  · rw [h0]
    refine q_iconst (v := nI 1) d_Model_arrive_53 (by decide) ?_
    refine q_icmp_ne (tgt := 76) d_Model_arrive_54 rfl (fun hc => ?_) (fun hc => ?_)
    · exact fin I1 _ _ _ rfl rfl (fun _ _ => rfl) (fun _ _ => rfl) k3 (by rw [if_pos h0])
    · exact absurd hc (by decide)
  · rw [h0]
    refine q_iconst (v := nI 1) d_Model_arrive_53 (by decide) ?_
    refine q_icmp_ne (tgt := 76) d_Model_arrive_54 rfl (fun hc => ?_) (fun hc => ?_)
    · exact absurd rfl hc
    refine q_aload_n d_Model_arrive_57 rfl rfl ?_
    refine q_getR (ci := 11) (fk := 26) d_Model_arrive_58 rfl (Nat.le_of_ble_eq_true rfl) w_1130 (fun _ _ => rfl) hL.1 (hL.2 26 _ _ _ rfl).1 ?_
    refine q_bipush (v := nI 14) d_Model_arrive_61 (by decide) ?_
    refine q_iload_n d_Model_arrive_63 rfl rfl ?_
    first | refine q_imulN d_Model_arrive_64 ?_ | refine q_imul d_Model_arrive_64 ?_
    refine q_aload_n d_Model_arrive_65 rfl rfl ?_
    refine q_getR (ci := 11) (fk := 23) d_Model_arrive_66 rfl (Nat.le_of_ble_eq_true rfl) w_1127 (fun _ _ => rfl) hL.1 (hL.2 23 _ _ _ rfl).1 ?_
    refine q_bipush (v := nI 7) d_Model_arrive_69 (by decide) ?_
    refine q_iload_n d_Model_arrive_71 rfl rfl ?_
    first | refine q_imulN d_Model_arrive_72 ?_ | refine q_imul d_Model_arrive_72 ?_
    refine q_callSv (M2 := M_Model_copyRow) d_Model_arrive_73 ⟨(Nat.le_of_ble_eq_true rfl), (Nat.le_of_ble_eq_true rfl), w_1321, w_10, ⟨by decide, by decide⟩, show _ = some 4 by decide +kernel⟩ w_1319 w_1320 rfl (Nat.le_of_ble_eq_true rfl) (by omega) (by omega) (c_Model_copyRow (a := m + 21) (a2 := m + 18) t21 t18 (by omega) (by omega) (by omega) (by omega) (Or.inl (by omega))) ?_
    rintro _ ⟨I2, rfl, cp⟩
    exact fin I2 _ _ _ rfl rfl cp.1 (fun j hj => cp.2.2 j (by omega) (by omega)) (cp.rw ((y3 s hs).2.1 (by omega))) (by rw [if_neg (by omega)])
theorem k_ud_ud {α : Type} {f : Nat → α} {s : Nat} {u v : α} : k_ud (k_ud f s u) s v = k_ud f s v := by
  funext j
  unfold k_ud
  split <;> rfl
theorem m_x.go {k : Nat} {I' : q_I} (h : m_x m M X I) (hk : k < M.length) (h1 : m_wk m I I') (h2 : m_go m M k I I') : m_x m (k_goL M k) X I' := by
  obtain ⟨x1, x2, x3, x4, x5⟩ := h
  have h26 := x1.2.1
  refine ⟨h2.1, fun i f hf => ?_, x3.cong (h1.1 _ (by omega) (by omega)) (h1.1 _ (by omega) (by omega)), by rw [h1.2 _ (fun z => absurd (q_nI_inj z) (by decide))]; exact x4, by rw [h1.2 _ (fun z => absurd (q_nI_inj z) (by decide))]; exact x5⟩
  rw [k_goL_at hk] at hf
  by_cases hi : i < M.length - 1
  · rw [if_pos hi] at hf
    by_cases hik : i = k
    · rw [if_pos hik] at hf
      obtain ⟨a1, a2, a3⟩ := x2 _ f hf
      subst hik
      refine ⟨a1, ?_, fun j y hy => ?_⟩
      · have := h2.2.1 0 (by omega)
        rw [show 7 * i + 0 = 7 * i from rfl, show 7 * (M.length - 1) + 0 = 7 * (M.length - 1) from rfl] at this
        rw [this]; exact a2
      · have hj := (List.getElem?_eq_some_iff.mp hy).1
        have := h2.2.1 (1 + j) (by omega)
        rw [show 7 * i + (1 + j) = 7 * i + 1 + j by omega, show 7 * (M.length - 1) + (1 + j) = 7 * (M.length - 1) + 1 + j by omega] at this
        rw [this]; exact a3 j y hy
    · rw [if_neg hik] at hf
      exact (x2 i f hf).cong fun j j1 j2 => h2.2.2.1 j (by omega) (by omega)
  · rw [if_neg hi] at hf; cases hf
/-- a kept thing is dropped -/
theorem m_x.kz {s : Nat} (h : m_x m M X I) (hs : s < 128) : m_x m M (X.1, k_ud X.2.1 s k_n0, X.2.2) (q_upI I (m + 20) (nI s) (nI 0)) := by
  obtain ⟨x1, x2, x3, x4, x5⟩ := h
  have o : ∀ b, b ≠ m + 20 → q_upI I (m + 20) (nI s) (nI 0) b = I b := fun b hb => by funext i; rw [q_upI_nea hb]
  exact ⟨x1.cong (by rw [o m (by omega)]) (fun j j1 j2 => o _ (by omega)), x2.cong (o _ (by omega)), x3.zero (fun j j1 j2 => q_upI_nk (by omega)) q_upI_self (o _ (by omega)), by rw [o m (by omega)]; exact x4, by rw [o m (by omega)]; exact x5⟩
theorem m_xf.up20 {s : Nat} {v : Int32} : m_xf m I (q_upI I (m + 20) (nI s) v) := m_xf.arr fun b hb => by funext i; rw [q_upI_nea (by omega)]
theorem c_Model_depart1 {k s : Nat} {p : KP} (hL : q_L 11 t_Model m T R) (h : m_x m M X I) (hok : k_okf M) (hd : k_dis M) (hk : M[k]? = some p.f) (hs : s < 128) (hso : p.so = 0 ∨ p.so = 1 ∨ p.so = 2) (hsh : k_shp p.so (X.1 p.sl)) : q_Cv g M_Model_depart [.ref m, .int (nI (k_path p.nm)), .int (nI s)] (sz, T, I, R, J) 0 0 (fun h' => ∃ I' : q_I, h' = (sz, T, I', R, J) ∧ m_xf m I I' ∧ m_x m (k_goL M k) (t_dep p s X) I') := by
  have hkl := (List.getElem?_eq_some_iff.mp hk).1
  have hpm := List.mem_of_getElem? hk
  have x1 := h.1
  have h26 := x1.2.1
  refine q_C.of (ls0 := [some (.ref m), some (.int (nI (k_path p.nm))), some (.int (nI s)), none, none]) (by decide) rfl (by decide) (Nat.le_of_ble_eq_true rfl) rfl ?_
  refine q_aload_n d_Model_depart_0 rfl rfl ?_
  refine q_iload_n d_Model_depart_1 rfl rfl ?_
  refine q_callVi (M2 := M_Model_find) d_Model_depart_2 ⟨(Nat.le_of_ble_eq_true rfl), (Nat.le_of_ble_eq_true rfl), w_1266, w_10, ⟨by decide, by decide⟩, show _ = some 1 by decide +kernel⟩ w_1263 w_1265 (ci := 11) rfl s_53 hL.1 rfl (Nat.le_of_ble_eq_true rfl) (by omega) (by omega) (c_Model_findF hL x1 hok _) ?_
  rintro _ _ ⟨rfl, rfl⟩
  rw [k_of_path (hok p.f hpm).1, show k_fo M (some p.nm) = k_fi M p.f.1 from rfl, k_fi_at hd hk, show p_idx (some k) = nI k from rfl]
  refine q_istore_n d_Model_depart_5 rfl (Nat.le_of_ble_eq_true rfl) (by first | exact q_ok0 | exact q_okI rfl | exact q_okR rfl | exact q_okN rfl) rfl ?_
  refine q_aload_n d_Model_depart_6 rfl rfl ?_
  refine q_getI (ci := 11) (fk := 27) d_Model_depart_7 rfl (Nat.le_of_ble_eq_true rfl) w_1131 (fun _ _ => rfl) hL.1 ?_
  rw [h.2.2.2.1]
  refine q_iconst (v := nI 1) d_Model_depart_10 (by decide) ?_
  refine q_icmp_ne (tgt := 103) d_Model_depart_11 rfl (fun hc => ?_) (fun hc => ?_)
  · exact absurd rfl hc
  refine q_aload_n d_Model_depart_14 rfl rfl ?_
  refine q_getR (ci := 11) (fk := 25) d_Model_depart_15 rfl (Nat.le_of_ble_eq_true rfl) w_1129 (fun _ _ => rfl) hL.1 (hL.2 25 _ _ _ rfl).1 ?_
  refine q_iload_n d_Model_depart_18 rfl rfl ?_
  refine q_iconst (v := nI 0) d_Model_depart_19 (by decide) ?_
  refine q_iast d_Model_depart_20 (hL.2 25 _ _ _ rfl).2 (by first | assumption | exact vp_in_nI (by omega) (by omega)) ?_
  have y := h.kz hs
  obtain ⟨I1, hI1⟩ : ∃ I1, I1 = q_upI I (m + 20) (nI s) (nI 0) := ⟨_, rfl⟩
  have f1 : m_xf m I I1 := by rw [hI1]; exact m_xf.up20
  rw [← hI1] at y ⊢
  have fin : ∀ (b : Bool) (mcc msc : Nat), mcc = 0 → msc = 0 → b = decide (X.1 p.sl = k_dfl p.so p.lo p.hi) → q_V g M_Model_depart 0 0 mcc msc (sz, T, I1, R, J) (fun o h' => o = .inl none ∧ ∃ I' : q_I, h' = (sz, T, I', R, J) ∧ m_xf m I I' ∧ m_x m (k_goL M k) (t_dep p s X) I') 90 [some (.ref m), some (.int (nI (k_path p.nm))), some (.int (nI s)), some (.int (nI k)), none] [.int (p_b b)] := by
    intro b mcc msc m1 m2 hb
    subst m1 m2
    have go : ∀ (I2 : q_I) (mcc msc : Nat), mcc = 0 → msc = 0 → m_xf m I I2 → m_x m M (t_dep p s X) I2 → q_V g M_Model_depart 0 0 mcc msc (sz, T, I2, R, J) (fun o h' => o = .inl none ∧ ∃ I' : q_I, h' = (sz, T, I', R, J) ∧ m_xf m I I' ∧ m_x m (k_goL M k) (t_dep p s X) I') 103 [some (.ref m), some (.int (nI (k_path p.nm))), some (.int (nI s)), some (.int (nI k)), some (.int (p_b b))] [] := by
      intro I2 mcc msc m1 m2 f2 y2
      subst m1 m2
      refine q_aload_n d_Model_depart_103 rfl rfl ?_
      refine q_iload_n d_Model_depart_104 rfl rfl ?_
      refine q_callVv (M2 := M_Model_go) d_Model_depart_105 ⟨(Nat.le_of_ble_eq_true rfl), (Nat.le_of_ble_eq_true rfl), w_1333, w_10, ⟨by decide, by decide⟩, show _ = some 1 by decide +kernel⟩ w_1330 w_1332 (ci := 11) rfl s_64 hL.1 rfl (Nat.le_of_ble_eq_true rfl) (by omega) (by omega) (c_Model_go hL y2.1 hkl) ?_
      rintro _ ⟨I3, rfl, k1, k2⟩
      refine q_vret d_Model_depart_108 rfl (by omega) (by omega) ?_
      exact ⟨rfl, I3, rfl, f2.trans k1.xf, y2.go hkl k1 k2⟩
    cases b with
    | true =>
      have e := of_decide_eq_true hb.symm
      refine q_istore d_Model_depart_90 (Nat.le_of_ble_eq_true rfl) (by first | exact q_ok0 | exact q_okI rfl | exact q_okR rfl | exact q_okN rfl) rfl ?_
      refine q_iload d_Model_depart_92 rfl ?_
      refine q_if_ne (tgt := 103) d_Model_depart_94 rfl (fun hc => ?_) (fun hc => ?_)
      rotate_left
      · exact absurd hc (by decide)
      refine go I1 _ _ rfl rfl f1 ?_
      unfold t_dep
      rw [if_pos e]; exact y
    | false =>
      have e := of_decide_eq_false hb.symm
      refine q_istore d_Model_depart_90 (Nat.le_of_ble_eq_true rfl) (by first | exact q_ok0 | exact q_okI rfl | exact q_okR rfl | exact q_okN rfl) rfl ?_
      refine q_iload d_Model_depart_92 rfl ?_
      refine q_if_ne (tgt := 103) d_Model_depart_94 rfl (fun hc => ?_) (fun hc => ?_)
      · exact absurd rfl hc
      refine q_aload_n d_Model_depart_97 rfl rfl ?_
      refine q_iload_n d_Model_depart_98 rfl rfl ?_
      refine q_iload_n d_Model_depart_99 rfl rfl ?_
      refine q_callVv (M2 := M_Model_keepOne) d_Model_depart_100 ⟨(Nat.le_of_ble_eq_true rfl), (Nat.le_of_ble_eq_true rfl), w_1329, w_10, ⟨by decide, by decide⟩, show _ = some 2 by decide +kernel⟩ w_1326 w_1328 (ci := 11) rfl s_63 hL.1 rfl (Nat.le_of_ble_eq_true rfl) (by omega) (by omega) (c_Model_keepOne hL y hk hs) ?_
      rintro _ ⟨I2, rfl, o2, y2⟩
      refine go I2 _ _ rfl rfl (f1.trans (m_xf.arr fun b hb => o2 b (by omega) (by omega))) ?_
      unfold t_dep
      rw [if_neg e]
      simp only [k_ud_ud] at y2
      exact y2
  obtain ⟨g1, g2, g3, g4⟩ := y.1.2.2 k p.f hk
  have hr := y.2.1 k p.f hk
  have hso' : I1 (m + 15) (nI k) = p.so := g2
  have hlo' : I1 (m + 16) (nI k) = p.lo := g3
  have hhi' : I1 (m + 17) (nI k) = p.hi := g4
  have hr' : k_rw (I1 (m + 18)) (7 * k) (X.1 p.sl) := hr
  refine q_aload_n d_Model_depart_21 rfl rfl ?_
  refine q_getR (ci := 11) (fk := 20) d_Model_depart_22 rfl (Nat.le_of_ble_eq_true rfl) w_1124 (fun _ _ => rfl) hL.1 (hL.2 20 _ _ _ rfl).1 ?_
  refine q_iload_n d_Model_depart_25 rfl rfl ?_
  refine q_iald d_Model_depart_26 (hL.2 20 _ _ _ rfl).2 (by first | assumption | exact vp_in_nI (by omega) (by omega)) ?_
  rw [hso']
  rcases hso with h0 | h0 | h0
  · rw [h0] at hso' ⊢
    have ed : k_dfl p.so p.lo p.hi = [p_near p.lo p.hi] := by unfold k_dfl; rw [if_pos h0]
    obtain ⟨x, hx⟩ : ∃ x, X.1 p.sl = [x] := by
      have := hsh.2.1 h0
      match hv : X.1 p.sl, this with
      | [x], _ => exact ⟨x, rfl⟩
    have hx1 : I1 (m + 18) (nI (7 * k + 1)) = x := by
      have := hr'.2.2 0 x (by rw [hx]; rfl)
      exact this
    refine q_iconst (v := nI 2) d_Model_depart_27 (by decide) ?_
    refine q_icmp_eq (tgt := 85) d_Model_depart_28 rfl (fun hc => ?_) (fun hc => ?_)
    · exact absurd hc (by decide)
    refine q_aload_n d_Model_depart_31 rfl rfl ?_
    refine q_getR (ci := 11) (fk := 20) d_Model_depart_32 rfl (Nat.le_of_ble_eq_true rfl) w_1124 (fun _ _ => rfl) hL.1 (hL.2 20 _ _ _ rfl).1 ?_
    refine q_iload_n d_Model_depart_35 rfl rfl ?_
    refine q_iald d_Model_depart_36 (hL.2 20 _ _ _ rfl).2 (by first | assumption | exact vp_in_nI (by omega) (by omega)) ?_
    rw [hso']
    refine q_iconst (v := nI 1) d_Model_depart_37 (by decide) ?_
    refine q_icmp_ne (tgt := 56) d_Model_depart_38 rfl (fun hc => ?_) (fun hc => ?_)
    rotate_left
    · exact absurd hc (by decide)
    refine q_aload_n d_Model_depart_56 rfl rfl ?_
    refine q_getR (ci := 11) (fk := 23) d_Model_depart_57 rfl (Nat.le_of_ble_eq_true rfl) w_1127 (fun _ _ => rfl) hL.1 (hL.2 23 _ _ _ rfl).1 ?_
    refine q_bipush (v := nI 7) d_Model_depart_60 (by decide) ?_
    refine q_iload_n d_Model_depart_62 rfl rfl ?_
    first | refine q_imulN d_Model_depart_63 ?_ | refine q_imul d_Model_depart_63 ?_
    refine q_iconst (v := nI 1) d_Model_depart_64 (by decide) ?_
    first | refine q_iaddN d_Model_depart_65 ?_ | refine q_iadd d_Model_depart_65 ?_
    refine q_iald d_Model_depart_66 (hL.2 23 _ _ _ rfl).2 (by first | assumption | exact vp_in_nI (by omega) (by omega)) ?_
    rw [hx1]
    refine q_aload_n d_Model_depart_67 rfl rfl ?_
    refine q_getR (ci := 11) (fk := 21) d_Model_depart_68 rfl (Nat.le_of_ble_eq_true rfl) w_1125 (fun _ _ => rfl) hL.1 (hL.2 21 _ _ _ rfl).1 ?_
    refine q_iload_n d_Model_depart_71 rfl rfl ?_
    refine q_iald d_Model_depart_72 (hL.2 21 _ _ _ rfl).2 (by first | assumption | exact vp_in_nI (by omega) (by omega)) ?_
    rw [hlo']
    refine q_aload_n d_Model_depart_73 rfl rfl ?_
    refine q_getR (ci := 11) (fk := 22) d_Model_depart_74 rfl (Nat.le_of_ble_eq_true rfl) w_1126 (fun _ _ => rfl) hL.1 (hL.2 22 _ _ _ rfl).1 ?_
    refine q_iload_n d_Model_depart_77 rfl rfl ?_
    refine q_iald d_Model_depart_78 (hL.2 22 _ _ _ rfl).2 (by first | assumption | exact vp_in_nI (by omega) (by omega)) ?_
    rw [hhi']
    refine q_callSi (M2 := M_Model_nearest) d_Model_depart_79 ⟨(Nat.le_of_ble_eq_true rfl), (Nat.le_of_ble_eq_true rfl), w_1240, w_10, ⟨by decide, by decide⟩, show _ = some 2 by decide +kernel⟩ w_1238 w_1239 rfl (Nat.le_of_ble_eq_true rfl) (by omega) (by omega) (c_Model_nearest _ _) ?_
    rintro _ _ ⟨rfl, rfl⟩
    refine q_icmp_ne (tgt := 89) d_Model_depart_82 rfl (fun hc => ?_) (fun hc => ?_)
    · refine q_iconst (v := nI 0) d_Model_depart_89 (by decide) ?_
      refine fin false _ _ rfl rfl ?_
      rw [hx]
      symm
      rw [decide_eq_false_iff_not]
      intro z
      rw [ed] at z
      exact hc (List.cons.inj z).1
    · refine q_iconst (v := nI 1) d_Model_depart_85 (by decide) ?_
      refine q_goto (tgt := 90) d_Model_depart_86 rfl ?_
      refine fin true _ _ rfl rfl ?_
      rw [hx]
      symm
      rw [decide_eq_true_iff]
      rw [ed, hc]
  · rw [h0] at hso' ⊢
    have ed : k_dfl p.so p.lo p.hi = [] := by unfold k_dfl; rw [if_neg (by rw [h0]; decide)]
    refine q_iconst (v := nI 2) d_Model_depart_27 (by decide) ?_
    refine q_icmp_eq (tgt := 85) d_Model_depart_28 rfl (fun hc => ?_) (fun hc => ?_)
    · exact absurd hc (by decide)
    refine q_aload_n d_Model_depart_31 rfl rfl ?_
    refine q_getR (ci := 11) (fk := 20) d_Model_depart_32 rfl (Nat.le_of_ble_eq_true rfl) w_1124 (fun _ _ => rfl) hL.1 (hL.2 20 _ _ _ rfl).1 ?_
    refine q_iload_n d_Model_depart_35 rfl rfl ?_
    refine q_iald d_Model_depart_36 (hL.2 20 _ _ _ rfl).2 (by first | assumption | exact vp_in_nI (by omega) (by omega)) ?_
    rw [hso']
    refine q_iconst (v := nI 1) d_Model_depart_37 (by decide) ?_
    refine q_icmp_ne (tgt := 56) d_Model_depart_38 rfl (fun hc => ?_) (fun hc => ?_)
    · exact absurd rfl hc
    refine q_aload_n d_Model_depart_41 rfl rfl ?_
    refine q_getR (ci := 11) (fk := 23) d_Model_depart_42 rfl (Nat.le_of_ble_eq_true rfl) w_1127 (fun _ _ => rfl) hL.1 (hL.2 23 _ _ _ rfl).1 ?_
    refine q_bipush (v := nI 7) d_Model_depart_45 (by decide) ?_
    refine q_iload_n d_Model_depart_47 rfl rfl ?_
    first | refine q_imulN d_Model_depart_48 ?_ | refine q_imul d_Model_depart_48 ?_
    refine q_iald d_Model_depart_49 (hL.2 23 _ _ _ rfl).2 (by first | assumption | exact vp_in_nI (by omega) (by omega)) ?_
    rw [hr'.2.1]
    have hl6 := hr'.1
    refine q_if_ne (tgt := 89) d_Model_depart_50 rfl (fun hc => ?_) (fun hc => ?_)
    · refine q_iconst (v := nI 0) d_Model_depart_89 (by decide) ?_
      refine fin false _ _ rfl rfl ?_
      symm
      rw [decide_eq_false_iff_not]
      intro z
      exact hc (by rw [z, ed]; rfl)
    · refine q_goto (tgt := 85) d_Model_depart_53 rfl ?_
      refine q_iconst (v := nI 1) d_Model_depart_85 (by decide) ?_
      refine q_goto (tgt := 90) d_Model_depart_86 rfl ?_
      refine fin true _ _ rfl rfl ?_
      symm
      rw [decide_eq_true_iff]
      have : (X.1 p.sl).length = 0 := (nI_eq (by omega) (by omega)).mp hc
      rw [List.length_eq_zero_iff.mp this, ed]
  · rw [h0] at hso' ⊢
    have ed : k_dfl p.so p.lo p.hi = [] := by unfold k_dfl; rw [if_neg (by rw [h0]; decide)]
    refine q_iconst (v := nI 2) d_Model_depart_27 (by decide) ?_
    refine q_icmp_eq (tgt := 85) d_Model_depart_28 rfl (fun hc => ?_) (fun hc => ?_)
    rotate_left
    · exact absurd rfl hc
    refine q_iconst (v := nI 1) d_Model_depart_85 (by decide) ?_
    refine q_goto (tgt := 90) d_Model_depart_86 rfl ?_
    refine fin true _ _ rfl rfl ?_
    symm
    rw [decide_eq_true_iff, hsh.2.2 h0, ed]
end MVal
