/-! begin, leave, record and copy, the reference's side -/
abbrev M_Model_record : q_M := (⟨"LensPathsModel", "record", "(I)I"⟩, prog_14_method_56_code, 4, (some .int), "LensPathsModel", [], false, 4, 97)
theorem d_Model_record_0 : decode prog_14_method_56_code 0 = .ok (.aload_n 0, 1) := by decide +kernel
theorem d_Model_record_1 : decode prog_14_method_56_code 1 = .ok (.invokevirtual 280, 3) := by decide +kernel
theorem d_Model_record_4 : decode prog_14_method_56_code 4 = .ok (.istore_n 2, 1) := by decide +kernel
theorem d_Model_record_5 : decode prog_14_method_56_code 5 = .ok (.aload_n 0, 1) := by decide +kernel
theorem d_Model_record_6 : decode prog_14_method_56_code 6 = .ok (.aload_n 0, 1) := by decide +kernel
theorem d_Model_record_7 : decode prog_14_method_56_code 7 = .ok (.iload_n 1, 1) := by decide +kernel
theorem d_Model_record_8 : decode prog_14_method_56_code 8 = .ok (.invokevirtual 254, 3) := by decide +kernel
theorem d_Model_record_11 : decode prog_14_method_56_code 11 = .ok (.ifCond .ne 7, 3) := by decide +kernel
theorem d_Model_record_14 : decode prog_14_method_56_code 14 = .ok (.iconst 1, 1) := by decide +kernel
theorem d_Model_record_15 : decode prog_14_method_56_code 15 = .ok (.goto 12, 3) := by decide +kernel
theorem d_Model_record_18 : decode prog_14_method_56_code 18 = .ok (.iload_n 2, 1) := by decide +kernel
theorem d_Model_record_19 : decode prog_14_method_56_code 19 = .ok (.ifCond .ge 7, 3) := by decide +kernel
theorem d_Model_record_22 : decode prog_14_method_56_code 22 = .ok (.iconst 2, 1) := by decide +kernel
theorem d_Model_record_23 : decode prog_14_method_56_code 23 = .ok (.goto 4, 3) := by decide +kernel
theorem d_Model_record_26 : decode prog_14_method_56_code 26 = .ok (.iconst 0, 1) := by decide +kernel
theorem d_Model_record_27 : decode prog_14_method_56_code 27 = .ok (.putfield 101, 3) := by decide +kernel
theorem d_Model_record_30 : decode prog_14_method_56_code 30 = .ok (.aload_n 0, 1) := by decide +kernel
theorem d_Model_record_31 : decode prog_14_method_56_code 31 = .ok (.getfield 101, 3) := by decide +kernel
theorem d_Model_record_34 : decode prog_14_method_56_code 34 = .ok (.ifCond .le 5, 3) := by decide +kernel
theorem d_Model_record_37 : decode prog_14_method_56_code 37 = .ok (.iconst 0, 1) := by decide +kernel
theorem d_Model_record_38 : decode prog_14_method_56_code 38 = .ok (.ireturn, 1) := by decide +kernel
theorem d_Model_record_39 : decode prog_14_method_56_code 39 = .ok (.aload_n 0, 1) := by decide +kernel
theorem d_Model_record_40 : decode prog_14_method_56_code 40 = .ok (.iconst 1, 1) := by decide +kernel
theorem d_Model_record_41 : decode prog_14_method_56_code 41 = .ok (.putfield 234, 3) := by decide +kernel
theorem d_Model_record_44 : decode prog_14_method_56_code 44 = .ok (.aload_n 0, 1) := by decide +kernel
theorem d_Model_record_45 : decode prog_14_method_56_code 45 = .ok (.iconst 0, 1) := by decide +kernel
theorem d_Model_record_46 : decode prog_14_method_56_code 46 = .ok (.putfield 118, 3) := by decide +kernel
theorem d_Model_record_49 : decode prog_14_method_56_code 49 = .ok (.aload_n 0, 1) := by decide +kernel
theorem d_Model_record_50 : decode prog_14_method_56_code 50 = .ok (.iload_n 1, 1) := by decide +kernel
theorem d_Model_record_51 : decode prog_14_method_56_code 51 = .ok (.invokevirtual 237, 3) := by decide +kernel
theorem d_Model_record_54 : decode prog_14_method_56_code 54 = .ok (.aload_n 0, 1) := by decide +kernel
theorem d_Model_record_55 : decode prog_14_method_56_code 55 = .ok (.getfield 41, 3) := by decide +kernel
theorem d_Model_record_58 : decode prog_14_method_56_code 58 = .ok (.iload_n 2, 1) := by decide +kernel
theorem d_Model_record_59 : decode prog_14_method_56_code 59 = .ok (.iload_n 1, 1) := by decide +kernel
theorem d_Model_record_60 : decode prog_14_method_56_code 60 = .ok (.iastore, 1) := by decide +kernel
theorem d_Model_record_61 : decode prog_14_method_56_code 61 = .ok (.iconst 0, 1) := by decide +kernel
theorem d_Model_record_62 : decode prog_14_method_56_code 62 = .ok (.istore_n 3, 1) := by decide +kernel
theorem d_Model_record_63 : decode prog_14_method_56_code 63 = .ok (.iload_n 3, 1) := by decide +kernel
theorem d_Model_record_64 : decode prog_14_method_56_code 64 = .ok (.aload_n 0, 1) := by decide +kernel
theorem d_Model_record_65 : decode prog_14_method_56_code 65 = .ok (.getfield 108, 3) := by decide +kernel
theorem d_Model_record_68 : decode prog_14_method_56_code 68 = .ok (.if_icmp .ge 33, 3) := by decide +kernel
theorem d_Model_record_71 : decode prog_14_method_56_code 71 = .ok (.aload_n 0, 1) := by decide +kernel
theorem d_Model_record_72 : decode prog_14_method_56_code 72 = .ok (.getfield 65, 3) := by decide +kernel
theorem d_Model_record_75 : decode prog_14_method_56_code 75 = .ok (.bipush 7, 2) := by decide +kernel
theorem d_Model_record_77 : decode prog_14_method_56_code 77 = .ok (.iload_n 3, 1) := by decide +kernel
theorem d_Model_record_78 : decode prog_14_method_56_code 78 = .ok (.imul, 1) := by decide +kernel
theorem d_Model_record_79 : decode prog_14_method_56_code 79 = .ok (.aload_n 0, 1) := by decide +kernel
theorem d_Model_record_80 : decode prog_14_method_56_code 80 = .ok (.getfield 44, 3) := by decide +kernel
theorem d_Model_record_83 : decode prog_14_method_56_code 83 = .ok (.bipush 7, 2) := by decide +kernel
theorem d_Model_record_85 : decode prog_14_method_56_code 85 = .ok (.bipush 24, 2) := by decide +kernel
theorem d_Model_record_87 : decode prog_14_method_56_code 87 = .ok (.iload_n 2, 1) := by decide +kernel
theorem d_Model_record_88 : decode prog_14_method_56_code 88 = .ok (.imul, 1) := by decide +kernel
theorem d_Model_record_89 : decode prog_14_method_56_code 89 = .ok (.iload_n 3, 1) := by decide +kernel
theorem d_Model_record_90 : decode prog_14_method_56_code 90 = .ok (.iadd, 1) := by decide +kernel
theorem d_Model_record_91 : decode prog_14_method_56_code 91 = .ok (.imul, 1) := by decide +kernel
theorem d_Model_record_92 : decode prog_14_method_56_code 92 = .ok (.invokestatic 128, 3) := by decide +kernel
theorem d_Model_record_95 : decode prog_14_method_56_code 95 = .ok (.iinc 3 1, 3) := by decide +kernel
theorem d_Model_record_98 : decode prog_14_method_56_code 98 = .ok (.goto (-35), 3) := by decide +kernel
theorem d_Model_record_101 : decode prog_14_method_56_code 101 = .ok (.iconst 0, 1) := by decide +kernel
theorem d_Model_record_102 : decode prog_14_method_56_code 102 = .ok (.istore_n 3, 1) := by decide +kernel
theorem d_Model_record_103 : decode prog_14_method_56_code 103 = .ok (.iload_n 3, 1) := by decide +kernel
theorem d_Model_record_104 : decode prog_14_method_56_code 104 = .ok (.sipush 128, 3) := by decide +kernel
theorem d_Model_record_107 : decode prog_14_method_56_code 107 = .ok (.if_icmp .ge 22, 3) := by decide +kernel
theorem d_Model_record_110 : decode prog_14_method_56_code 110 = .ok (.aload_n 0, 1) := by decide +kernel
theorem d_Model_record_111 : decode prog_14_method_56_code 111 = .ok (.getfield 47, 3) := by decide +kernel
theorem d_Model_record_114 : decode prog_14_method_56_code 114 = .ok (.sipush 128, 3) := by decide +kernel
theorem d_Model_record_117 : decode prog_14_method_56_code 117 = .ok (.iload_n 2, 1) := by decide +kernel
theorem d_Model_record_118 : decode prog_14_method_56_code 118 = .ok (.imul, 1) := by decide +kernel
theorem d_Model_record_119 : decode prog_14_method_56_code 119 = .ok (.iload_n 3, 1) := by decide +kernel
theorem d_Model_record_120 : decode prog_14_method_56_code 120 = .ok (.iadd, 1) := by decide +kernel
theorem d_Model_record_121 : decode prog_14_method_56_code 121 = .ok (.iconst 0, 1) := by decide +kernel
theorem d_Model_record_122 : decode prog_14_method_56_code 122 = .ok (.iastore, 1) := by decide +kernel
theorem d_Model_record_123 : decode prog_14_method_56_code 123 = .ok (.iinc 3 1, 3) := by decide +kernel
theorem d_Model_record_126 : decode prog_14_method_56_code 126 = .ok (.goto (-23), 3) := by decide +kernel
theorem d_Model_record_129 : decode prog_14_method_56_code 129 = .ok (.iload_n 2, 1) := by decide +kernel
theorem d_Model_record_130 : decode prog_14_method_56_code 130 = .ok (.ireturn, 1) := by decide +kernel
abbrev M_Model_copy : q_M := (⟨"LensPathsModel", "copy", "(I)I"⟩, prog_14_method_57_code, 5, (some .int), "LensPathsModel", [], false, 1, 21)
theorem d_Model_copy_0 : decode prog_14_method_57_code 0 = .ok (.aload_n 0, 1) := by decide +kernel
theorem d_Model_copy_1 : decode prog_14_method_57_code 1 = .ok (.invokevirtual 280, 3) := by decide +kernel
theorem d_Model_copy_4 : decode prog_14_method_57_code 4 = .ok (.istore_n 2, 1) := by decide +kernel
theorem d_Model_copy_5 : decode prog_14_method_57_code 5 = .ok (.aload_n 0, 1) := by decide +kernel
theorem d_Model_copy_6 : decode prog_14_method_57_code 6 = .ok (.aload_n 0, 1) := by decide +kernel
theorem d_Model_copy_7 : decode prog_14_method_57_code 7 = .ok (.iload_n 1, 1) := by decide +kernel
theorem d_Model_copy_8 : decode prog_14_method_57_code 8 = .ok (.invokevirtual 284, 3) := by decide +kernel
theorem d_Model_copy_11 : decode prog_14_method_57_code 11 = .ok (.ifCond .ne 7, 3) := by decide +kernel
theorem d_Model_copy_14 : decode prog_14_method_57_code 14 = .ok (.iconst 1, 1) := by decide +kernel
theorem d_Model_copy_15 : decode prog_14_method_57_code 15 = .ok (.goto 12, 3) := by decide +kernel
theorem d_Model_copy_18 : decode prog_14_method_57_code 18 = .ok (.iload_n 2, 1) := by decide +kernel
theorem d_Model_copy_19 : decode prog_14_method_57_code 19 = .ok (.ifCond .ge 7, 3) := by decide +kernel
theorem d_Model_copy_22 : decode prog_14_method_57_code 22 = .ok (.iconst 2, 1) := by decide +kernel
theorem d_Model_copy_23 : decode prog_14_method_57_code 23 = .ok (.goto 4, 3) := by decide +kernel
theorem d_Model_copy_26 : decode prog_14_method_57_code 26 = .ok (.iconst 0, 1) := by decide +kernel
theorem d_Model_copy_27 : decode prog_14_method_57_code 27 = .ok (.putfield 101, 3) := by decide +kernel
theorem d_Model_copy_30 : decode prog_14_method_57_code 30 = .ok (.aload_n 0, 1) := by decide +kernel
theorem d_Model_copy_31 : decode prog_14_method_57_code 31 = .ok (.getfield 101, 3) := by decide +kernel
theorem d_Model_copy_34 : decode prog_14_method_57_code 34 = .ok (.ifCond .le 5, 3) := by decide +kernel
theorem d_Model_copy_37 : decode prog_14_method_57_code 37 = .ok (.iconst 0, 1) := by decide +kernel
theorem d_Model_copy_38 : decode prog_14_method_57_code 38 = .ok (.ireturn, 1) := by decide +kernel
theorem d_Model_copy_39 : decode prog_14_method_57_code 39 = .ok (.aload_n 0, 1) := by decide +kernel
theorem d_Model_copy_40 : decode prog_14_method_57_code 40 = .ok (.getfield 41, 3) := by decide +kernel
theorem d_Model_copy_43 : decode prog_14_method_57_code 43 = .ok (.iload_n 2, 1) := by decide +kernel
theorem d_Model_copy_44 : decode prog_14_method_57_code 44 = .ok (.aload_n 0, 1) := by decide +kernel
theorem d_Model_copy_45 : decode prog_14_method_57_code 45 = .ok (.getfield 41, 3) := by decide +kernel
theorem d_Model_copy_48 : decode prog_14_method_57_code 48 = .ok (.iload_n 1, 1) := by decide +kernel
theorem d_Model_copy_49 : decode prog_14_method_57_code 49 = .ok (.iaload, 1) := by decide +kernel
theorem d_Model_copy_50 : decode prog_14_method_57_code 50 = .ok (.iastore, 1) := by decide +kernel
theorem d_Model_copy_51 : decode prog_14_method_57_code 51 = .ok (.iconst 0, 1) := by decide +kernel
theorem d_Model_copy_52 : decode prog_14_method_57_code 52 = .ok (.istore_n 3, 1) := by decide +kernel
theorem d_Model_copy_53 : decode prog_14_method_57_code 53 = .ok (.iload_n 3, 1) := by decide +kernel
theorem d_Model_copy_54 : decode prog_14_method_57_code 54 = .ok (.sipush 168, 3) := by decide +kernel
theorem d_Model_copy_57 : decode prog_14_method_57_code 57 = .ok (.if_icmp .ge 33, 3) := by decide +kernel
theorem d_Model_copy_60 : decode prog_14_method_57_code 60 = .ok (.aload_n 0, 1) := by decide +kernel
theorem d_Model_copy_61 : decode prog_14_method_57_code 61 = .ok (.getfield 44, 3) := by decide +kernel
theorem d_Model_copy_64 : decode prog_14_method_57_code 64 = .ok (.sipush 168, 3) := by decide +kernel
theorem d_Model_copy_67 : decode prog_14_method_57_code 67 = .ok (.iload_n 2, 1) := by decide +kernel
theorem d_Model_copy_68 : decode prog_14_method_57_code 68 = .ok (.imul, 1) := by decide +kernel
theorem d_Model_copy_69 : decode prog_14_method_57_code 69 = .ok (.iload_n 3, 1) := by decide +kernel
theorem d_Model_copy_70 : decode prog_14_method_57_code 70 = .ok (.iadd, 1) := by decide +kernel
theorem d_Model_copy_71 : decode prog_14_method_57_code 71 = .ok (.aload_n 0, 1) := by decide +kernel
theorem d_Model_copy_72 : decode prog_14_method_57_code 72 = .ok (.getfield 44, 3) := by decide +kernel
theorem d_Model_copy_75 : decode prog_14_method_57_code 75 = .ok (.sipush 168, 3) := by decide +kernel
theorem d_Model_copy_78 : decode prog_14_method_57_code 78 = .ok (.iload_n 1, 1) := by decide +kernel
theorem d_Model_copy_79 : decode prog_14_method_57_code 79 = .ok (.imul, 1) := by decide +kernel
theorem d_Model_copy_80 : decode prog_14_method_57_code 80 = .ok (.iload_n 3, 1) := by decide +kernel
theorem d_Model_copy_81 : decode prog_14_method_57_code 81 = .ok (.iadd, 1) := by decide +kernel
theorem d_Model_copy_82 : decode prog_14_method_57_code 82 = .ok (.iaload, 1) := by decide +kernel
theorem d_Model_copy_83 : decode prog_14_method_57_code 83 = .ok (.iastore, 1) := by decide +kernel
theorem d_Model_copy_84 : decode prog_14_method_57_code 84 = .ok (.iinc 3 1, 3) := by decide +kernel
theorem d_Model_copy_87 : decode prog_14_method_57_code 87 = .ok (.goto (-34), 3) := by decide +kernel
theorem d_Model_copy_90 : decode prog_14_method_57_code 90 = .ok (.sipush 128, 3) := by decide +kernel
theorem d_Model_copy_93 : decode prog_14_method_57_code 93 = .ok (.istore_n 3, 1) := by decide +kernel
theorem d_Model_copy_94 : decode prog_14_method_57_code 94 = .ok (.iconst 0, 1) := by decide +kernel
theorem d_Model_copy_95 : decode prog_14_method_57_code 95 = .ok (.istore 4, 2) := by decide +kernel
theorem d_Model_copy_97 : decode prog_14_method_57_code 97 = .ok (.iload 4, 2) := by decide +kernel
theorem d_Model_copy_99 : decode prog_14_method_57_code 99 = .ok (.iload_n 3, 1) := by decide +kernel
theorem d_Model_copy_100 : decode prog_14_method_57_code 100 = .ok (.if_icmp .ge 31, 3) := by decide +kernel
theorem d_Model_copy_103 : decode prog_14_method_57_code 103 = .ok (.aload_n 0, 1) := by decide +kernel
theorem d_Model_copy_104 : decode prog_14_method_57_code 104 = .ok (.getfield 47, 3) := by decide +kernel
theorem d_Model_copy_107 : decode prog_14_method_57_code 107 = .ok (.iload_n 3, 1) := by decide +kernel
theorem d_Model_copy_108 : decode prog_14_method_57_code 108 = .ok (.iload_n 2, 1) := by decide +kernel
theorem d_Model_copy_109 : decode prog_14_method_57_code 109 = .ok (.imul, 1) := by decide +kernel
theorem d_Model_copy_110 : decode prog_14_method_57_code 110 = .ok (.iload 4, 2) := by decide +kernel
theorem d_Model_copy_112 : decode prog_14_method_57_code 112 = .ok (.iadd, 1) := by decide +kernel
theorem d_Model_copy_113 : decode prog_14_method_57_code 113 = .ok (.aload_n 0, 1) := by decide +kernel
theorem d_Model_copy_114 : decode prog_14_method_57_code 114 = .ok (.getfield 47, 3) := by decide +kernel
theorem d_Model_copy_117 : decode prog_14_method_57_code 117 = .ok (.iload_n 3, 1) := by decide +kernel
theorem d_Model_copy_118 : decode prog_14_method_57_code 118 = .ok (.iload_n 1, 1) := by decide +kernel
theorem d_Model_copy_119 : decode prog_14_method_57_code 119 = .ok (.imul, 1) := by decide +kernel
theorem d_Model_copy_120 : decode prog_14_method_57_code 120 = .ok (.iload 4, 2) := by decide +kernel
theorem d_Model_copy_122 : decode prog_14_method_57_code 122 = .ok (.iadd, 1) := by decide +kernel
theorem d_Model_copy_123 : decode prog_14_method_57_code 123 = .ok (.iaload, 1) := by decide +kernel
theorem d_Model_copy_124 : decode prog_14_method_57_code 124 = .ok (.iastore, 1) := by decide +kernel
theorem d_Model_copy_125 : decode prog_14_method_57_code 125 = .ok (.iinc 4 1, 3) := by decide +kernel
theorem d_Model_copy_128 : decode prog_14_method_57_code 128 = .ok (.goto (-31), 3) := by decide +kernel
theorem d_Model_copy_131 : decode prog_14_method_57_code 131 = .ok (.iconst 0, 1) := by decide +kernel
theorem d_Model_copy_132 : decode prog_14_method_57_code 132 = .ok (.istore 4, 2) := by decide +kernel
theorem d_Model_copy_134 : decode prog_14_method_57_code 134 = .ok (.iload 4, 2) := by decide +kernel
theorem d_Model_copy_136 : decode prog_14_method_57_code 136 = .ok (.bipush 14, 2) := by decide +kernel
theorem d_Model_copy_138 : decode prog_14_method_57_code 138 = .ok (.iload_n 3, 1) := by decide +kernel
theorem d_Model_copy_139 : decode prog_14_method_57_code 139 = .ok (.imul, 1) := by decide +kernel
theorem d_Model_copy_140 : decode prog_14_method_57_code 140 = .ok (.if_icmp .ge 37, 3) := by decide +kernel
theorem d_Model_copy_143 : decode prog_14_method_57_code 143 = .ok (.aload_n 0, 1) := by decide +kernel
theorem d_Model_copy_144 : decode prog_14_method_57_code 144 = .ok (.getfield 50, 3) := by decide +kernel
theorem d_Model_copy_147 : decode prog_14_method_57_code 147 = .ok (.bipush 14, 2) := by decide +kernel
theorem d_Model_copy_149 : decode prog_14_method_57_code 149 = .ok (.iload_n 3, 1) := by decide +kernel
theorem d_Model_copy_150 : decode prog_14_method_57_code 150 = .ok (.imul, 1) := by decide +kernel
theorem d_Model_copy_151 : decode prog_14_method_57_code 151 = .ok (.iload_n 2, 1) := by decide +kernel
theorem d_Model_copy_152 : decode prog_14_method_57_code 152 = .ok (.imul, 1) := by decide +kernel
theorem d_Model_copy_153 : decode prog_14_method_57_code 153 = .ok (.iload 4, 2) := by decide +kernel
theorem d_Model_copy_155 : decode prog_14_method_57_code 155 = .ok (.iadd, 1) := by decide +kernel
theorem d_Model_copy_156 : decode prog_14_method_57_code 156 = .ok (.aload_n 0, 1) := by decide +kernel
theorem d_Model_copy_157 : decode prog_14_method_57_code 157 = .ok (.getfield 50, 3) := by decide +kernel
theorem d_Model_copy_160 : decode prog_14_method_57_code 160 = .ok (.bipush 14, 2) := by decide +kernel
theorem d_Model_copy_162 : decode prog_14_method_57_code 162 = .ok (.iload_n 3, 1) := by decide +kernel
theorem d_Model_copy_163 : decode prog_14_method_57_code 163 = .ok (.imul, 1) := by decide +kernel
theorem d_Model_copy_164 : decode prog_14_method_57_code 164 = .ok (.iload_n 1, 1) := by decide +kernel
theorem d_Model_copy_165 : decode prog_14_method_57_code 165 = .ok (.imul, 1) := by decide +kernel
theorem d_Model_copy_166 : decode prog_14_method_57_code 166 = .ok (.iload 4, 2) := by decide +kernel
theorem d_Model_copy_168 : decode prog_14_method_57_code 168 = .ok (.iadd, 1) := by decide +kernel
theorem d_Model_copy_169 : decode prog_14_method_57_code 169 = .ok (.iaload, 1) := by decide +kernel
theorem d_Model_copy_170 : decode prog_14_method_57_code 170 = .ok (.iastore, 1) := by decide +kernel
theorem d_Model_copy_171 : decode prog_14_method_57_code 171 = .ok (.iinc 4 1, 3) := by decide +kernel
theorem d_Model_copy_174 : decode prog_14_method_57_code 174 = .ok (.goto (-40), 3) := by decide +kernel
theorem d_Model_copy_177 : decode prog_14_method_57_code 177 = .ok (.iload_n 2, 1) := by decide +kernel
theorem d_Model_copy_178 : decode prog_14_method_57_code 178 = .ok (.ireturn, 1) := by decide +kernel
section RecM
variable {g : q_G} {sz m : Nat} {T : q_T} {I : q_I} {R : q_R} {J : q_J} {S : KA}
theorem relM.leave (h : relM S m T I R) : relM S.leave m T (q_upI (q_upI I m (nI 0) 0) m (nI 13) 0) R := by
  obtain ⟨h1, h2, h3, h4, h5⟩ := h
  have e : ∀ b, b ≠ m → q_upI (q_upI I m (nI 0) 0) m (nI 13) 0 b = I b := fun b hb => by funext i; rw [q_upI_nea hb, q_upI_nea hb]
  refine ⟨h1, ?_, ⟨?_, ?_, ?_, fun z => by cases z⟩, ?_, ?_⟩
  · unfold m_ver
    rw [q_upI_nk (by omega), q_upI_nk (by omega), e (m + 1) (by omega), e (m + 2) (by omega), e (m + 3) (by omega), e (m + 4) (by omega), e (m + 5) (by omega)]
    exact h2
  · rw [q_upI_nk (by omega), q_upI_nk (by omega)]; exact h3.1
  · unfold m_prs k_mp
    rw [e (m + 6) (by omega), e (m + 7) (by omega), e (m + 8) (by omega), e (m + 9) (by omega)]
    exact h3.2.1
  · rw [q_upI_self]; rfl
  · unfold m_row m_kpt
    rw [e (m + 10) (by omega), e (m + 11) (by omega), e (m + 12) (by omega), e (m + 13) (by omega)]
    exact h4
  · rw [q_upI_nk (by omega), q_upI_nk (by omega)]; exact h5
theorem c_Model_leaveS (h : relM S m T I R) : q_Ci g M_Model_leave [.ref m] (sz, T, I, R, J) 0 0 (m_spm m sz T I R J (0, p_b S.op, S.leave)) := by
  refine (c_Model_leave h.1 h.2.2.1.2.2.1).imp fun o h' z => ?_
  obtain ⟨r, e1, rfl, rfl⟩ := z
  refine ⟨_, e1, fun _ => rfl, _, rfl, ?_, fun b hb => ?_, h.leave⟩
  · rw [q_upI_nk (by omega), q_upI_self]
  · funext i; rw [q_upI_nea (by omega), q_upI_nea (by omega)]
theorem c_Model_begin_no (hM : relM S m T I R) {v : Int32} (hb : k_bel S.vs.length v = false) : q_Cv g M_Model_begin [.ref m, .int v] (sz, T, I, R, J) 0 0 (m_spm m sz T I R J (nI 1, 0, S) 0) := by
  have hL := hM.1
  refine q_C.of (ls0 := [some (.ref m), some (.int v)]) (by decide) rfl (by decide) (Nat.le_of_ble_eq_true rfl) rfl ?_
  refine q_aload_n d_Model_begin_0 rfl rfl ?_
  refine q_aload_n d_Model_begin_1 rfl rfl ?_
  refine q_iload_n d_Model_begin_2 rfl rfl ?_
  refine q_callVi (M2 := M_Model_isVersion) d_Model_begin_3 ⟨(Nat.le_of_ble_eq_true rfl), (Nat.le_of_ble_eq_true rfl), w_1281, w_10, ⟨by decide, by decide⟩, show _ = some 1 by decide +kernel⟩ w_1278 w_1280 (ci := 11) rfl s_55 hL.1 rfl (Nat.le_of_ble_eq_true rfl) (by omega) (by omega) (c_Model_isVersion hL hM.2.1.1 v) ?_
  rintro _ _ ⟨rfl, rfl⟩
  rw [hb]
  refine q_if_ne (tgt := 13) d_Model_begin_6 rfl (fun hc => ?_) (fun hc => ?_)
  · exact absurd rfl hc
  refine q_iconst (v := nI 1) d_Model_begin_9 (by decide) ?_
  refine q_goto (tgt := 25) d_Model_begin_10 rfl ?_
  refine q_putI (ci := 11) (fk := 0) d_Model_begin_25 rfl (Nat.le_of_ble_eq_true rfl) w_1104 (Or.inl rfl) (fun _ _ => rfl) rfl rfl hL.1 ?_
  refine q_aload_n d_Model_begin_28 rfl rfl ?_
  refine q_getI (ci := 11) (fk := 0) d_Model_begin_29 rfl (Nat.le_of_ble_eq_true rfl) w_1104 (fun _ _ => rfl) hL.1 ?_
  rw [q_upI_self]
  refine q_if_le (tgt := 36) d_Model_begin_32 rfl (fun hc => ?_) (fun hc => ?_)
  · exact absurd hc (by decide)
  · refine q_vret d_Model_begin_35 rfl (by omega) (by omega) ?_
    exact ⟨rfl, m_no hM (by decide) _⟩
theorem c_Model_begin_no2 (hM : relM S m T I R) {v : Int32} (hb : k_bel S.vs.length v = true) (ho : S.op = true) : q_Cv g M_Model_begin [.ref m, .int v] (sz, T, I, R, J) 0 0 (m_spm m sz T I R J (nI 2, 0, S) 0) := by
  have hL := hM.1
  refine q_C.of (ls0 := [some (.ref m), some (.int v)]) (by decide) rfl (by decide) (Nat.le_of_ble_eq_true rfl) rfl ?_
  refine q_aload_n d_Model_begin_0 rfl rfl ?_
  refine q_aload_n d_Model_begin_1 rfl rfl ?_
  refine q_iload_n d_Model_begin_2 rfl rfl ?_
  refine q_callVi (M2 := M_Model_isVersion) d_Model_begin_3 ⟨(Nat.le_of_ble_eq_true rfl), (Nat.le_of_ble_eq_true rfl), w_1281, w_10, ⟨by decide, by decide⟩, show _ = some 1 by decide +kernel⟩ w_1278 w_1280 (ci := 11) rfl s_55 hL.1 rfl (Nat.le_of_ble_eq_true rfl) (by omega) (by omega) (c_Model_isVersion hL hM.2.1.1 v) ?_
  rintro _ _ ⟨rfl, rfl⟩
  rw [hb]
  refine q_if_ne (tgt := 13) d_Model_begin_6 rfl (fun hc => ?_) (fun hc => ?_)
  rotate_left
  · exact absurd hc (by decide)
  refine q_aload_n d_Model_begin_13 rfl rfl ?_
  refine q_getI (ci := 11) (fk := 13) d_Model_begin_14 rfl (Nat.le_of_ble_eq_true rfl) w_1117 (fun _ _ => rfl) hL.1 ?_
  rw [hM.2.2.1.2.2.1, ho]
  refine q_if_eq (tgt := 24) d_Model_begin_17 rfl (fun hc => ?_) (fun hc => ?_)
  · exact absurd hc (by decide)
  refine q_iconst (v := nI 2) d_Model_begin_20 (by decide) ?_
  refine q_goto (tgt := 25) d_Model_begin_21 rfl ?_
  refine q_putI (ci := 11) (fk := 0) d_Model_begin_25 rfl (Nat.le_of_ble_eq_true rfl) w_1104 (Or.inl rfl) (fun _ _ => rfl) rfl rfl hL.1 ?_
  refine q_aload_n d_Model_begin_28 rfl rfl ?_
  refine q_getI (ci := 11) (fk := 0) d_Model_begin_29 rfl (Nat.le_of_ble_eq_true rfl) w_1104 (fun _ _ => rfl) hL.1 ?_
  rw [q_upI_self]
  refine q_if_le (tgt := 36) d_Model_begin_32 rfl (fun hc => ?_) (fun hc => ?_)
  · exact absurd hc (by decide)
  · refine q_vret d_Model_begin_35 rfl (by omega) (by omega) ?_
    exact ⟨rfl, m_no hM (by decide) _⟩
theorem c_Model_begin (hw : wf S) (hM : relM S m T I R) {v : Nat} {L : List KF} (hv : S.vs[v]? = some L) (ho : S.op = false) : q_Cv g M_Model_begin [.ref m, .int (nI v)] (sz, T, I, R, J) 0 0 (m_spm m sz T I R J (0, 0, S.begin v L) 0) := by
  have hL := hM.1
  have hvl := (List.getElem?_eq_some_iff.mp hv).1
  have hv8 := hw.1.2.1
  have hs16 := hw.2.1.1
  obtain ⟨n, hn⟩ : ∃ n, n = S.ss.length := ⟨_, rfl⟩
  obtain ⟨h1, h2, h3, h4, h5⟩ := hM
  have h8 := h3.1
  rw [← hn] at h8 hs16
  refine q_C.of (ls0 := [some (.ref m), some (.int (nI v))]) (by decide) rfl (by decide) (Nat.le_of_ble_eq_true rfl) rfl ?_
  refine q_aload_n d_Model_begin_0 rfl rfl ?_
  refine q_aload_n d_Model_begin_1 rfl rfl ?_
  refine q_iload_n d_Model_begin_2 rfl rfl ?_
  refine q_callVi (M2 := M_Model_isVersion) d_Model_begin_3 ⟨(Nat.le_of_ble_eq_true rfl), (Nat.le_of_ble_eq_true rfl), w_1281, w_10, ⟨by decide, by decide⟩, show _ = some 1 by decide +kernel⟩ w_1278 w_1280 (ci := 11) rfl s_55 hL.1 rfl (Nat.le_of_ble_eq_true rfl) (by omega) (by omega) (c_Model_isVersion hL h2.1 (nI v)) ?_
  rintro _ _ ⟨rfl, rfl⟩
  rw [k_bel_nI (by omega) hvl]
  refine q_if_ne (tgt := 13) d_Model_begin_6 rfl (fun hc => ?_) (fun hc => ?_)
  rotate_left
  · exact absurd hc (by decide)
  refine q_aload_n d_Model_begin_13 rfl rfl ?_
  refine q_getI (ci := 11) (fk := 13) d_Model_begin_14 rfl (Nat.le_of_ble_eq_true rfl) w_1117 (fun _ _ => rfl) hL.1 ?_
  rw [h3.2.2.1, ho]
  refine q_if_eq (tgt := 24) d_Model_begin_17 rfl (fun hc => ?_) (fun hc => ?_)
  rotate_left
  · exact absurd rfl hc
  refine q_iconst (v := nI 0) d_Model_begin_24 (by decide) ?_
  refine q_putI (ci := 11) (fk := 0) d_Model_begin_25 rfl (Nat.le_of_ble_eq_true rfl) w_1104 (Or.inl rfl) (fun _ _ => rfl) rfl rfl hL.1 ?_
  refine q_aload_n d_Model_begin_28 rfl rfl ?_
  refine q_getI (ci := 11) (fk := 0) d_Model_begin_29 rfl (Nat.le_of_ble_eq_true rfl) w_1104 (fun _ _ => rfl) hL.1 ?_
  rw [q_upI_self]
  refine q_if_le (tgt := 36) d_Model_begin_32 rfl (fun hc => ?_) (fun hc => ?_)
  rotate_left
  · exact absurd (Int32.le_refl _) hc
  refine q_aload_n d_Model_begin_36 rfl rfl ?_
  refine q_iconst (v := nI 1) d_Model_begin_37 (by decide) ?_
  refine q_putI (ci := 11) (fk := 13) d_Model_begin_38 rfl (Nat.le_of_ble_eq_true rfl) w_1117 (Or.inl rfl) (fun _ _ => rfl) (by first | rfl | decide | assumption) (by first | rfl | decide | assumption) hL.1 ?_
  refine q_aload_n d_Model_begin_41 rfl rfl ?_
  refine q_iconst (v := nI 1) d_Model_begin_42 (by decide) ?_
  refine q_putI (ci := 11) (fk := 7) d_Model_begin_43 rfl (Nat.le_of_ble_eq_true rfl) w_1111 (Or.inl rfl) (fun _ _ => rfl) (by first | rfl | decide | assumption) (by first | rfl | decide | assumption) hL.1 ?_
  refine q_aload_n d_Model_begin_46 rfl rfl ?_
  refine q_getR (ci := 11) (fk := 9) d_Model_begin_47 rfl (Nat.le_of_ble_eq_true rfl) w_1113 (fun _ _ => rfl) hL.1 (hL.2 9 _ _ _ rfl).1 ?_
  refine q_aload_n d_Model_begin_50 rfl rfl ?_
  refine q_getI (ci := 11) (fk := 8) d_Model_begin_51 rfl (Nat.le_of_ble_eq_true rfl) w_1112 (fun _ _ => rfl) hL.1 ?_
  rw [q_upI_nk (by omega), q_upI_nk (by omega), q_upI_nk (by omega), h8]
  refine q_iload_n d_Model_begin_54 rfl rfl ?_
  refine q_iast d_Model_begin_55 (hL.2 9 _ _ _ rfl).2 (by first | assumption | exact vp_in_nI (by omega) (by omega)) ?_
  refine q_aload_n d_Model_begin_56 rfl rfl ?_
  refine q_getR (ci := 11) (fk := 11) d_Model_begin_57 rfl (Nat.le_of_ble_eq_true rfl) w_1115 (fun _ _ => rfl) hL.1 (hL.2 11 _ _ _ rfl).1 ?_
  refine q_aload_n d_Model_begin_60 rfl rfl ?_
  refine q_getI (ci := 11) (fk := 8) d_Model_begin_61 rfl (Nat.le_of_ble_eq_true rfl) w_1112 (fun _ _ => rfl) hL.1 ?_
  rw [q_upI_nea (by omega), q_upI_nk (by omega), q_upI_nk (by omega), q_upI_nk (by omega), h8]
  refine q_iconst (v := nI 0) d_Model_begin_64 (by decide) ?_
  refine q_iast d_Model_begin_65 (hL.2 11 _ _ _ rfl).2 (by first | assumption | exact vp_in_nI (by omega) (by omega)) ?_
  refine q_vret d_Model_begin_66 rfl (by omega) (by omega) ?_
  obtain ⟨I1, hI1⟩ : ∃ I1, I1 = q_upI (q_upI (q_upI (q_upI (q_upI I m (nI 0) (nI 0)) m (nI 13) (nI 1)) m (nI 7) (nI 1)) (m + 6) (nI n) (nI v)) (m + 8) (nI n) (nI 0) := ⟨_, rfl⟩
  have e : ∀ b, b ≠ m → b ≠ m + 6 → b ≠ m + 8 → I1 b = I b := fun b b1 b2 b3 => by rw [hI1]; funext i; rw [q_upI_nea b3, q_upI_nea b2, q_upI_nea b1, q_upI_nea b1, q_upI_nea b1]
  rw [← hI1]
  refine ⟨rfl, fun _ => rfl, I1, rfl, ?_, fun b hb => e b (by omega) (by omega) (by omega), h1, ?_, ⟨?_, fun i st hi => ?_, ?_, fun _ => ⟨?_, ?_, fun j p hj => by cases hj⟩⟩, ?_, ?_⟩
  · rw [hI1, q_upI_nea (by omega), q_upI_nea (by omega), q_upI_nk (by omega), q_upI_nk (by omega), q_upI_self]; rfl
  · unfold m_ver
    rw [e (m + 1) (by omega) (by omega) (by omega), e (m + 2) (by omega) (by omega) (by omega), e (m + 3) (by omega) (by omega) (by omega), e (m + 4) (by omega) (by omega) (by omega), e (m + 5) (by omega) (by omega) (by omega)]
    refine ⟨?_, h2.2⟩
    rw [hI1, q_upI_nea (by omega), q_upI_nea (by omega), q_upI_nk (by omega), q_upI_nk (by omega), q_upI_nk (by omega)]
    exact h2.1
  · rw [hI1, q_upI_nea (by omega), q_upI_nea (by omega), q_upI_nk (by omega), q_upI_nk (by omega), q_upI_nk (by omega)]
    exact h3.1
  · have hin := (List.getElem?_eq_some_iff.mp hi).1
    have hin2 : i < n := by rw [hn]; exact hin
    obtain ⟨a1, a2, a3, a4⟩ := h3.2.1 i st hi
    refine ⟨?_, by rw [e (m + 7) (by omega) (by omega) (by omega)]; exact a2, ?_, ?_⟩
    · rw [hI1, q_upI_nea (by omega), q_upI_nk (by omega), q_upI_nea (by omega), q_upI_nea (by omega), q_upI_nea (by omega)]
      exact a1
    · rw [hI1, q_upI_nk (by omega), q_upI_nea (by omega), q_upI_nea (by omega), q_upI_nea (by omega), q_upI_nea (by omega)]
      exact a3
    · unfold k_mp
      rw [e (m + 9) (by omega) (by omega) (by omega)]
      exact a4
  · rw [hI1, q_upI_nea (by omega), q_upI_nea (by omega), q_upI_nk (by omega), q_upI_self]; rfl
  · show I1 (m + 6) (nI S.ss.length) = nI v
    rw [← hn, hI1, q_upI_nea (by omega), q_upI_self]
  · show I1 (m + 8) (nI S.ss.length) = nI 0
    rw [← hn, hI1, q_upI_self]
  · unfold m_row m_kpt
    rw [e (m + 10) (by omega) (by omega) (by omega), e (m + 11) (by omega) (by omega) (by omega), e (m + 12) (by omega) (by omega) (by omega), e (m + 13) (by omega) (by omega) (by omega)]
    exact h4
  · rw [hI1, q_upI_nea (by omega), q_upI_nea (by omega), q_upI_self]; rfl
theorem relM.setB {I' : q_I} (h : relM S m T I R) (hI : ∀ b, b ≠ m → I' b = I b) (h1 : I' m (nI 1) = I m (nI 1)) (h8 : I' m (nI 8) = I m (nI 8)) (h13 : I' m (nI 13) = I m (nI 13)) (h7 : I' m (nI 7) = nI 1) : relM S.setB m T I' R := by
  obtain ⟨g1, g2, g3, g4, g5⟩ := h
  refine ⟨g1, ?_, ?_, ?_, h7⟩
  · unfold m_ver
    rw [h1, hI (m + 1) (by omega), hI (m + 2) (by omega), hI (m + 3) (by omega), hI (m + 4) (by omega), hI (m + 5) (by omega)]
    exact g2
  · unfold m_stp m_prs k_mp
    rw [h8, h13, hI (m + 6) (by omega), hI (m + 7) (by omega), hI (m + 8) (by omega), hI (m + 9) (by omega)]
    exact g3
  · unfold m_row m_kpt
    rw [hI (m + 10) (by omega), hI (m + 11) (by omega), hI (m + 12) (by omega), hI (m + 13) (by omega)]
    exact g4
theorem c_Model_record_no (hw : wf S) (hM : relM S m T I R) {v : Int32} (hb : k_bel S.vs.length v = false) : q_Ci g M_Model_record [.ref m, .int v] (sz, T, I, R, J) 0 0 (m_spm m sz T I R J (nI 1, 0, S)) := by
  have hL := hM.1
  refine q_C.of (ls0 := [some (.ref m), some (.int v), none, none]) (by decide) rfl (by decide) (Nat.le_of_ble_eq_true rfl) rfl ?_
  refine q_aload_n d_Model_record_0 rfl rfl ?_
  refine q_callVi (M2 := M_Model_free) d_Model_record_1 ⟨(Nat.le_of_ble_eq_true rfl), (Nat.le_of_ble_eq_true rfl), w_1409, w_10, ⟨by decide, by decide⟩, show _ = some 0 by decide +kernel⟩ w_1406 w_1408 (ci := 11) rfl s_73 hL.1 rfl (Nat.le_of_ble_eq_true rfl) (by omega) (by omega) (c_Model_free hL (hM.mh hw)) ?_
  rintro _ _ ⟨rfl, rfl⟩
  refine q_istore_n d_Model_record_4 rfl (Nat.le_of_ble_eq_true rfl) (by first | exact q_ok0 | exact q_okI rfl | exact q_okR rfl | exact q_okN rfl) rfl ?_
  refine q_aload_n d_Model_record_5 rfl rfl ?_
  refine q_aload_n d_Model_record_6 rfl rfl ?_
  refine q_iload_n d_Model_record_7 rfl rfl ?_
  refine q_callVi (M2 := M_Model_isVersion) d_Model_record_8 ⟨(Nat.le_of_ble_eq_true rfl), (Nat.le_of_ble_eq_true rfl), w_1281, w_10, ⟨by decide, by decide⟩, show _ = some 1 by decide +kernel⟩ w_1278 w_1280 (ci := 11) rfl s_55 hL.1 rfl (Nat.le_of_ble_eq_true rfl) (by omega) (by omega) (c_Model_isVersion hL hM.2.1.1 v) ?_
  rintro _ _ ⟨rfl, rfl⟩
  rw [hb]
  refine q_if_ne (tgt := 18) d_Model_record_11 rfl (fun hc => ?_) (fun hc => ?_)
  · exact absurd rfl hc
  refine q_iconst (v := nI 1) d_Model_record_14 (by decide) ?_
  refine q_goto (tgt := 27) d_Model_record_15 rfl ?_
  refine q_putI (ci := 11) (fk := 0) d_Model_record_27 rfl (Nat.le_of_ble_eq_true rfl) w_1104 (Or.inl rfl) (fun _ _ => rfl) rfl rfl hL.1 ?_
  refine q_aload_n d_Model_record_30 rfl rfl ?_
  refine q_getI (ci := 11) (fk := 0) d_Model_record_31 rfl (Nat.le_of_ble_eq_true rfl) w_1104 (fun _ _ => rfl) hL.1 ?_
  rw [q_upI_self]
  refine q_if_le (tgt := 39) d_Model_record_34 rfl (fun hc => ?_) (fun hc => ?_)
  · exact absurd hc (by decide)
  · refine q_iconst (v := nI 0) d_Model_record_37 (by decide) ?_
    refine q_iret d_Model_record_38 rfl (by omega) (by omega) ?_
    exact ⟨_, rfl, m_no hM (by decide) _⟩
theorem c_Model_record_no2 (hw : wf S) (hM : relM S m T I R) {v : Int32} (hb : k_bel S.vs.length v = true) (hf : k_fr S.lv 0 16 = none) : q_Ci g M_Model_record [.ref m, .int v] (sz, T, I, R, J) 0 0 (m_spm m sz T I R J (nI 2, 0, S)) := by
  have hL := hM.1
  refine q_C.of (ls0 := [some (.ref m), some (.int v), none, none]) (by decide) rfl (by decide) (Nat.le_of_ble_eq_true rfl) rfl ?_
  refine q_aload_n d_Model_record_0 rfl rfl ?_
  refine q_callVi (M2 := M_Model_free) d_Model_record_1 ⟨(Nat.le_of_ble_eq_true rfl), (Nat.le_of_ble_eq_true rfl), w_1409, w_10, ⟨by decide, by decide⟩, show _ = some 0 by decide +kernel⟩ w_1406 w_1408 (ci := 11) rfl s_73 hL.1 rfl (Nat.le_of_ble_eq_true rfl) (by omega) (by omega) (c_Model_free hL (hM.mh hw)) ?_
  rintro _ _ ⟨rfl, rfl⟩
  rw [hf]
  refine q_istore_n d_Model_record_4 rfl (Nat.le_of_ble_eq_true rfl) (by first | exact q_ok0 | exact q_okI rfl | exact q_okR rfl | exact q_okN rfl) rfl ?_
  refine q_aload_n d_Model_record_5 rfl rfl ?_
  refine q_aload_n d_Model_record_6 rfl rfl ?_
  refine q_iload_n d_Model_record_7 rfl rfl ?_
  refine q_callVi (M2 := M_Model_isVersion) d_Model_record_8 ⟨(Nat.le_of_ble_eq_true rfl), (Nat.le_of_ble_eq_true rfl), w_1281, w_10, ⟨by decide, by decide⟩, show _ = some 1 by decide +kernel⟩ w_1278 w_1280 (ci := 11) rfl s_55 hL.1 rfl (Nat.le_of_ble_eq_true rfl) (by omega) (by omega) (c_Model_isVersion hL hM.2.1.1 v) ?_
  rintro _ _ ⟨rfl, rfl⟩
  rw [hb]
  refine q_if_ne (tgt := 18) d_Model_record_11 rfl (fun hc => ?_) (fun hc => ?_)
  rotate_left
  · exact absurd hc (by decide)
  refine q_iload_n d_Model_record_18 rfl rfl ?_
  refine q_if_ge (tgt := 26) d_Model_record_19 rfl (fun hc => ?_) (fun hc => ?_)
  · exact absurd (show (0 : Int32) ≤ -1 from hc) (by decide)
  refine q_iconst (v := nI 2) d_Model_record_22 (by decide) ?_
  refine q_goto (tgt := 27) d_Model_record_23 rfl ?_
  refine q_putI (ci := 11) (fk := 0) d_Model_record_27 rfl (Nat.le_of_ble_eq_true rfl) w_1104 (Or.inl rfl) (fun _ _ => rfl) rfl rfl hL.1 ?_
  refine q_aload_n d_Model_record_30 rfl rfl ?_
  refine q_getI (ci := 11) (fk := 0) d_Model_record_31 rfl (Nat.le_of_ble_eq_true rfl) w_1104 (fun _ _ => rfl) hL.1 ?_
  rw [q_upI_self]
  refine q_if_le (tgt := 39) d_Model_record_34 rfl (fun hc => ?_) (fun hc => ?_)
  · exact absurd hc (by decide)
  · refine q_iconst (v := nI 0) d_Model_record_37 (by decide) ?_
    refine q_iret d_Model_record_38 rfl (by omega) (by omega) ?_
    exact ⟨_, rfl, m_no hM (by decide) _⟩
set_option maxHeartbeats 1000000 in
theorem c_Model_record (hw : wf S) (hM : relM S m T I R) {v h : Nat} {L : List KF} (hv : S.vs[v]? = some L) (hf : k_fr S.lv 0 16 = some h) : q_Ci g M_Model_record [.ref m, .int (nI v)] (sz, T, I, R, J) 0 0 (m_spm m sz T I R J (0, nI h, S.setB.setR h (some (a_new v L)))) := by
  have hL := hM.1
  have hvl := (List.getElem?_eq_some_iff.mp hv).1
  have hv8 := hw.1.2.1
  have hwf := hw.1.2.2 L (List.mem_of_getElem? hv)
  have h24 := hwf.1.1
  obtain ⟨f1, f2, f3⟩ := k_fr_some hf
  have t11 := (hL.2 15 _ _ _ rfl).2
  have t18 := (hL.2 23 _ _ _ rfl).2
  obtain ⟨I1, hI1⟩ : ∃ I1, I1 = q_upI (q_upI (q_upI I m (nI 0) (nI 0)) m (nI 7) (nI 1)) m (nI 27) (nI 0) := ⟨_, rfl⟩
  have hM1 : relM S.setB m T I1 R := by
    rw [hI1]
    exact hM.setB (fun b hb => by funext i; rw [q_upI_nea hb, q_upI_nea hb, q_upI_nea hb]) (by rw [q_upI_nk (by omega), q_upI_nk (by omega), q_upI_nk (by omega)]) (by rw [q_upI_nk (by omega), q_upI_nk (by omega), q_upI_nk (by omega)]) (by rw [q_upI_nk (by omega), q_upI_nk (by omega), q_upI_nk (by omega)]) (by rw [q_upI_nk (by omega), q_upI_self])
  have o1 : ∀ b, b < m ∨ m + 30 ≤ b → I1 b = I b := fun b hb => by rw [hI1]; funext i; rw [q_upI_nea (by omega), q_upI_nea (by omega), q_upI_nea (by omega)]
  have z1 : I1 m (nI 0) = 0 := by rw [hI1, q_upI_nk (by omega), q_upI_nk (by omega), q_upI_self]; rfl
  have fin : ∀ (j k : Nat) (I3 I4 : q_I) (mcc msc : Nat), mcc = 0 → msc = 0 → k + j = 128 → m_p9 m I1 I3 → I3 m (nI 0) = 0 → I3 (m + 10) (nI h) = nI v → (∀ q u, (a_new v L).val[q]? = some u → k_rw (I3 (m + 11)) (7 * (24 * h + q)) u) → (∀ q, q < 16 → q ≠ h → I3 (m + 10) (nI q) = I (m + 10) (nI q)) → (∀ q, q < 2 ^ 31 → q < 168 * h ∨ 168 * h + 168 ≤ q → I3 (m + 11) (nI q) = I (m + 11) (nI q)) → I3 (m + 12) = I (m + 12) → I3 (m + 13) = I (m + 13) →
      (∀ b, b ≠ m + 12 → I4 b = I3 b) → (∀ q, q < k → I4 (m + 12) (nI (128 * h + q)) = 0) → (∀ q, q < 2 ^ 31 → q < 128 * h ∨ 128 * h + 128 ≤ q → I4 (m + 12) (nI q) = I (m + 12) (nI q)) → q_V g M_Model_record 0 0 mcc msc (sz, T, I4, R, J) (fun o h' => ∃ r : Int32, o = .inl (some (.int r)) ∧ m_spm m sz T I R J (0, nI h, S.setB.setR h (some (a_new v L))) r h') 103 [some (.ref m), some (.int (nI v)), some (.int (nI h)), some (.int (nI k))] [] := by
    intro j
    induction j with
    | zero =>
      intro k I3 I4 mcc msc m1 m2 hk p1 p2 p3 p4 p5 p6 p7 p8 p9 p10 p11
      subst m1 m2
      obtain rfl : k = 128 := by omega
      refine q_iload_n d_Model_record_103 rfl rfl ?_
      refine q_sipush (v := nI 128) d_Model_record_104 (by decide) ?_
      refine q_icmp_ge (tgt := 129) d_Model_record_107 rfl (fun hc => ?_) (fun hc => ?_)
      · refine q_iload_n d_Model_record_129 rfl rfl ?_
        refine q_iret d_Model_record_130 rfl (by omega) (by omega) ?_
        refine ⟨_, rfl, fun _ => rfl, I4, rfl, by rw [p9 m (by omega)]; exact p2, fun b hb => by rw [p9 b (by omega), p1.1 b hb]; exact o1 b hb, hM1.row ⟨fun b hb => by rw [p9 b (by omega)]; exact p1.1 b hb, fun j j1 j2 => by rw [p9 (m + j) (by omega)]; exact p1.2.1 j j1 j2, by rw [p9 m (by omega)]; exact p1.2.2.1, by rw [p9 m (by omega)]; exact p1.2.2.2.1, by rw [p9 m (by omega)]; exact p1.2.2.2.2.1, by rw [p9 m (by omega)]; exact p1.2.2.2.2.2⟩ (fun z => by cases z) (fun c hc => ?_) (fun q hq hne => ⟨?_, fun j j1 j2 => ?_, fun j j1 j2 => ?_, fun j j1 j2 => ?_⟩) (fun q c hq hc => hw.v24 hq hc)⟩
        · cases hc
          rw [p9 (m + 10) (by omega), p9 (m + 11) (by omega)]
          exact ⟨p3, p4, fun k hk => ⟨p10 k hk, fun z => absurd rfl z, fun z => absurd z (by show ¬ 2 ≤ 0; omega)⟩⟩
        · rw [p9 (m + 10) (by omega), p5 q hq hne, hI1]
          simp (disch := omega) only [q_upI_nea, q_upI_self, q_upI_nk]
        · rw [p9 (m + 11) (by omega), p6 j (by omega) (by omega), hI1]
          simp (disch := omega) only [q_upI_nea, q_upI_self, q_upI_nk]
        · rw [p11 j (by omega) (by omega), hI1]
          simp (disch := omega) only [q_upI_nea, q_upI_self, q_upI_nk]
        · rw [p9 (m + 13) (by omega), p8, hI1]
          simp (disch := omega) only [q_upI_nea, q_upI_self, q_upI_nk]
      · exact absurd (Int32.le_refl _) hc
    | succ j ih =>
      intro k I3 I4 mcc msc m1 m2 hk p1 p2 p3 p4 p5 p6 p7 p8 p9 p10 p11
      subst m1 m2
      refine q_iload_n d_Model_record_103 rfl rfl ?_
      refine q_sipush (v := nI 128) d_Model_record_104 (by decide) ?_
      refine q_icmp_ge (tgt := 129) d_Model_record_107 rfl (fun hc => ?_) (fun hc => ?_)
      · rw [nI_leI (by omega) (by omega)] at hc
        omega
      · refine q_aload_n d_Model_record_110 rfl rfl ?_
        refine q_getR (ci := 11) (fk := 16) d_Model_record_111 rfl (Nat.le_of_ble_eq_true rfl) w_1120 (fun _ _ => rfl) hL.1 (hL.2 16 _ _ _ rfl).1 ?_
        refine q_sipush (v := nI 128) d_Model_record_114 (by decide) ?_
        refine q_iload_n d_Model_record_117 rfl rfl ?_
        first | refine q_imulN d_Model_record_118 ?_ | refine q_imul d_Model_record_118 ?_
        refine q_iload_n d_Model_record_119 rfl rfl ?_
        first | refine q_iaddN d_Model_record_120 ?_ | refine q_iadd d_Model_record_120 ?_
        refine q_iconst (v := nI 0) d_Model_record_121 (by decide) ?_
        refine q_iast d_Model_record_122 (hL.2 16 _ _ _ rfl).2 (by first | assumption | exact vp_in_nI (by omega) (by omega)) ?_
        first | refine q_iincN d_Model_record_123 rfl (Nat.le_of_ble_eq_true rfl) (by first | exact q_ok0 | exact q_okI rfl | exact q_okR rfl | exact q_okN rfl) rfl ?_ | refine q_iinc d_Model_record_123 rfl rfl (Nat.le_of_ble_eq_true rfl) (by first | exact q_ok0 | exact q_okI rfl | exact q_okR rfl | exact q_okN rfl) rfl ?_
        refine q_goto (tgt := 103) d_Model_record_126 rfl ?_
        refine ih (k + 1) I3 _ _ _ rfl rfl (by omega) p1 p2 p3 p4 p5 p6 p7 p8 (fun b hb => by funext q; rw [q_upI_nea hb, p9 b hb]) (fun q hq => ?_) (fun q hq hq2 => ?_)
        · by_cases hqk : q = k
          · rw [hqk, q_upI_self]; rfl
          · rw [q_upI_nk (by omega)]; exact p10 q (by omega)
        · rw [q_upI_nk (by omega)]; exact p11 q hq hq2
  have loop : ∀ (j k : Nat) (I2 I3 : q_I) (mcc msc : Nat), mcc = 0 → msc = 0 → k + j = L.length → m_ps m I1 I2 → I2 m (nI 0) = 0 → I2 m (nI 18) = nI L.length → (∀ q f, L[q]? = some f → k_rw (I2 (m + 18)) (7 * q) (k_dfl f.2.1 f.2.2.1 f.2.2.2.1)) → (∀ b, b ≠ m + 10 → b ≠ m + 11 → I3 b = I2 b) → I3 (m + 10) (nI h) = nI v → (∀ q, q < 16 → q ≠ h → I3 (m + 10) (nI q) = I (m + 10) (nI q)) → (∀ q u, q < k → (a_new v L).val[q]? = some u → k_rw (I3 (m + 11)) (7 * (24 * h + q)) u) → (∀ q, q < 2 ^ 31 → q < 168 * h ∨ 168 * h + 168 ≤ q → I3 (m + 11) (nI q) = I (m + 11) (nI q)) → q_V g M_Model_record 0 0 mcc msc (sz, T, I3, R, J) (fun o h' => ∃ r : Int32, o = .inl (some (.int r)) ∧ m_spm m sz T I R J (0, nI h, S.setB.setR h (some (a_new v L))) r h') 63 [some (.ref m), some (.int (nI v)), some (.int (nI h)), some (.int (nI k))] [] := by
    intro j
    induction j with
    | zero =>
      intro k I2 I3 mcc msc m1 m2 hk p1 p2 p3 p4 p5 p6 p7 p8 p9
      subst m1 m2
      refine q_iload_n d_Model_record_63 rfl rfl ?_
      refine q_aload_n d_Model_record_64 rfl rfl ?_
      refine q_getI (ci := 11) (fk := 18) d_Model_record_65 rfl (Nat.le_of_ble_eq_true rfl) w_1122 (fun _ _ => rfl) hL.1 ?_
      rw [p5 m (by omega) (by omega), p3]
      refine q_icmp_ge (tgt := 101) d_Model_record_68 rfl (fun hc => ?_) (fun hc => ?_)
      · refine q_iconst (v := nI 0) d_Model_record_101 (by decide) ?_
        refine q_istore_n d_Model_record_102 rfl (Nat.le_of_ble_eq_true rfl) (by first | exact q_ok0 | exact q_okI rfl | exact q_okR rfl | exact q_okN rfl) rfl ?_
        have i12 : I3 (m + 12) = I (m + 12) := by rw [p5 (m + 12) (by omega) (by omega), p1.2 12 (by omega) (by omega), hI1]; funext q; rw [q_upI_nea (by omega), q_upI_nea (by omega), q_upI_nea (by omega)]
        have i13 : I3 (m + 13) = I (m + 13) := by rw [p5 (m + 13) (by omega) (by omega), p1.2 13 (by omega) (by omega), hI1]; funext q; rw [q_upI_nea (by omega), q_upI_nea (by omega), q_upI_nea (by omega)]
        refine fin 128 0 I3 I3 _ _ rfl rfl rfl ⟨fun b hb => by rw [p5 b (by omega) (by omega)]; exact p1.1.1 b hb, fun j j1 j2 => by rw [p5 (m + j) (by omega) (by omega)]; exact p1.1.2.1 j j1 j2, by rw [p5 m (by omega) (by omega)]; exact p1.1.2.2.1, by rw [p5 m (by omega) (by omega)]; exact p1.1.2.2.2.1, by rw [p5 m (by omega) (by omega)]; exact p1.1.2.2.2.2.1, by rw [p5 m (by omega) (by omega)]; exact p1.1.2.2.2.2.2⟩ (by rw [p5 m (by omega) (by omega)]; exact p2) p6 (fun q u hu => p8 q u ?_ hu) p7 p9 i12 i13 (fun b hb => rfl) (fun q hq => absurd hq (Nat.not_lt_zero _)) (fun q hq hq2 => by rw [i12])
        have := (List.getElem?_eq_some_iff.mp hu).1
        have e : (a_new v L).val.length = L.length := List.length_map _
        omega
      · exact absurd (by rw [nI_leI (by omega) (by omega)]; omega) hc
    | succ j ih =>
      intro k I2 I3 mcc msc m1 m2 hk p1 p2 p3 p4 p5 p6 p7 p8 p9
      subst m1 m2
      obtain ⟨f, hfk⟩ : ∃ f, L[k]? = some f := ⟨_, List.getElem?_eq_getElem (by omega)⟩
      refine q_iload_n d_Model_record_63 rfl rfl ?_
      refine q_aload_n d_Model_record_64 rfl rfl ?_
      refine q_getI (ci := 11) (fk := 18) d_Model_record_65 rfl (Nat.le_of_ble_eq_true rfl) w_1122 (fun _ _ => rfl) hL.1 ?_
      rw [p5 m (by omega) (by omega), p3]
      refine q_icmp_ge (tgt := 101) d_Model_record_68 rfl (fun hc => ?_) (fun hc => ?_)
      · rw [nI_leI (by omega) (by omega)] at hc
        omega
      · refine q_aload_n d_Model_record_71 rfl rfl ?_
        refine q_getR (ci := 11) (fk := 23) d_Model_record_72 rfl (Nat.le_of_ble_eq_true rfl) w_1127 (fun _ _ => rfl) hL.1 (hL.2 23 _ _ _ rfl).1 ?_
        refine q_bipush (v := nI 7) d_Model_record_75 (by decide) ?_
        refine q_iload_n d_Model_record_77 rfl rfl ?_
        first | refine q_imulN d_Model_record_78 ?_ | refine q_imul d_Model_record_78 ?_
        refine q_aload_n d_Model_record_79 rfl rfl ?_
        refine q_getR (ci := 11) (fk := 15) d_Model_record_80 rfl (Nat.le_of_ble_eq_true rfl) w_1119 (fun _ _ => rfl) hL.1 (hL.2 15 _ _ _ rfl).1 ?_
        refine q_bipush (v := nI 7) d_Model_record_83 (by decide) ?_
        refine q_bipush (v := nI 24) d_Model_record_85 (by decide) ?_
        refine q_iload_n d_Model_record_87 rfl rfl ?_
        first | refine q_imulN d_Model_record_88 ?_ | refine q_imul d_Model_record_88 ?_
        refine q_iload_n d_Model_record_89 rfl rfl ?_
        first | refine q_iaddN d_Model_record_90 ?_ | refine q_iadd d_Model_record_90 ?_
        first | refine q_imulN d_Model_record_91 ?_ | refine q_imul d_Model_record_91 ?_
        refine q_callSv (M2 := M_Model_copyRow) d_Model_record_92 ⟨(Nat.le_of_ble_eq_true rfl), (Nat.le_of_ble_eq_true rfl), w_1321, w_10, ⟨by decide, by decide⟩, show _ = some 4 by decide +kernel⟩ w_1319 w_1320 rfl (Nat.le_of_ble_eq_true rfl) (by omega) (by omega) (c_Model_copyRow t18 t11 (by decide) (by decide) (by omega) (by omega) (Or.inl (by omega))) ?_
        rintro _ ⟨I4, rfl, c1, c2, c3⟩
        have hcp : k_cp I3 (m + 18) (7 * k) (m + 11) (7 * (24 * h + k)) I4 := ⟨c1, c2, c3⟩
        first | refine q_iincN d_Model_record_95 rfl (Nat.le_of_ble_eq_true rfl) (by first | exact q_ok0 | exact q_okI rfl | exact q_okR rfl | exact q_okN rfl) rfl ?_ | refine q_iinc d_Model_record_95 rfl rfl (Nat.le_of_ble_eq_true rfl) (by first | exact q_ok0 | exact q_okI rfl | exact q_okR rfl | exact q_okN rfl) rfl ?_
        refine q_goto (tgt := 63) d_Model_record_98 rfl ?_
        refine ih (k + 1) I2 I4 _ _ rfl rfl (by omega) p1 p2 p3 p4 (fun b b1 b2 => by rw [c1 b b2, p5 b b1 b2]) (by rw [c1 (m + 10) (by omega)]; exact p6) (fun q hq hne => by rw [c1 (m + 10) (by omega)]; exact p7 q hq hne) (fun q u hq hu => ?_) (fun q hq hq2 => by rw [c3 q hq (by omega)]; exact p9 q hq hq2)
        by_cases hqk : q = k
        · subst hqk
          have hu2 : (L.map (fun f => k_dfl f.2.1 f.2.2.1 f.2.2.2.1))[q]? = some u := hu
          rw [List.getElem?_map, hfk] at hu2
          cases hu2
          refine hcp.rw ?_
          rw [p5 (m + 18) (by omega) (by omega)]
          exact p4 q f hfk
        · refine (p8 q u (by omega) hu).cong (fun a a1 a2 => c3 a (by omega) (by omega))
  refine q_C.of (ls0 := [some (.ref m), some (.int (nI v)), none, none]) (by decide) rfl (by decide) (Nat.le_of_ble_eq_true rfl) rfl ?_
  refine q_aload_n d_Model_record_0 rfl rfl ?_
  refine q_callVi (M2 := M_Model_free) d_Model_record_1 ⟨(Nat.le_of_ble_eq_true rfl), (Nat.le_of_ble_eq_true rfl), w_1409, w_10, ⟨by decide, by decide⟩, show _ = some 0 by decide +kernel⟩ w_1406 w_1408 (ci := 11) rfl s_73 hL.1 rfl (Nat.le_of_ble_eq_true rfl) (by omega) (by omega) (c_Model_free hL (hM.mh hw)) ?_
  rintro _ _ ⟨rfl, rfl⟩
  rw [hf, show p_idx (some h) = nI h from rfl]
  refine q_istore_n d_Model_record_4 rfl (Nat.le_of_ble_eq_true rfl) (by first | exact q_ok0 | exact q_okI rfl | exact q_okR rfl | exact q_okN rfl) rfl ?_
  refine q_aload_n d_Model_record_5 rfl rfl ?_
  refine q_aload_n d_Model_record_6 rfl rfl ?_
  refine q_iload_n d_Model_record_7 rfl rfl ?_
  refine q_callVi (M2 := M_Model_isVersion) d_Model_record_8 ⟨(Nat.le_of_ble_eq_true rfl), (Nat.le_of_ble_eq_true rfl), w_1281, w_10, ⟨by decide, by decide⟩, show _ = some 1 by decide +kernel⟩ w_1278 w_1280 (ci := 11) rfl s_55 hL.1 rfl (Nat.le_of_ble_eq_true rfl) (by omega) (by omega) (c_Model_isVersion hL hM.2.1.1 _) ?_
  rintro _ _ ⟨rfl, rfl⟩
  rw [k_bel_nI (by omega) hvl]
  refine q_if_ne (tgt := 18) d_Model_record_11 rfl (fun hc => ?_) (fun hc => ?_)
  rotate_left
  · exact absurd hc (by decide)
  refine q_iload_n d_Model_record_18 rfl rfl ?_
  refine q_if_ge (tgt := 26) d_Model_record_19 rfl (fun hc => ?_) (fun hc => ?_)
  rotate_left
  · exact absurd (nI_pos' (by omega)) hc
  refine q_iconst (v := nI 0) d_Model_record_26 (by decide) ?_
  refine q_putI (ci := 11) (fk := 0) d_Model_record_27 rfl (Nat.le_of_ble_eq_true rfl) w_1104 (Or.inl rfl) (fun _ _ => rfl) rfl rfl hL.1 ?_
  refine q_aload_n d_Model_record_30 rfl rfl ?_
  refine q_getI (ci := 11) (fk := 0) d_Model_record_31 rfl (Nat.le_of_ble_eq_true rfl) w_1104 (fun _ _ => rfl) hL.1 ?_
  rw [q_upI_self]
  refine q_if_le (tgt := 39) d_Model_record_34 rfl (fun hc => ?_) (fun hc => ?_)
  rotate_left
  · exact absurd (Int32.le_refl _) hc
  refine q_aload_n d_Model_record_39 rfl rfl ?_
  refine q_iconst (v := nI 1) d_Model_record_40 (by decide) ?_
  refine q_putI (ci := 11) (fk := 7) d_Model_record_41 rfl (Nat.le_of_ble_eq_true rfl) w_1111 (Or.inl rfl) (fun _ _ => rfl) (by first | rfl | decide | assumption) (by first | rfl | decide | assumption) hL.1 ?_
  refine q_aload_n d_Model_record_44 rfl rfl ?_
  refine q_iconst (v := nI 0) d_Model_record_45 (by decide) ?_
  refine q_putI (ci := 11) (fk := 27) d_Model_record_46 rfl (Nat.le_of_ble_eq_true rfl) w_1131 (Or.inl rfl) (fun _ _ => rfl) rfl rfl hL.1 ?_
  refine q_aload_n d_Model_record_49 rfl rfl ?_
  refine q_iload_n d_Model_record_50 rfl rfl ?_
  rw [← hI1]
  refine q_callVv (M2 := M_Model_take) d_Model_record_51 ⟨(Nat.le_of_ble_eq_true rfl), (Nat.le_of_ble_eq_true rfl), w_1233, w_10, ⟨by decide, by decide⟩, show _ = some 1 by decide +kernel⟩ w_1230 w_1232 (ci := 11) rfl s_47 hL.1 rfl (Nat.le_of_ble_eq_true rfl) (by omega) (by omega) (c_Model_take0 hL (hM1.vl hv) (by omega) h24 (by rw [hI1, q_upI_self]; decide)) ?_
  rintro _ ⟨I2, rfl, k1, k2, k3⟩
  refine q_aload_n d_Model_record_54 rfl rfl ?_
  refine q_getR (ci := 11) (fk := 14) d_Model_record_55 rfl (Nat.le_of_ble_eq_true rfl) w_1118 (fun _ _ => rfl) hL.1 (hL.2 14 _ _ _ rfl).1 ?_
  refine q_iload_n d_Model_record_58 rfl rfl ?_
  refine q_iload_n d_Model_record_59 rfl rfl ?_
  refine q_iast d_Model_record_60 (hL.2 14 _ _ _ rfl).2 (by first | assumption | exact vp_in_nI (by omega) (by omega)) ?_
  refine q_iconst (v := nI 0) d_Model_record_61 (by decide) ?_
  refine q_istore_n d_Model_record_62 rfl (Nat.le_of_ble_eq_true rfl) (by first | exact q_ok0 | exact q_okI rfl | exact q_okR rfl | exact q_okN rfl) rfl ?_
  have kps := k1.ps
  refine loop L.length 0 I2 _ _ _ rfl rfl (by omega) kps (by rw [k1.2 _ (fun z => absurd (q_nI_inj z) (by decide))]; exact z1) k2.1 k3 (fun b b1 b2 => by funext q; rw [q_upI_nea b1]) q_upI_self (fun q hq hne => ?_) (fun q u hq => absurd hq (Nat.not_lt_zero _)) (fun q hq hq2 => ?_)
  · rw [q_upI_nk (by omega), kps.2 10 (by omega) (by omega), hI1]
    simp (disch := omega) only [q_upI_nea, q_upI_self, q_upI_nk]
  · rw [q_upI_nea (by omega), kps.2 11 (by omega) (by omega), hI1]
    simp (disch := omega) only [q_upI_nea, q_upI_self, q_upI_nk]
end RecM
