/-! about, both sides -/
abbrev M_Lens_about : q_M := (⟨"LensPaths", "about", "(III)I"⟩, prog_1_method_7_code, 8, (some .int), "LensPaths", [], false, 7, 111)
theorem d_Lens_about_0 : decode prog_1_method_7_code 0 = .ok (.aload_n 0, 1) := by decide +kernel
theorem d_Lens_about_1 : decode prog_1_method_7_code 1 = .ok (.iload_n 1, 1) := by decide +kernel
theorem d_Lens_about_2 : decode prog_1_method_7_code 2 = .ok (.invokevirtual 86, 3) := by decide +kernel
theorem d_Lens_about_5 : decode prog_1_method_7_code 5 = .ok (.iload_n 3, 1) := by decide +kernel
theorem d_Lens_about_6 : decode prog_1_method_7_code 6 = .ok (.ifCond .lt 8, 3) := by decide +kernel
theorem d_Lens_about_9 : decode prog_1_method_7_code 9 = .ok (.iload_n 3, 1) := by decide +kernel
theorem d_Lens_about_10 : decode prog_1_method_7_code 10 = .ok (.iconst 3, 1) := by decide +kernel
theorem d_Lens_about_11 : decode prog_1_method_7_code 11 = .ok (.if_icmp .le 11, 3) := by decide +kernel
theorem d_Lens_about_14 : decode prog_1_method_7_code 14 = .ok (.new 79, 3) := by decide +kernel
theorem d_Lens_about_17 : decode prog_1_method_7_code 17 = .ok (.dup, 1) := by decide +kernel
theorem d_Lens_about_18 : decode prog_1_method_7_code 18 = .ok (.invokespecial 81, 3) := by decide +kernel
theorem d_Lens_about_21 : decode prog_1_method_7_code 21 = .ok (.athrow, 1) := by decide +kernel
theorem d_Lens_about_22 : decode prog_1_method_7_code 22 = .ok (.aload_n 0, 1) := by decide +kernel
theorem d_Lens_about_23 : decode prog_1_method_7_code 23 = .ok (.getfield 12, 3) := by decide +kernel
theorem d_Lens_about_26 : decode prog_1_method_7_code 26 = .ok (.getfield 48, 3) := by decide +kernel
theorem d_Lens_about_29 : decode prog_1_method_7_code 29 = .ok (.iload_n 1, 1) := by decide +kernel
theorem d_Lens_about_30 : decode prog_1_method_7_code 30 = .ok (.aaload, 1) := by decide +kernel
theorem d_Lens_about_31 : decode prog_1_method_7_code 31 = .ok (.astore 4, 2) := by decide +kernel
theorem d_Lens_about_33 : decode prog_1_method_7_code 33 = .ok (.iload_n 2, 1) := by decide +kernel
theorem d_Lens_about_34 : decode prog_1_method_7_code 34 = .ok (.invokestatic 65, 3) := by decide +kernel
theorem d_Lens_about_37 : decode prog_1_method_7_code 37 = .ok (.istore 5, 2) := by decide +kernel
theorem d_Lens_about_39 : decode prog_1_method_7_code 39 = .ok (.iload_n 3, 1) := by decide +kernel
theorem d_Lens_about_40 : decode prog_1_method_7_code 40 = .ok (.iconst 3, 1) := by decide +kernel
theorem d_Lens_about_41 : decode prog_1_method_7_code 41 = .ok (.if_icmp .ne 11, 3) := by decide +kernel
theorem d_Lens_about_44 : decode prog_1_method_7_code 44 = .ok (.aload 4, 2) := by decide +kernel
theorem d_Lens_about_46 : decode prog_1_method_7_code 46 = .ok (.iload 5, 2) := by decide +kernel
theorem d_Lens_about_48 : decode prog_1_method_7_code 48 = .ok (.invokevirtual 128, 3) := by decide +kernel
theorem d_Lens_about_51 : decode prog_1_method_7_code 51 = .ok (.ireturn, 1) := by decide +kernel
theorem d_Lens_about_52 : decode prog_1_method_7_code 52 = .ok (.iload 5, 2) := by decide +kernel
theorem d_Lens_about_54 : decode prog_1_method_7_code 54 = .ok (.ifCond .ne 13, 3) := by decide +kernel
theorem d_Lens_about_57 : decode prog_1_method_7_code 57 = .ok (.iload_n 3, 1) := by decide +kernel
theorem d_Lens_about_58 : decode prog_1_method_7_code 58 = .ok (.ifCond .ne 7, 3) := by decide +kernel
theorem d_Lens_about_61 : decode prog_1_method_7_code 61 = .ok (.iconst 2, 1) := by decide +kernel
theorem d_Lens_about_62 : decode prog_1_method_7_code 62 = .ok (.goto 4, 3) := by decide +kernel
theorem d_Lens_about_65 : decode prog_1_method_7_code 65 = .ok (.iconst 0, 1) := by decide +kernel
theorem d_Lens_about_66 : decode prog_1_method_7_code 66 = .ok (.ireturn, 1) := by decide +kernel
theorem d_Lens_about_67 : decode prog_1_method_7_code 67 = .ok (.aload 4, 2) := by decide +kernel
theorem d_Lens_about_69 : decode prog_1_method_7_code 69 = .ok (.iload 5, 2) := by decide +kernel
theorem d_Lens_about_71 : decode prog_1_method_7_code 71 = .ok (.invokevirtual 131, 3) := by decide +kernel
theorem d_Lens_about_74 : decode prog_1_method_7_code 74 = .ok (.istore 6, 2) := by decide +kernel
theorem d_Lens_about_76 : decode prog_1_method_7_code 76 = .ok (.iload 6, 2) := by decide +kernel
theorem d_Lens_about_78 : decode prog_1_method_7_code 78 = .ok (.iconst (-1), 1) := by decide +kernel
theorem d_Lens_about_79 : decode prog_1_method_7_code 79 = .ok (.if_icmp .ne 13, 3) := by decide +kernel
theorem d_Lens_about_82 : decode prog_1_method_7_code 82 = .ok (.iload_n 3, 1) := by decide +kernel
theorem d_Lens_about_83 : decode prog_1_method_7_code 83 = .ok (.ifCond .ne 7, 3) := by decide +kernel
theorem d_Lens_about_86 : decode prog_1_method_7_code 86 = .ok (.iconst (-1), 1) := by decide +kernel
theorem d_Lens_about_87 : decode prog_1_method_7_code 87 = .ok (.goto 4, 3) := by decide +kernel
theorem d_Lens_about_90 : decode prog_1_method_7_code 90 = .ok (.iconst 0, 1) := by decide +kernel
theorem d_Lens_about_91 : decode prog_1_method_7_code 91 = .ok (.ireturn, 1) := by decide +kernel
theorem d_Lens_about_92 : decode prog_1_method_7_code 92 = .ok (.aload 4, 2) := by decide +kernel
theorem d_Lens_about_94 : decode prog_1_method_7_code 94 = .ok (.getfield 134, 3) := by decide +kernel
theorem d_Lens_about_97 : decode prog_1_method_7_code 97 = .ok (.iload 6, 2) := by decide +kernel
theorem d_Lens_about_99 : decode prog_1_method_7_code 99 = .ok (.aaload, 1) := by decide +kernel
theorem d_Lens_about_100 : decode prog_1_method_7_code 100 = .ok (.astore 7, 2) := by decide +kernel
theorem d_Lens_about_102 : decode prog_1_method_7_code 102 = .ok (.iload_n 3, 1) := by decide +kernel
theorem d_Lens_about_103 : decode prog_1_method_7_code 103 = .ok (.ifCond .ne 11, 3) := by decide +kernel
theorem d_Lens_about_106 : decode prog_1_method_7_code 106 = .ok (.aload 7, 2) := by decide +kernel
theorem d_Lens_about_108 : decode prog_1_method_7_code 108 = .ok (.getfield 138, 3) := by decide +kernel
theorem d_Lens_about_111 : decode prog_1_method_7_code 111 = .ok (.goto 21, 3) := by decide +kernel
theorem d_Lens_about_114 : decode prog_1_method_7_code 114 = .ok (.iload_n 3, 1) := by decide +kernel
theorem d_Lens_about_115 : decode prog_1_method_7_code 115 = .ok (.iconst 1, 1) := by decide +kernel
theorem d_Lens_about_116 : decode prog_1_method_7_code 116 = .ok (.if_icmp .ne 11, 3) := by decide +kernel
theorem d_Lens_about_119 : decode prog_1_method_7_code 119 = .ok (.aload 7, 2) := by decide +kernel
theorem d_Lens_about_121 : decode prog_1_method_7_code 121 = .ok (.getfield 143, 3) := by decide +kernel
theorem d_Lens_about_124 : decode prog_1_method_7_code 124 = .ok (.goto 8, 3) := by decide +kernel
theorem d_Lens_about_127 : decode prog_1_method_7_code 127 = .ok (.aload 7, 2) := by decide +kernel
theorem d_Lens_about_129 : decode prog_1_method_7_code 129 = .ok (.getfield 146, 3) := by decide +kernel
theorem d_Lens_about_132 : decode prog_1_method_7_code 132 = .ok (.ireturn, 1) := by decide +kernel
abbrev M_Model_about : q_M := (⟨"LensPathsModel", "about", "(III)I"⟩, prog_14_method_52_code, 8, (some .int), "LensPathsModel", [], false, 4, 97)
theorem d_Model_about_0 : decode prog_14_method_52_code 0 = .ok (.aload_n 0, 1) := by decide +kernel
theorem d_Model_about_1 : decode prog_14_method_52_code 1 = .ok (.aload_n 0, 1) := by decide +kernel
theorem d_Model_about_2 : decode prog_14_method_52_code 2 = .ok (.iload_n 1, 1) := by decide +kernel
theorem d_Model_about_3 : decode prog_14_method_52_code 3 = .ok (.invokevirtual 254, 3) := by decide +kernel
theorem d_Model_about_6 : decode prog_14_method_52_code 6 = .ok (.ifCond .ne 7, 3) := by decide +kernel
theorem d_Model_about_9 : decode prog_14_method_52_code 9 = .ok (.iconst 1, 1) := by decide +kernel
theorem d_Model_about_10 : decode prog_14_method_52_code 10 = .ok (.goto 17, 3) := by decide +kernel
theorem d_Model_about_13 : decode prog_14_method_52_code 13 = .ok (.iload_n 3, 1) := by decide +kernel
theorem d_Model_about_14 : decode prog_14_method_52_code 14 = .ok (.ifCond .lt 8, 3) := by decide +kernel
theorem d_Model_about_17 : decode prog_14_method_52_code 17 = .ok (.iload_n 3, 1) := by decide +kernel
theorem d_Model_about_18 : decode prog_14_method_52_code 18 = .ok (.iconst 3, 1) := by decide +kernel
theorem d_Model_about_19 : decode prog_14_method_52_code 19 = .ok (.if_icmp .le 7, 3) := by decide +kernel
theorem d_Model_about_22 : decode prog_14_method_52_code 22 = .ok (.iconst 2, 1) := by decide +kernel
theorem d_Model_about_23 : decode prog_14_method_52_code 23 = .ok (.goto 4, 3) := by decide +kernel
theorem d_Model_about_26 : decode prog_14_method_52_code 26 = .ok (.iconst 0, 1) := by decide +kernel
theorem d_Model_about_27 : decode prog_14_method_52_code 27 = .ok (.putfield 101, 3) := by decide +kernel
theorem d_Model_about_30 : decode prog_14_method_52_code 30 = .ok (.aload_n 0, 1) := by decide +kernel
theorem d_Model_about_31 : decode prog_14_method_52_code 31 = .ok (.getfield 101, 3) := by decide +kernel
theorem d_Model_about_34 : decode prog_14_method_52_code 34 = .ok (.ifCond .le 5, 3) := by decide +kernel
theorem d_Model_about_37 : decode prog_14_method_52_code 37 = .ok (.iconst 0, 1) := by decide +kernel
theorem d_Model_about_38 : decode prog_14_method_52_code 38 = .ok (.ireturn, 1) := by decide +kernel
theorem d_Model_about_39 : decode prog_14_method_52_code 39 = .ok (.aload_n 0, 1) := by decide +kernel
theorem d_Model_about_40 : decode prog_14_method_52_code 40 = .ok (.iconst 0, 1) := by decide +kernel
theorem d_Model_about_41 : decode prog_14_method_52_code 41 = .ok (.putfield 118, 3) := by decide +kernel
theorem d_Model_about_44 : decode prog_14_method_52_code 44 = .ok (.aload_n 0, 1) := by decide +kernel
theorem d_Model_about_45 : decode prog_14_method_52_code 45 = .ok (.iload_n 1, 1) := by decide +kernel
theorem d_Model_about_46 : decode prog_14_method_52_code 46 = .ok (.invokevirtual 237, 3) := by decide +kernel
theorem d_Model_about_49 : decode prog_14_method_52_code 49 = .ok (.iload_n 2, 1) := by decide +kernel
theorem d_Model_about_50 : decode prog_14_method_52_code 50 = .ok (.ifCond .ne 7, 3) := by decide +kernel
theorem d_Model_about_53 : decode prog_14_method_52_code 53 = .ok (.iconst (-1), 1) := by decide +kernel
theorem d_Model_about_54 : decode prog_14_method_52_code 54 = .ok (.goto 8, 3) := by decide +kernel
theorem d_Model_about_57 : decode prog_14_method_52_code 57 = .ok (.aload_n 0, 1) := by decide +kernel
theorem d_Model_about_58 : decode prog_14_method_52_code 58 = .ok (.iload_n 2, 1) := by decide +kernel
theorem d_Model_about_59 : decode prog_14_method_52_code 59 = .ok (.invokevirtual 111, 3) := by decide +kernel
theorem d_Model_about_62 : decode prog_14_method_52_code 62 = .ok (.istore 4, 2) := by decide +kernel
theorem d_Model_about_64 : decode prog_14_method_52_code 64 = .ok (.iload_n 2, 1) := by decide +kernel
theorem d_Model_about_65 : decode prog_14_method_52_code 65 = .ok (.ifCond .eq 8, 3) := by decide +kernel
theorem d_Model_about_68 : decode prog_14_method_52_code 68 = .ok (.iload 4, 2) := by decide +kernel
theorem d_Model_about_70 : decode prog_14_method_52_code 70 = .ok (.ifCond .lt 7, 3) := by decide +kernel
theorem d_Model_about_73 : decode prog_14_method_52_code 73 = .ok (.iconst 1, 1) := by decide +kernel
theorem d_Model_about_74 : decode prog_14_method_52_code 74 = .ok (.goto 4, 3) := by decide +kernel
theorem d_Model_about_77 : decode prog_14_method_52_code 77 = .ok (.iconst 0, 1) := by decide +kernel
theorem d_Model_about_78 : decode prog_14_method_52_code 78 = .ok (.istore 5, 2) := by decide +kernel
theorem d_Model_about_80 : decode prog_14_method_52_code 80 = .ok (.iload_n 3, 1) := by decide +kernel
theorem d_Model_about_81 : decode prog_14_method_52_code 81 = .ok (.ifCond .ne 28, 3) := by decide +kernel
theorem d_Model_about_84 : decode prog_14_method_52_code 84 = .ok (.iload 5, 2) := by decide +kernel
theorem d_Model_about_86 : decode prog_14_method_52_code 86 = .ok (.ifCond .ne 7, 3) := by decide +kernel
theorem d_Model_about_89 : decode prog_14_method_52_code 89 = .ok (.iconst (-1), 1) := by decide +kernel
theorem d_Model_about_90 : decode prog_14_method_52_code 90 = .ok (.goto 18, 3) := by decide +kernel
theorem d_Model_about_93 : decode prog_14_method_52_code 93 = .ok (.iload_n 2, 1) := by decide +kernel
theorem d_Model_about_94 : decode prog_14_method_52_code 94 = .ok (.ifCond .ne 7, 3) := by decide +kernel
theorem d_Model_about_97 : decode prog_14_method_52_code 97 = .ok (.iconst 2, 1) := by decide +kernel
theorem d_Model_about_98 : decode prog_14_method_52_code 98 = .ok (.goto 10, 3) := by decide +kernel
theorem d_Model_about_101 : decode prog_14_method_52_code 101 = .ok (.aload_n 0, 1) := by decide +kernel
theorem d_Model_about_102 : decode prog_14_method_52_code 102 = .ok (.getfield 56, 3) := by decide +kernel
theorem d_Model_about_105 : decode prog_14_method_52_code 105 = .ok (.iload 4, 2) := by decide +kernel
theorem d_Model_about_107 : decode prog_14_method_52_code 107 = .ok (.iaload, 1) := by decide +kernel
theorem d_Model_about_108 : decode prog_14_method_52_code 108 = .ok (.ireturn, 1) := by decide +kernel
theorem d_Model_about_109 : decode prog_14_method_52_code 109 = .ok (.iload_n 3, 1) := by decide +kernel
theorem d_Model_about_110 : decode prog_14_method_52_code 110 = .ok (.iconst 3, 1) := by decide +kernel
theorem d_Model_about_111 : decode prog_14_method_52_code 111 = .ok (.if_icmp .ge 35, 3) := by decide +kernel
theorem d_Model_about_114 : decode prog_14_method_52_code 114 = .ok (.iload 4, 2) := by decide +kernel
theorem d_Model_about_116 : decode prog_14_method_52_code 116 = .ok (.ifCond .ge 7, 3) := by decide +kernel
theorem d_Model_about_119 : decode prog_14_method_52_code 119 = .ok (.iconst 0, 1) := by decide +kernel
theorem d_Model_about_120 : decode prog_14_method_52_code 120 = .ok (.goto 25, 3) := by decide +kernel
theorem d_Model_about_123 : decode prog_14_method_52_code 123 = .ok (.iload_n 3, 1) := by decide +kernel
theorem d_Model_about_124 : decode prog_14_method_52_code 124 = .ok (.iconst 1, 1) := by decide +kernel
theorem d_Model_about_125 : decode prog_14_method_52_code 125 = .ok (.if_icmp .ne 13, 3) := by decide +kernel
theorem d_Model_about_128 : decode prog_14_method_52_code 128 = .ok (.aload_n 0, 1) := by decide +kernel
theorem d_Model_about_129 : decode prog_14_method_52_code 129 = .ok (.getfield 59, 3) := by decide +kernel
theorem d_Model_about_132 : decode prog_14_method_52_code 132 = .ok (.iload 4, 2) := by decide +kernel
theorem d_Model_about_134 : decode prog_14_method_52_code 134 = .ok (.iaload, 1) := by decide +kernel
theorem d_Model_about_135 : decode prog_14_method_52_code 135 = .ok (.goto 10, 3) := by decide +kernel
theorem d_Model_about_138 : decode prog_14_method_52_code 138 = .ok (.aload_n 0, 1) := by decide +kernel
theorem d_Model_about_139 : decode prog_14_method_52_code 139 = .ok (.getfield 62, 3) := by decide +kernel
theorem d_Model_about_142 : decode prog_14_method_52_code 142 = .ok (.iload 4, 2) := by decide +kernel
theorem d_Model_about_144 : decode prog_14_method_52_code 144 = .ok (.iaload, 1) := by decide +kernel
theorem d_Model_about_145 : decode prog_14_method_52_code 145 = .ok (.ireturn, 1) := by decide +kernel
theorem d_Model_about_146 : decode prog_14_method_52_code 146 = .ok (.iconst 0, 1) := by decide +kernel
theorem d_Model_about_147 : decode prog_14_method_52_code 147 = .ok (.istore 6, 2) := by decide +kernel
theorem d_Model_about_149 : decode prog_14_method_52_code 149 = .ok (.iconst 0, 1) := by decide +kernel
theorem d_Model_about_150 : decode prog_14_method_52_code 150 = .ok (.istore 7, 2) := by decide +kernel
theorem d_Model_about_152 : decode prog_14_method_52_code 152 = .ok (.iload 7, 2) := by decide +kernel
theorem d_Model_about_154 : decode prog_14_method_52_code 154 = .ok (.aload_n 0, 1) := by decide +kernel
theorem d_Model_about_155 : decode prog_14_method_52_code 155 = .ok (.getfield 108, 3) := by decide +kernel
theorem d_Model_about_158 : decode prog_14_method_52_code 158 = .ok (.if_icmp .ge 54, 3) := by decide +kernel
theorem d_Model_about_161 : decode prog_14_method_52_code 161 = .ok (.iload 5, 2) := by decide +kernel
theorem d_Model_about_163 : decode prog_14_method_52_code 163 = .ok (.ifCond .eq 49, 3) := by decide +kernel
theorem d_Model_about_166 : decode prog_14_method_52_code 166 = .ok (.aload_n 0, 1) := by decide +kernel
theorem d_Model_about_167 : decode prog_14_method_52_code 167 = .ok (.getfield 53, 3) := by decide +kernel
theorem d_Model_about_170 : decode prog_14_method_52_code 170 = .ok (.iload 7, 2) := by decide +kernel
theorem d_Model_about_172 : decode prog_14_method_52_code 172 = .ok (.iaload, 1) := by decide +kernel
theorem d_Model_about_173 : decode prog_14_method_52_code 173 = .ok (.iload_n 2, 1) := by decide +kernel
theorem d_Model_about_174 : decode prog_14_method_52_code 174 = .ok (.if_icmp .eq 28, 3) := by decide +kernel
theorem d_Model_about_177 : decode prog_14_method_52_code 177 = .ok (.aload_n 0, 1) := by decide +kernel
theorem d_Model_about_178 : decode prog_14_method_52_code 178 = .ok (.getfield 53, 3) := by decide +kernel
theorem d_Model_about_181 : decode prog_14_method_52_code 181 = .ok (.iload 7, 2) := by decide +kernel
theorem d_Model_about_183 : decode prog_14_method_52_code 183 = .ok (.iaload, 1) := by decide +kernel
theorem d_Model_about_184 : decode prog_14_method_52_code 184 = .ok (.iload_n 2, 1) := by decide +kernel
theorem d_Model_about_185 : decode prog_14_method_52_code 185 = .ok (.iload_n 2, 1) := by decide +kernel
theorem d_Model_about_186 : decode prog_14_method_52_code 186 = .ok (.invokestatic 132, 3) := by decide +kernel
theorem d_Model_about_189 : decode prog_14_method_52_code 189 = .ok (.invokestatic 135, 3) := by decide +kernel
theorem d_Model_about_192 : decode prog_14_method_52_code 192 = .ok (.ifCond .eq 10, 3) := by decide +kernel
theorem d_Model_about_195 : decode prog_14_method_52_code 195 = .ok (.iload 6, 2) := by decide +kernel
theorem d_Model_about_197 : decode prog_14_method_52_code 197 = .ok (.iconst 1, 1) := by decide +kernel
theorem d_Model_about_198 : decode prog_14_method_52_code 198 = .ok (.iadd, 1) := by decide +kernel
theorem d_Model_about_199 : decode prog_14_method_52_code 199 = .ok (.goto 5, 3) := by decide +kernel
theorem d_Model_about_202 : decode prog_14_method_52_code 202 = .ok (.iload 6, 2) := by decide +kernel
theorem d_Model_about_204 : decode prog_14_method_52_code 204 = .ok (.istore 6, 2) := by decide +kernel
theorem d_Model_about_206 : decode prog_14_method_52_code 206 = .ok (.iinc 7 1, 3) := by decide +kernel
theorem d_Model_about_209 : decode prog_14_method_52_code 209 = .ok (.goto (-57), 3) := by decide +kernel
theorem d_Model_about_212 : decode prog_14_method_52_code 212 = .ok (.iload 6, 2) := by decide +kernel
theorem d_Model_about_214 : decode prog_14_method_52_code 214 = .ok (.ireturn, 1) := by decide +kernel
section About
variable {g : q_G} {sz x m : Nat} {T : q_T} {I : q_I} {R : q_R} {J : q_J} {S : KA}
theorem k_cin_none {L : List KF} (hw : k_wfL L) {l : List Nat} (hl : l ≠ []) (hn : k_fi L l = none) : k_cin L l = 0 := by
  have key : ∀ (n : Nat) (f : KF), f ∈ L → f.1.length ≤ n → ¬ l <+: f.1 := by
    intro n
    induction n with
    | zero =>
      intro f hf h0 hp
      exact (hw.2.1 f hf).2 (List.eq_nil_of_length_eq_zero (by omega))
    | succ n ih =>
      intro f hf h1 hp
      have hne := k_fi_none hn f hf
      have hf0 := (hw.2.1 f hf).2
      have hd : l <+: f.1.dropLast := by
        obtain ⟨t, ht⟩ := hp
        have ht0 : t ≠ [] := fun z => hne (by rw [z, List.append_nil] at ht; exact ht.symm)
        rw [← ht, List.dropLast_append_of_ne_nil ht0]
        exact List.prefix_append _ _
      have hg := hw.2.2.2.1 f hf
      rw [k_grp, Bool.or_eq_true, decide_eq_true_iff] at hg
      rcases hg with hg | hg
      · rw [hg] at hd
        exact hl (List.prefix_nil.mp hd)
      · obtain ⟨e, he, he2⟩ := List.any_eq_true.mp hg
        rw [Bool.and_eq_true, decide_eq_true_iff] at he2
        refine ih e he ?_ (by rw [he2.1]; exact hd)
        rw [he2.1, List.length_dropLast]
        omega
  unfold k_cin
  rw [List.length_eq_zero_iff, List.filter_eq_nil_iff]
  intro f hf
  rw [Bool.and_eq_true, decide_eq_true_iff, decide_eq_true_iff]
  exact fun z => key _ f hf (Nat.le_refl _) z.2
/-- what about answers -/
def a_abt (L : List KF) (p : Int32) (w : Nat) : Int32 := if w = 3 then nI (k_cio L (k_of p)) else if k_of p = some [] then (if w = 0 then nI 2 else 0) else match k_fo L (k_of p) with
  | none => if w = 0 then -1 else 0
  | some i => match L[i]? with
    | none => 0
    | some f => if w = 0 then f.2.1 else if w = 1 then f.2.2.1 else f.2.2.2.1
theorem c_Lens_about_no (hC : relC S x sz T I R) {v p w : Int32} (hb : k_bel S.vs.length v = false) : q_C g M_Lens_about [.ref x, .int v, .int p, .int w] (sz, T, I, R, J) 1000 14000 (q_Xi [2, 1] (c_sp x sz T I R J (nI 1, 0, S))) := by
  have hL := hC.1.1
  refine q_C.of (ls0 := [some (.ref x), some (.int v), some (.int p), some (.int w), none, none, none, none]) (by decide) rfl (by decide) (Nat.le_of_ble_eq_true rfl) rfl ?_
  refine q_aload_n d_Lens_about_0 rfl rfl ?_
  refine q_iload_n d_Lens_about_1 rfl rfl ?_
  refine q_callV (M2 := M_Lens_needVersion) d_Lens_about_2 ⟨(Nat.le_of_ble_eq_true rfl), (Nat.le_of_ble_eq_true rfl), w_430, w_1, ⟨by decide, by decide⟩, show _ = some 1 by decide +kernel⟩ w_427 w_429 (ci := 10) rfl s_3 hL.1 rfl (Nat.le_of_ble_eq_true rfl) (by omega) (by omega) (c_needVersion_no hC hb) (fun v h' z => ?_) (fun z9 h' z => ?_)
  · cases z.1
  · obtain ⟨e9, rfl⟩ := z
    cases e9
    exact q_VX.out (by decide) (by omega) (by omega) (c_xi_no hC rfl)
theorem c_Lens_about_no2 (hC : relC S x sz T I R) {v p w : Int32} (hb : k_bel S.vs.length v = true) (hk : k_bel 4 w = false) : q_C g M_Lens_about [.ref x, .int v, .int p, .int w] (sz, T, I, R, J) 1000 14000 (q_Xi [2, 1] (c_sp x sz T I R J (nI 2, 0, S))) := by
  have hL := hC.1.1
  refine q_C.of (ls0 := [some (.ref x), some (.int v), some (.int p), some (.int w), none, none, none, none]) (by decide) rfl (by decide) (Nat.le_of_ble_eq_true rfl) rfl ?_
  refine q_aload_n d_Lens_about_0 rfl rfl ?_
  refine q_iload_n d_Lens_about_1 rfl rfl ?_
  refine q_callVv (M2 := M_Lens_needVersion) d_Lens_about_2 ⟨(Nat.le_of_ble_eq_true rfl), (Nat.le_of_ble_eq_true rfl), w_430, w_1, ⟨by decide, by decide⟩, show _ = some 1 by decide +kernel⟩ w_427 w_429 (ci := 10) rfl s_3 hL.1 rfl (Nat.le_of_ble_eq_true rfl) (by omega) (by omega) (c_needVersion_ok hC hb) ?_
  rintro _ rfl
  refine q_iload_n d_Lens_about_5 rfl rfl ?_
  refine q_if_lt (tgt := 14) d_Lens_about_6 rfl (fun hc => ?_) (fun hc => ?_)
  · refine q_throw (x := 1) d_Lens_about_14 d_Lens_about_17 d_Lens_about_18 d_Lens_about_21 (by decide +kernel) x_nmf (Nat.le_of_ble_eq_true rfl) (Nat.le_of_ble_eq_true rfl) (Nat.le_of_ble_eq_true rfl) w_396 w_16 x_at1 rfl (Nat.le_of_ble_eq_true rfl) (by omega) (by omega) ?_
    exact c_xi_no hC rfl
  · have h1 := hc
    refine q_iload_n d_Lens_about_9 rfl rfl ?_
    refine q_iconst (v := nI 3) d_Lens_about_10 (by decide) ?_
    refine q_icmp_le (tgt := 22) d_Lens_about_11 rfl (fun hc => ?_) (fun hc => ?_)
    · rw [k_bel4 h1 hc] at hk; cases hk
    · refine q_throw (x := 1) d_Lens_about_14 d_Lens_about_17 d_Lens_about_18 d_Lens_about_21 (by decide +kernel) x_nmf (Nat.le_of_ble_eq_true rfl) (Nat.le_of_ble_eq_true rfl) (Nat.le_of_ble_eq_true rfl) w_396 w_16 x_at1 rfl (Nat.le_of_ble_eq_true rfl) (by omega) (by omega) ?_
      exact c_xi_no hC rfl
theorem k_fx_fo {L : List KF} (hok : k_okf L) (p : Int32) : k_fx (p_key (k_of p)) 0 L = p_idx (k_fo L (k_of p)) := by
  cases ho : k_of p with
  | none => exact k_fx_none hok 0
  | some l =>
    have := k_fx_idx hok (k_of_ok ho) 0
    rw [show p_key (some l) = nI (k_key l) from rfl, this, show k_fo L (some l) = k_fi L l from rfl]
    cases k_fi L l <;> rfl
theorem p_key0 (p : Int32) : p_key (k_of p) = 0 ↔ k_of p = some [] := by
  cases ho : k_of p with
  | none => exact ⟨fun z => absurd z (by decide), fun z => by cases z⟩
  | some l =>
    have h1 := k_key_lt (k_of_ok ho)
    refine ⟨fun z => ?_, fun z => by cases z; rfl⟩
    have h2 : k_key l = 0 := nI_zero (by omega) z
    exact congrArg some (k_key_inj (k_of_ok ho) (m := []) ⟨by simp, fun n hn => nomatch hn⟩ (h2.trans k_key0.symm))
theorem c_Lens_about (hw : wf S) (hC : relC S x sz T I R) {v w : Nat} {p : Int32} {L : List KF} (hv : S.vs[v]? = some L) (hw4 : w < 4) : q_C g M_Lens_about [.ref x, .int (nI v), .int p, .int (nI w)] (sz, T, I, R, J) 1000 14000 (q_Xi [2, 1] (c_sp x sz T I R J (0, a_abt L p w, S))) := by
  have hL := hC.1.1
  have hV1 := hC.1.2.1.1
  have hV2 := (hC.1.2.1.2 0 _ _ _ rfl).1
  have hV3 := (hC.1.2.1.2 0 _ _ _ rfl).2
  have hvl := (List.getElem?_eq_some_iff.mp hv).1
  have hv8 := hw.1.2.1
  have hwf := hw.1.2.2 L (List.mem_of_getElem? hv)
  have hok := hwf.1.2.1
  obtain ⟨s, wd, a1, a2, a3, a4⟩ := hC.verAt hv
  have hs1 := a4.1.1.1
  have hs2 := (a4.1.1.2 0 _ _ _ rfl).1
  have hs3 := (a4.1.1.2 0 _ _ _ rfl).2
  refine q_C.of (ls0 := [some (.ref x), some (.int (nI v)), some (.int p), some (.int (nI w)), none, none, none, none]) (by decide) rfl (by decide) (Nat.le_of_ble_eq_true rfl) rfl ?_
  refine q_aload_n d_Lens_about_0 rfl rfl ?_
  refine q_iload_n d_Lens_about_1 rfl rfl ?_
  refine q_callVv (M2 := M_Lens_needVersion) d_Lens_about_2 ⟨(Nat.le_of_ble_eq_true rfl), (Nat.le_of_ble_eq_true rfl), w_430, w_1, ⟨by decide, by decide⟩, show _ = some 1 by decide +kernel⟩ w_427 w_429 (ci := 10) rfl s_3 hL.1 rfl (Nat.le_of_ble_eq_true rfl) (by omega) (by omega) (c_needVersion_ok hC (k_bel_nI (by omega) hvl)) ?_
  rintro _ rfl
  refine q_iload_n d_Lens_about_5 rfl rfl ?_
  refine q_if_lt (tgt := 14) d_Lens_about_6 rfl (fun hc => ?_) (fun hc => ?_)
  · exact absurd hc (nI_pos (by omega))
  refine q_iload_n d_Lens_about_9 rfl rfl ?_
  refine q_iconst (v := nI 3) d_Lens_about_10 (by decide) ?_
  refine q_icmp_le (tgt := 22) d_Lens_about_11 rfl (fun hc => ?_) (fun hc => ?_)
  rotate_left
  · exact absurd (by rw [nI_leI (by omega) (by omega)]; omega) hc
  refine q_aload_n d_Lens_about_22 rfl rfl ?_
  refine q_getR (ci := 10) (fk := 0) d_Lens_about_23 rfl (Nat.le_of_ble_eq_true rfl) w_272 (fun _ _ => rfl) hL.1 (hL.2 0 _ _ _ rfl).1 ?_
  refine q_getR (ci := 9) (fk := 0) d_Lens_about_26 rfl (Nat.le_of_ble_eq_true rfl) w_110 (fun _ _ => rfl) (by first | assumption | rfl | (simp (disch := omega) only [q_upT_self, q_upT_ne, q_upR_self, q_upR_nea, q_upR_nk, q_upT_at, *]; done) | (simp (disch := omega) only [q_upT_self, q_upT_ne, q_upR_self, q_upR_nea, q_upR_nk, q_upT_at, *]; rfl)) (by first | assumption | rfl | (simp (disch := omega) only [q_upT_self, q_upT_ne, q_upR_self, q_upR_nea, q_upR_nk, q_upT_at, *]; done) | (simp (disch := omega) only [q_upT_self, q_upT_ne, q_upR_self, q_upR_nea, q_upR_nk, q_upT_at, *]; rfl)) ?_
  refine q_iload_n d_Lens_about_29 rfl rfl ?_
  refine q_aaldR (kd := _) d_Lens_about_30 rfl (Nat.le_of_ble_eq_true rfl) (Nat.le_of_ble_eq_true rfl) (by first | assumption | rfl | (simp (disch := omega) only [q_upT_self, q_upT_ne, q_upR_self, q_upR_nea, q_upR_nk, q_upT_at, *]; done) | (simp (disch := omega) only [q_upT_self, q_upT_ne, q_upR_self, q_upR_nea, q_upR_nk, q_upT_at, *]; rfl)) (by first | assumption | exact vp_in_nI (by omega) (by omega)) (by first | assumption | rfl | (simp (disch := omega) only [q_upT_self, q_upT_ne, q_upR_self, q_upR_nea, q_upR_nk, q_upT_at, *]; done) | (simp (disch := omega) only [q_upT_self, q_upT_ne, q_upR_self, q_upR_nea, q_upR_nk, q_upT_at, *]; rfl)) ?_
  refine q_astore d_Lens_about_31 (Nat.le_of_ble_eq_true rfl) (by first | exact q_ok0 | exact q_okI rfl | exact q_okR rfl | exact q_okN rfl) rfl ?_
  refine q_iload_n d_Lens_about_33 rfl rfl ?_
  refine q_callSi (M2 := M_Key_ofPath) d_Lens_about_34 ⟨(Nat.le_of_ble_eq_true rfl), (Nat.le_of_ble_eq_true rfl), w_374, w_15, ⟨by decide, by decide⟩, show _ = some 1 by decide +kernel⟩ w_372 w_373 rfl (Nat.le_of_ble_eq_true rfl) (by omega) (by omega) (c_Key_ofPath p) ?_
  rintro _ _ ⟨rfl, rfl⟩
  by_cases h3 : w = 3
  · subst h3
    refine q_istore d_Lens_about_37 (Nat.le_of_ble_eq_true rfl) (by first | exact q_ok0 | exact q_okI rfl | exact q_okR rfl | exact q_okN rfl) rfl ?_
    refine q_iload_n d_Lens_about_39 rfl rfl ?_
    refine q_iconst (v := nI 3) d_Lens_about_40 (by decide) ?_
    refine q_icmp_ne (tgt := 52) d_Lens_about_41 rfl (fun hc => ?_) (fun hc => ?_)
    · exact absurd rfl hc
    refine q_aload d_Lens_about_44 rfl ?_
    refine q_iload d_Lens_about_46 rfl ?_
    refine q_callVi (M2 := M_Schema_countInside) d_Lens_about_48 ⟨(Nat.le_of_ble_eq_true rfl), (Nat.le_of_ble_eq_true rfl), w_561, w_3, ⟨by decide, by decide⟩, show _ = some 1 by decide +kernel⟩ w_686 w_559 (ci := 6) rfl w_560 (by first | assumption | rfl | (simp (disch := omega) only [q_upT_self, q_upT_ne, q_upR_self, q_upR_nea, q_upR_nk, q_upT_at, *]; done) | (simp (disch := omega) only [q_upT_self, q_upT_ne, q_upR_self, q_upR_nea, q_upR_nk, q_upT_at, *]; rfl)) rfl (Nat.le_of_ble_eq_true rfl) (by omega) (by omega) (c_Schema_countInside a4 hok (fun l hl => k_of_ok hl)) ?_
    rintro _ _ ⟨rfl, rfl⟩
    refine q_iret d_Lens_about_51 rfl (by omega) (by omega) ?_
    exact c_xi_is hC _
  refine q_istore d_Lens_about_37 (Nat.le_of_ble_eq_true rfl) (by first | exact q_ok0 | exact q_okI rfl | exact q_okR rfl | exact q_okN rfl) rfl ?_
  refine q_iload_n d_Lens_about_39 rfl rfl ?_
  refine q_iconst (v := nI 3) d_Lens_about_40 (by decide) ?_
  refine q_icmp_ne (tgt := 52) d_Lens_about_41 rfl (fun hc => ?_) (fun hc => ?_)
  rotate_left
  · exact absurd ((nI_eq (by omega) (by omega)).mp hc) h3
  by_cases h0 : k_of p = some []
  · have hz := (p_key0 p).mpr h0
    rw [hz]
    refine q_iload d_Lens_about_52 rfl ?_
    refine q_if_ne (tgt := 67) d_Lens_about_54 rfl (fun hc => ?_) (fun hc => ?_)
    · exact absurd rfl hc
    by_cases hw0 : w = 0
    · subst hw0
      refine q_iload_n d_Lens_about_57 rfl rfl ?_
      refine q_if_ne (tgt := 65) d_Lens_about_58 rfl (fun hc => ?_) (fun hc => ?_)
      · exact absurd rfl hc
      · refine q_iconst (v := nI 2) d_Lens_about_61 (by decide) ?_
        refine q_goto (tgt := 66) d_Lens_about_62 rfl ?_
        refine q_iret d_Lens_about_66 rfl (by omega) (by omega) ?_
        have : a_abt L p 0 = nI 2 := by unfold a_abt; rw [if_neg (by decide), if_pos h0, if_pos rfl]
        rw [this]
        exact c_xi_is hC _
    · refine q_iload_n d_Lens_about_57 rfl rfl ?_
      refine q_if_ne (tgt := 65) d_Lens_about_58 rfl (fun hc => ?_) (fun hc => ?_)
      · refine q_iconst (v := nI 0) d_Lens_about_65 (by decide) ?_
        refine q_iret d_Lens_about_66 rfl (by omega) (by omega) ?_
        have : a_abt L p w = nI 0 := by unfold a_abt; rw [if_neg h3, if_pos h0, if_neg hw0]; rfl
        rw [this]
        exact c_xi_is hC _
      · exact absurd (nI_zero (by omega) (by have := hc; simpa using this)) hw0
  refine q_iload d_Lens_about_52 rfl ?_
  refine q_if_ne (tgt := 67) d_Lens_about_54 rfl (fun hc => ?_) (fun hc => ?_)
  rotate_left
  · exact absurd ((p_key0 p).mp (by have := hc; simpa using this)) h0
  refine q_aload d_Lens_about_67 rfl ?_
  refine q_iload d_Lens_about_69 rfl ?_
  refine q_callVi (M2 := M_Schema_find) d_Lens_about_71 ⟨(Nat.le_of_ble_eq_true rfl), (Nat.le_of_ble_eq_true rfl), w_392, w_3, ⟨by decide, by decide⟩, show _ = some 1 by decide +kernel⟩ w_687 w_390 (ci := 6) rfl w_391 (by first | assumption | rfl | (simp (disch := omega) only [q_upT_self, q_upT_ne, q_upR_self, q_upR_nea, q_upR_nk, q_upT_at, *]; done) | (simp (disch := omega) only [q_upT_self, q_upT_ne, q_upR_self, q_upR_nea, q_upR_nk, q_upT_at, *]; rfl)) rfl (Nat.le_of_ble_eq_true rfl) (by omega) (by omega) (c_Schema_find a4 _) ?_
  rintro _ _ ⟨rfl, rfl⟩
  rw [k_fx_fo hok p]
  cases hfo : k_fo L (k_of p) with
  | none =>
    refine q_istore d_Lens_about_74 (Nat.le_of_ble_eq_true rfl) (by first | exact q_ok0 | exact q_okI rfl | exact q_okR rfl | exact q_okN rfl) rfl ?_
    refine q_iload d_Lens_about_76 rfl ?_
    refine q_iconst (v := (-1)) d_Lens_about_78 (by decide) ?_
    refine q_icmp_ne (tgt := 92) d_Lens_about_79 rfl (fun hc => ?_) (fun hc => ?_)
    · exact absurd rfl hc
    by_cases hw0 : w = 0
    · subst hw0
      refine q_iload_n d_Lens_about_82 rfl rfl ?_
      refine q_if_ne (tgt := 90) d_Lens_about_83 rfl (fun hc => ?_) (fun hc => ?_)
      · exact absurd rfl hc
      · refine q_iconst (v := (-1)) d_Lens_about_86 (by decide) ?_
        refine q_goto (tgt := 91) d_Lens_about_87 rfl ?_
        refine q_iret d_Lens_about_91 rfl (by omega) (by omega) ?_
        have : a_abt L p 0 = -1 := by unfold a_abt; rw [if_neg (by decide), if_neg h0, hfo]; rfl
        rw [this]
        exact c_xi_is hC _
    · refine q_iload_n d_Lens_about_82 rfl rfl ?_
      refine q_if_ne (tgt := 90) d_Lens_about_83 rfl (fun hc => ?_) (fun hc => ?_)
      · refine q_iconst (v := nI 0) d_Lens_about_90 (by decide) ?_
        refine q_iret d_Lens_about_91 rfl (by omega) (by omega) ?_
        have : a_abt L p w = nI 0 := by unfold a_abt; rw [if_neg h3, if_neg h0, hfo]; exact if_neg hw0
        rw [this]
        exact c_xi_is hC _
      · exact absurd (nI_zero (by omega) (by have := hc; simpa using this)) hw0
  | some i =>
    have hil : i < L.length := by
      cases ho : k_of p with
      | none => rw [ho] at hfo; cases hfo
      | some l => rw [ho] at hfo; exact (k_fi_some hfo).1
    obtain ⟨f, hf⟩ : ∃ f, L[i]? = some f := ⟨_, List.getElem?_eq_getElem hil⟩
    obtain ⟨g1, g2, g3, g4⟩ := a4.at hf
    have hab : a_abt L p w = if w = 0 then f.2.1 else if w = 1 then f.2.2.1 else f.2.2.2.1 := by
      unfold a_abt
      rw [if_neg h3, if_neg h0, hfo]
      simp only [hf]
    rw [hab, show p_idx (some i) = nI i from rfl]
    refine q_istore d_Lens_about_74 (Nat.le_of_ble_eq_true rfl) (by first | exact q_ok0 | exact q_okI rfl | exact q_okR rfl | exact q_okN rfl) rfl ?_
    refine q_iload d_Lens_about_76 rfl ?_
    refine q_iconst (v := (-1)) d_Lens_about_78 (by decide) ?_
    refine q_icmp_ne (tgt := 92) d_Lens_about_79 rfl (fun hc => ?_) (fun hc => ?_)
    rotate_left
    · exact absurd hc (nI_m1 (by omega))
    by_cases hw0 : w = 0
    · subst hw0
      refine q_aload d_Lens_about_92 rfl ?_
      refine q_getR (ci := 6) (fk := 0) d_Lens_about_94 rfl (Nat.le_of_ble_eq_true rfl) w_97 (fun _ _ => rfl) (by first | assumption | rfl | (simp (disch := omega) only [q_upT_self, q_upT_ne, q_upR_self, q_upR_nea, q_upR_nk, q_upT_at, *]; done) | (simp (disch := omega) only [q_upT_self, q_upT_ne, q_upR_self, q_upR_nea, q_upR_nk, q_upT_at, *]; rfl)) (by first | assumption | rfl | (simp (disch := omega) only [q_upT_self, q_upT_ne, q_upR_self, q_upR_nea, q_upR_nk, q_upT_at, *]; done) | (simp (disch := omega) only [q_upT_self, q_upT_ne, q_upR_self, q_upR_nea, q_upR_nk, q_upT_at, *]; rfl)) ?_
      refine q_iload d_Lens_about_97 rfl ?_
      refine q_aaldR (kd := _) d_Lens_about_99 rfl (Nat.le_of_ble_eq_true rfl) (Nat.le_of_ble_eq_true rfl) (by first | assumption | rfl | (simp (disch := omega) only [q_upT_self, q_upT_ne, q_upR_self, q_upR_nea, q_upR_nk, q_upT_at, *]; done) | (simp (disch := omega) only [q_upT_self, q_upT_ne, q_upR_self, q_upR_nea, q_upR_nk, q_upT_at, *]; rfl)) (by first | assumption | exact vp_in_nI (by omega) (by omega)) (by first | assumption | rfl | (simp (disch := omega) only [q_upT_self, q_upT_ne, q_upR_self, q_upR_nea, q_upR_nk, q_upT_at, *]; done) | (simp (disch := omega) only [q_upT_self, q_upT_ne, q_upR_self, q_upR_nea, q_upR_nk, q_upT_at, *]; rfl)) ?_
      refine q_astore d_Lens_about_100 (Nat.le_of_ble_eq_true rfl) (by first | exact q_ok0 | exact q_okI rfl | exact q_okR rfl | exact q_okN rfl) rfl ?_
      refine q_iload_n d_Lens_about_102 rfl rfl ?_
      refine q_if_ne (tgt := 114) d_Lens_about_103 rfl (fun hc => ?_) (fun hc => ?_)
      · exact absurd rfl hc
      · refine q_aload d_Lens_about_106 rfl ?_
        refine q_getI (ci := 3) (fk := 1) d_Lens_about_108 rfl (Nat.le_of_ble_eq_true rfl) w_63 (fun _ _ => rfl) (by first | assumption | rfl | (simp (disch := omega) only [q_upT_self, q_upT_ne, q_upR_self, q_upR_nea, q_upR_nk, q_upT_at, *]; done) | (simp (disch := omega) only [q_upT_self, q_upT_ne, q_upR_self, q_upR_nea, q_upR_nk, q_upT_at, *]; rfl)) ?_
        rw [g4.2.1]
        refine q_goto (tgt := 132) d_Lens_about_111 rfl ?_
        refine q_iret d_Lens_about_132 rfl (by omega) (by omega) ?_
        exact c_xi_is hC _
    · rw [if_neg hw0]
      refine q_aload d_Lens_about_92 rfl ?_
      refine q_getR (ci := 6) (fk := 0) d_Lens_about_94 rfl (Nat.le_of_ble_eq_true rfl) w_97 (fun _ _ => rfl) (by first | assumption | rfl | (simp (disch := omega) only [q_upT_self, q_upT_ne, q_upR_self, q_upR_nea, q_upR_nk, q_upT_at, *]; done) | (simp (disch := omega) only [q_upT_self, q_upT_ne, q_upR_self, q_upR_nea, q_upR_nk, q_upT_at, *]; rfl)) (by first | assumption | rfl | (simp (disch := omega) only [q_upT_self, q_upT_ne, q_upR_self, q_upR_nea, q_upR_nk, q_upT_at, *]; done) | (simp (disch := omega) only [q_upT_self, q_upT_ne, q_upR_self, q_upR_nea, q_upR_nk, q_upT_at, *]; rfl)) ?_
      refine q_iload d_Lens_about_97 rfl ?_
      refine q_aaldR (kd := _) d_Lens_about_99 rfl (Nat.le_of_ble_eq_true rfl) (Nat.le_of_ble_eq_true rfl) (by first | assumption | rfl | (simp (disch := omega) only [q_upT_self, q_upT_ne, q_upR_self, q_upR_nea, q_upR_nk, q_upT_at, *]; done) | (simp (disch := omega) only [q_upT_self, q_upT_ne, q_upR_self, q_upR_nea, q_upR_nk, q_upT_at, *]; rfl)) (by first | assumption | exact vp_in_nI (by omega) (by omega)) (by first | assumption | rfl | (simp (disch := omega) only [q_upT_self, q_upT_ne, q_upR_self, q_upR_nea, q_upR_nk, q_upT_at, *]; done) | (simp (disch := omega) only [q_upT_self, q_upT_ne, q_upR_self, q_upR_nea, q_upR_nk, q_upT_at, *]; rfl)) ?_
      refine q_astore d_Lens_about_100 (Nat.le_of_ble_eq_true rfl) (by first | exact q_ok0 | exact q_okI rfl | exact q_okR rfl | exact q_okN rfl) rfl ?_
      refine q_iload_n d_Lens_about_102 rfl rfl ?_
      refine q_if_ne (tgt := 114) d_Lens_about_103 rfl (fun hc => ?_) (fun hc => ?_)
      rotate_left
      · exact absurd (nI_zero (by omega) (by have := hc; simpa using this)) hw0
      by_cases hw1 : w = 1
      · subst hw1
        refine q_iload_n d_Lens_about_114 rfl rfl ?_
        refine q_iconst (v := nI 1) d_Lens_about_115 (by decide) ?_
        refine q_icmp_ne (tgt := 127) d_Lens_about_116 rfl (fun hc => ?_) (fun hc => ?_)
        · exact absurd rfl hc
        · refine q_aload d_Lens_about_119 rfl ?_
          refine q_getI (ci := 3) (fk := 2) d_Lens_about_121 rfl (Nat.le_of_ble_eq_true rfl) w_68 (fun _ _ => rfl) (by first | assumption | rfl | (simp (disch := omega) only [q_upT_self, q_upT_ne, q_upR_self, q_upR_nea, q_upR_nk, q_upT_at, *]; done) | (simp (disch := omega) only [q_upT_self, q_upT_ne, q_upR_self, q_upR_nea, q_upR_nk, q_upT_at, *]; rfl)) ?_
          rw [g4.2.2.1]
          refine q_goto (tgt := 132) d_Lens_about_124 rfl ?_
          refine q_iret d_Lens_about_132 rfl (by omega) (by omega) ?_
          exact c_xi_is hC _
      · rw [if_neg hw1]
        refine q_iload_n d_Lens_about_114 rfl rfl ?_
        refine q_iconst (v := nI 1) d_Lens_about_115 (by decide) ?_
        refine q_icmp_ne (tgt := 127) d_Lens_about_116 rfl (fun hc => ?_) (fun hc => ?_)
        · refine q_aload d_Lens_about_127 rfl ?_
          refine q_getI (ci := 3) (fk := 3) d_Lens_about_129 rfl (Nat.le_of_ble_eq_true rfl) w_74 (fun _ _ => rfl) (by first | assumption | rfl | (simp (disch := omega) only [q_upT_self, q_upT_ne, q_upR_self, q_upR_nea, q_upR_nk, q_upT_at, *]; done) | (simp (disch := omega) only [q_upT_self, q_upT_ne, q_upR_self, q_upR_nea, q_upR_nk, q_upT_at, *]; rfl)) ?_
          rw [g4.2.2.2.1]
          refine q_iret d_Lens_about_132 rfl (by omega) (by omega) ?_
          exact c_xi_is hC _
        · exact absurd ((nI_eq (by omega) (by omega)).mp (by have := hc; simpa using this)) hw1
theorem k_of0 (p : Int32) : p = 0 ↔ k_of p = some [] := by
  have := k_of_iff (l := []) ⟨by simp, fun n hn => nomatch hn⟩ p
  rw [← this]
  exact ⟨fun z => by rw [z]; rfl, fun z => by rw [← z]; rfl⟩
theorem c_Model_about_no (hM : relM S m T I R) {v p w : Int32} (hb : k_bel S.vs.length v = false) : q_Ci g M_Model_about [.ref m, .int v, .int p, .int w] (sz, T, I, R, J) 0 0 (m_spm m sz T I R J (nI 1, 0, S)) := by
  have hL := hM.1
  refine q_C.of (ls0 := [some (.ref m), some (.int v), some (.int p), some (.int w), none, none, none, none]) (by decide) rfl (by decide) (Nat.le_of_ble_eq_true rfl) rfl ?_
  refine q_aload_n d_Model_about_0 rfl rfl ?_
  refine q_aload_n d_Model_about_1 rfl rfl ?_
  refine q_iload_n d_Model_about_2 rfl rfl ?_
  refine q_callVi (M2 := M_Model_isVersion) d_Model_about_3 ⟨(Nat.le_of_ble_eq_true rfl), (Nat.le_of_ble_eq_true rfl), w_1281, w_10, ⟨by decide, by decide⟩, show _ = some 1 by decide +kernel⟩ w_1278 w_1280 (ci := 11) rfl s_55 hL.1 rfl (Nat.le_of_ble_eq_true rfl) (by omega) (by omega) (c_Model_isVersion hL hM.2.1.1 v) ?_
  rintro _ _ ⟨rfl, rfl⟩
  rw [hb]
  refine q_if_ne (tgt := 13) d_Model_about_6 rfl (fun hc => ?_) (fun hc => ?_)
  · exact absurd rfl hc
  refine q_iconst (v := nI 1) d_Model_about_9 (by decide) ?_
  refine q_goto (tgt := 27) d_Model_about_10 rfl ?_
  refine q_putI (ci := 11) (fk := 0) d_Model_about_27 rfl (Nat.le_of_ble_eq_true rfl) w_1104 (Or.inl rfl) (fun _ _ => rfl) rfl rfl hL.1 ?_
  refine q_aload_n d_Model_about_30 rfl rfl ?_
  refine q_getI (ci := 11) (fk := 0) d_Model_about_31 rfl (Nat.le_of_ble_eq_true rfl) w_1104 (fun _ _ => rfl) hL.1 ?_
  rw [q_upI_self]
  refine q_if_le (tgt := 39) d_Model_about_34 rfl (fun hc => ?_) (fun hc => ?_)
  · exact absurd hc (by decide)
  · refine q_iconst (v := nI 0) d_Model_about_37 (by decide) ?_
    refine q_iret d_Model_about_38 rfl (by omega) (by omega) ?_
    exact ⟨_, rfl, m_no hM (by decide) _⟩
theorem c_Model_about_no2 (hM : relM S m T I R) {v p w : Int32} (hb : k_bel S.vs.length v = true) (hk : k_bel 4 w = false) : q_Ci g M_Model_about [.ref m, .int v, .int p, .int w] (sz, T, I, R, J) 0 0 (m_spm m sz T I R J (nI 2, 0, S)) := by
  have hL := hM.1
  have fin : ∀ mcc msc : Nat, mcc = 0 → msc = 0 → q_V g M_Model_about 0 0 mcc msc (sz, T, I, R, J) (fun o h' => ∃ r : Int32, o = .inl (some (.int r)) ∧ m_spm m sz T I R J (nI 2, 0, S) r h') 22 [some (.ref m), some (.int v), some (.int p), some (.int w), none, none, none, none] [.ref m] := by
    intro mcc msc m1 m2
    subst m1 m2
    refine q_iconst (v := nI 2) d_Model_about_22 (by decide) ?_
    refine q_goto (tgt := 27) d_Model_about_23 rfl ?_
    refine q_putI (ci := 11) (fk := 0) d_Model_about_27 rfl (Nat.le_of_ble_eq_true rfl) w_1104 (Or.inl rfl) (fun _ _ => rfl) rfl rfl hL.1 ?_
    refine q_aload_n d_Model_about_30 rfl rfl ?_
    refine q_getI (ci := 11) (fk := 0) d_Model_about_31 rfl (Nat.le_of_ble_eq_true rfl) w_1104 (fun _ _ => rfl) hL.1 ?_
    rw [q_upI_self]
    refine q_if_le (tgt := 39) d_Model_about_34 rfl (fun hc => ?_) (fun hc => ?_)
    · exact absurd hc (by decide)
    · refine q_iconst (v := nI 0) d_Model_about_37 (by decide) ?_
      refine q_iret d_Model_about_38 rfl (by omega) (by omega) ?_
      exact ⟨_, rfl, m_no hM (by decide) _⟩
  refine q_C.of (ls0 := [some (.ref m), some (.int v), some (.int p), some (.int w), none, none, none, none]) (by decide) rfl (by decide) (Nat.le_of_ble_eq_true rfl) rfl ?_
  refine q_aload_n d_Model_about_0 rfl rfl ?_
  refine q_aload_n d_Model_about_1 rfl rfl ?_
  refine q_iload_n d_Model_about_2 rfl rfl ?_
  refine q_callVi (M2 := M_Model_isVersion) d_Model_about_3 ⟨(Nat.le_of_ble_eq_true rfl), (Nat.le_of_ble_eq_true rfl), w_1281, w_10, ⟨by decide, by decide⟩, show _ = some 1 by decide +kernel⟩ w_1278 w_1280 (ci := 11) rfl s_55 hL.1 rfl (Nat.le_of_ble_eq_true rfl) (by omega) (by omega) (c_Model_isVersion hL hM.2.1.1 v) ?_
  rintro _ _ ⟨rfl, rfl⟩
  rw [hb]
  refine q_if_ne (tgt := 13) d_Model_about_6 rfl (fun hc => ?_) (fun hc => ?_)
  rotate_left
  · exact absurd hc (by decide)
  refine q_iload_n d_Model_about_13 rfl rfl ?_
  refine q_if_lt (tgt := 22) d_Model_about_14 rfl (fun hc => ?_) (fun hc => ?_)
  · exact fin _ _ rfl rfl
  have h1 := hc
  refine q_iload_n d_Model_about_17 rfl rfl ?_
  refine q_iconst (v := nI 3) d_Model_about_18 (by decide) ?_
  refine q_icmp_le (tgt := 26) d_Model_about_19 rfl (fun hc => ?_) (fun hc => ?_)
  · rw [k_bel4 h1 hc] at hk; cases hk
  · exact fin _ _ rfl rfl
set_option maxHeartbeats 1000000 in
theorem c_Model_about (hw : wf S) (hM : relM S m T I R) {v w : Nat} {p : Int32} {L : List KF} (hv : S.vs[v]? = some L) (hw4 : w < 4) : q_Ci g M_Model_about [.ref m, .int (nI v), .int p, .int (nI w)] (sz, T, I, R, J) 0 0 (m_spm m sz T I R J (0, a_abt L p w, S)) := by
  have hL := hM.1
  have hvl := (List.getElem?_eq_some_iff.mp hv).1
  have hv8 := hw.1.2.1
  have hwf := hw.1.2.2 L (List.mem_of_getElem? hv)
  have hok := hwf.1.2.1
  have h24 := hwf.1.1
  obtain ⟨I1, hI1⟩ : ∃ I1, I1 = q_upI (q_upI I m (nI 0) (nI 0)) m (nI 27) (nI 0) := ⟨_, rfl⟩
  have hps : m_ps m I I1 := by
    rw [hI1]
    exact (m_ps.int (by decide) (by decide) (by decide) (by decide) (by decide)).trans (m_ps.int (by decide) (by decide) (by decide) (by decide) (by decide))
  have hM1 := hM.ps hps
  have z1 : I1 m (nI 0) = 0 := by rw [hI1, q_upI_nk (by omega), q_upI_self]; rfl
  have done : ∀ (I2 : q_I) (r : Int32), m_wk m I1 I2 → r = a_abt L p w → m_spm m sz T I R J (0, a_abt L p w, S) r (sz, T, I2, R, J) := fun I2 r k1 hr =>
    ⟨fun _ => hr, I2, rfl, by rw [k1.2 _ (fun z => absurd (q_nI_inj z) (by decide))]; exact z1, (hps.trans k1.ps).1.1, hM.ps (hps.trans k1.ps)⟩
  refine q_C.of (ls0 := [some (.ref m), some (.int (nI v)), some (.int p), some (.int (nI w)), none, none, none, none]) (by decide) rfl (by decide) (Nat.le_of_ble_eq_true rfl) rfl ?_
  refine q_aload_n d_Model_about_0 rfl rfl ?_
  refine q_aload_n d_Model_about_1 rfl rfl ?_
  refine q_iload_n d_Model_about_2 rfl rfl ?_
  refine q_callVi (M2 := M_Model_isVersion) d_Model_about_3 ⟨(Nat.le_of_ble_eq_true rfl), (Nat.le_of_ble_eq_true rfl), w_1281, w_10, ⟨by decide, by decide⟩, show _ = some 1 by decide +kernel⟩ w_1278 w_1280 (ci := 11) rfl s_55 hL.1 rfl (Nat.le_of_ble_eq_true rfl) (by omega) (by omega) (c_Model_isVersion hL hM.2.1.1 _) ?_
  rintro _ _ ⟨rfl, rfl⟩
  rw [k_bel_nI (by omega) hvl]
  refine q_if_ne (tgt := 13) d_Model_about_6 rfl (fun hc => ?_) (fun hc => ?_)
  rotate_left
  · exact absurd hc (by decide)
  refine q_iload_n d_Model_about_13 rfl rfl ?_
  refine q_if_lt (tgt := 22) d_Model_about_14 rfl (fun hc => ?_) (fun hc => ?_)
  · exact absurd hc (nI_pos (by omega))
  refine q_iload_n d_Model_about_17 rfl rfl ?_
  refine q_iconst (v := nI 3) d_Model_about_18 (by decide) ?_
  refine q_icmp_le (tgt := 26) d_Model_about_19 rfl (fun hc => ?_) (fun hc => ?_)
  rotate_left
  · exact absurd (by rw [nI_leI (by omega) (by omega)]; omega) hc
  refine q_iconst (v := nI 0) d_Model_about_26 (by decide) ?_
  refine q_putI (ci := 11) (fk := 0) d_Model_about_27 rfl (Nat.le_of_ble_eq_true rfl) w_1104 (Or.inl rfl) (fun _ _ => rfl) rfl rfl hL.1 ?_
  refine q_aload_n d_Model_about_30 rfl rfl ?_
  refine q_getI (ci := 11) (fk := 0) d_Model_about_31 rfl (Nat.le_of_ble_eq_true rfl) w_1104 (fun _ _ => rfl) hL.1 ?_
  rw [q_upI_self]
  refine q_if_le (tgt := 39) d_Model_about_34 rfl (fun hc => ?_) (fun hc => ?_)
  rotate_left
  · exact absurd (Int32.le_refl _) hc
  refine q_aload_n d_Model_about_39 rfl rfl ?_
  refine q_iconst (v := nI 0) d_Model_about_40 (by decide) ?_
  refine q_putI (ci := 11) (fk := 27) d_Model_about_41 rfl (Nat.le_of_ble_eq_true rfl) w_1131 (Or.inl rfl) (fun _ _ => rfl) rfl rfl hL.1 ?_
  refine q_aload_n d_Model_about_44 rfl rfl ?_
  refine q_iload_n d_Model_about_45 rfl rfl ?_
  rw [← hI1]
  refine q_callVv (M2 := M_Model_take) d_Model_about_46 ⟨(Nat.le_of_ble_eq_true rfl), (Nat.le_of_ble_eq_true rfl), w_1233, w_10, ⟨by decide, by decide⟩, show _ = some 1 by decide +kernel⟩ w_1230 w_1232 (ci := 11) rfl s_47 hL.1 rfl (Nat.le_of_ble_eq_true rfl) (by omega) (by omega) (c_Model_take0 hL (hM1.vl hv) (by omega) h24 (by rw [hI1, q_upI_self]; decide)) ?_
  rintro _ ⟨I2, rfl, k1, k2, -⟩
  have done2 := done I2
  -- from 80 on
  have fin : ∀ (k : Option Nat) (th : Bool) (mcc msc : Nat), mcc = 0 → msc = 0 → k = (if k_of p = some [] then none else k_fo L (k_of p)) → th = (decide (k_of p = some []) || (k_fo L (k_of p)).isSome) → q_V g M_Model_about 0 0 mcc msc (sz, T, I2, R, J) (fun o h' => ∃ r : Int32, o = .inl (some (.int r)) ∧ m_spm m sz T I R J (0, a_abt L p w, S) r h') 80 [some (.ref m), some (.int (nI v)), some (.int p), some (.int (nI w)), some (.int (p_idx k)), some (.int (p_b th)), none, none] [] := by
    intro k th mcc msc m1 m2 hk hth
    subst m1 m2
    have hkl : ∀ i, k = some i → ∃ f, L[i]? = some f ∧ i < 24 ∧ k_of p ≠ some [] ∧ k_fo L (k_of p) = some i := by
      intro i hi
      rw [hi] at hk
      by_cases h0 : k_of p = some []
      · rw [if_pos h0] at hk; cases hk
      · rw [if_neg h0] at hk
        cases ho : k_of p with
        | none => rw [ho] at hk; cases hk
        | some l =>
          rw [ho] at hk
          obtain ⟨i1, f, i2, -⟩ := k_fi_some hk.symm
          exact ⟨f, i2, by omega, by rw [← ho]; exact h0, hk.symm⟩
    by_cases h3 : w = 3
    · subst h3
      -- the loop
      have hnot : th = false → k_cio L (k_of p) = 0 := by
        intro hf
        rw [hf] at hth
        have hth2 := hth.symm
        rw [Bool.or_eq_false_iff, decide_eq_false_iff_not] at hth2
        cases ho : k_of p with
        | none => rfl
        | some l =>
          rw [ho] at hth2
          refine k_cin_none hwf.1 (fun z => hth2.1 (by rw [z])) ?_
          cases hfi : k_fi L l with
          | none => rfl
          | some i => rw [show k_fo L (some l) = k_fi L l from rfl, hfi] at hth2; cases hth2.2
      have hthl : th = true → ∃ l, k_of p = some l := by
        intro ht
        cases ho : k_of p with
        | none => rw [ho] at hth; rw [ht] at hth; cases hth
        | some l => exact ⟨l, rfl⟩
      have loop : ∀ (l : List Nat), th = true → k_of p = some l → ∀ (j i n mcc msc : Nat), mcc = 0 → msc = 0 → i + j = L.length → n ≤ i → n + k_cin (L.drop i) l = k_cin L l → q_V g M_Model_about 0 0 mcc msc (sz, T, I2, R, J) (fun o h' => ∃ r : Int32, o = .inl (some (.int r)) ∧ m_spm m sz T I R J (0, a_abt L p 3, S) r h') 152 [some (.ref m), some (.int (nI v)), some (.int p), some (.int (nI 3)), some (.int (p_idx k)), some (.int (nI 1)), some (.int (nI n)), some (.int (nI i))] [] := by
        intro l ht hl j
        have hlok := k_of_ok hl
        have hpl : p = nI (k_path l) := ((k_of_iff hlok p).mpr hl).symm
        induction j with
        | zero =>
          intro i n mcc msc m1 m2 hij hni hn
          subst m1 m2
          rw [List.drop_of_length_le (by omega)] at hn
          refine q_iload d_Model_about_152 rfl ?_
          refine q_aload_n d_Model_about_154 rfl rfl ?_
          refine q_getI (ci := 11) (fk := 18) d_Model_about_155 rfl (Nat.le_of_ble_eq_true rfl) w_1122 (fun _ _ => rfl) hL.1 ?_
          rw [k2.1]
          refine q_icmp_ge (tgt := 212) d_Model_about_158 rfl (fun hc => ?_) (fun hc => ?_)
          · refine q_iload d_Model_about_212 rfl ?_
            refine q_iret d_Model_about_214 rfl (by omega) (by omega) ?_
            refine ⟨_, rfl, done2 _ k1 ?_⟩
            unfold a_abt
            rw [if_pos rfl, hl]
            exact congrArg nI hn
          · exact absurd (by rw [nI_leI (by omega) (by omega)]; omega) hc
        | succ j ih =>
          intro i n mcc msc m1 m2 hij hni hn
          subst m1 m2
          obtain ⟨f, hf⟩ : ∃ f, L[i]? = some f := ⟨_, List.getElem?_eq_getElem (by omega)⟩
          have hfok := (hok f (List.mem_of_getElem? hf)).1
          have hd : L.drop i = f :: L.drop (i + 1) := by
            obtain ⟨hi2, hf2⟩ := List.getElem?_eq_some_iff.mp hf
            rw [List.drop_eq_getElem_cons hi2, hf2]
          rw [hd, k_cin_cons] at hn
          have next0 : ¬ (f.1 ≠ l ∧ l <+: f.1) → ∀ mcc msc : Nat, mcc = 0 → msc = 0 → q_V g M_Model_about 0 0 mcc msc (sz, T, I2, R, J) (fun o h' => ∃ r : Int32, o = .inl (some (.int r)) ∧ m_spm m sz T I R J (0, a_abt L p 3, S) r h') 202 [some (.ref m), some (.int (nI v)), some (.int p), some (.int (nI 3)), some (.int (p_idx k)), some (.int (nI 1)), some (.int (nI n)), some (.int (nI i))] [] := by
            intro hno mcc msc m1 m2
            subst m1 m2
            rw [if_neg hno] at hn
            refine q_iload d_Model_about_202 rfl ?_
            refine q_istore d_Model_about_204 (Nat.le_of_ble_eq_true rfl) (by first | exact q_ok0 | exact q_okI rfl | exact q_okR rfl | exact q_okN rfl) rfl ?_
            first | refine q_iincN d_Model_about_206 rfl (Nat.le_of_ble_eq_true rfl) (by first | exact q_ok0 | exact q_okI rfl | exact q_okR rfl | exact q_okN rfl) rfl ?_ | refine q_iinc d_Model_about_206 rfl rfl (Nat.le_of_ble_eq_true rfl) (by first | exact q_ok0 | exact q_okI rfl | exact q_okR rfl | exact q_okN rfl) rfl ?_
            refine q_goto (tgt := 152) d_Model_about_209 rfl ?_
            exact ih (i + 1) n _ _ rfl rfl (by omega) (by omega) (by omega)
          obtain ⟨w1, -⟩ := k2.2.2 i f hf
          refine q_iload d_Model_about_152 rfl ?_
          refine q_aload_n d_Model_about_154 rfl rfl ?_
          refine q_getI (ci := 11) (fk := 18) d_Model_about_155 rfl (Nat.le_of_ble_eq_true rfl) w_1122 (fun _ _ => rfl) hL.1 ?_
          rw [k2.1]
          refine q_icmp_ge (tgt := 212) d_Model_about_158 rfl (fun hc => ?_) (fun hc => ?_)
          · rw [nI_leI (by omega) (by omega)] at hc
            omega
          refine q_iload d_Model_about_161 rfl ?_
          refine q_if_eq (tgt := 212) d_Model_about_163 rfl (fun hc => ?_) (fun hc => ?_)
          · exact absurd hc (by decide)
          refine q_aload_n d_Model_about_166 rfl rfl ?_
          refine q_getR (ci := 11) (fk := 19) d_Model_about_167 rfl (Nat.le_of_ble_eq_true rfl) w_1123 (fun _ _ => rfl) hL.1 (hL.2 19 _ _ _ rfl).1 ?_
          refine q_iload d_Model_about_170 rfl ?_
          refine q_iald d_Model_about_172 (hL.2 19 _ _ _ rfl).2 (by first | assumption | exact vp_in_nI (by omega) (by omega)) ?_
          rw [w1]
          refine q_iload_n d_Model_about_173 rfl rfl ?_
          refine q_icmp_eq (tgt := 202) d_Model_about_174 rfl (fun hc => ?_) (fun hc => ?_)
          · have he : f.1 = l := k_path_inj hfok hlok (by
              have h9 : nI (k_path f.1) = p := hc
              rw [hpl] at h9
              have q1 := k_p28 hfok
              have q2 := k_p28 hlok
              exact (nI_eq (by omega) (by omega)).mp h9)
            exact next0 (fun z => z.1 he) _ _ rfl rfl
          have he : f.1 ≠ l := fun z => hc (by rw [hpl, ← z])
          refine q_aload_n d_Model_about_177 rfl rfl ?_
          refine q_getR (ci := 11) (fk := 19) d_Model_about_178 rfl (Nat.le_of_ble_eq_true rfl) w_1123 (fun _ _ => rfl) hL.1 (hL.2 19 _ _ _ rfl).1 ?_
          refine q_iload d_Model_about_181 rfl ?_
          refine q_iald d_Model_about_183 (hL.2 19 _ _ _ rfl).2 (by first | assumption | exact vp_in_nI (by omega) (by omega)) ?_
          rw [w1]
          refine q_iload_n d_Model_about_184 rfl rfl ?_
          refine q_iload_n d_Model_about_185 rfl rfl ?_
          refine q_callSi (M2 := M_Model_depth) d_Model_about_186 ⟨(Nat.le_of_ble_eq_true rfl), (Nat.le_of_ble_eq_true rfl), w_1255, w_10, ⟨by decide, by decide⟩, show _ = some 1 by decide +kernel⟩ w_1253 w_1254 rfl (Nat.le_of_ble_eq_true rfl) (by omega) (by omega) (c_Model_depth p) ?_
          rintro _ _ ⟨rfl, rfl⟩
          rw [hl, show p_dep 0 (some l) = nI (0 + l.length) from rfl, Nat.zero_add (l.length), hpl]
          refine q_callSi (M2 := M_Model_isIn) d_Model_about_189 ⟨(Nat.le_of_ble_eq_true rfl), (Nat.le_of_ble_eq_true rfl), w_1314, w_10, ⟨by decide, by decide⟩, show _ = some 3 by decide +kernel⟩ w_1312 w_1313 rfl (Nat.le_of_ble_eq_true rfl) (by omega) (by omega) (c_Model_isIn hfok hlok) ?_
          rintro _ _ ⟨rfl, rfl⟩
          rw [← hpl]
          by_cases hin : l <+: f.1
          · rw [if_pos hin]
            refine q_if_eq (tgt := 202) d_Model_about_192 rfl (fun hc => ?_) (fun hc => ?_)
            · exact absurd hc (by decide)
            rw [if_pos ⟨he, hin⟩] at hn
            refine q_iload d_Model_about_195 rfl ?_
            refine q_iconst (v := nI 1) d_Model_about_197 (by decide) ?_
            first | refine q_iaddN d_Model_about_198 ?_ | refine q_iadd d_Model_about_198 ?_
            refine q_goto (tgt := 204) d_Model_about_199 rfl ?_
            refine q_istore d_Model_about_204 (Nat.le_of_ble_eq_true rfl) (by first | exact q_ok0 | exact q_okI rfl | exact q_okR rfl | exact q_okN rfl) rfl ?_
            first | refine q_iincN d_Model_about_206 rfl (Nat.le_of_ble_eq_true rfl) (by first | exact q_ok0 | exact q_okI rfl | exact q_okR rfl | exact q_okN rfl) rfl ?_ | refine q_iinc d_Model_about_206 rfl rfl (Nat.le_of_ble_eq_true rfl) (by first | exact q_ok0 | exact q_okI rfl | exact q_okR rfl | exact q_okN rfl) rfl ?_
            refine q_goto (tgt := 152) d_Model_about_209 rfl ?_
            exact ih (i + 1) (n + 1) _ _ rfl rfl (by omega) (by omega) (by omega)
          · rw [if_neg hin]
            refine q_if_eq (tgt := 202) d_Model_about_192 rfl (fun hc => ?_) (fun hc => ?_)
            rotate_left
            · exact absurd rfl hc
            exact next0 (fun z => hin z.2) _ _ rfl rfl
      refine q_iload_n d_Model_about_80 rfl rfl ?_
      refine q_if_ne (tgt := 109) d_Model_about_81 rfl (fun hc => ?_) (fun hc => ?_)
      rotate_left
      · exact absurd hc (by decide)
      refine q_iload_n d_Model_about_109 rfl rfl ?_
      refine q_iconst (v := nI 3) d_Model_about_110 (by decide) ?_
      refine q_icmp_ge (tgt := 146) d_Model_about_111 rfl (fun hc => ?_) (fun hc => ?_)
      rotate_left
      · exact absurd (Int32.le_refl _) hc
      refine q_iconst (v := nI 0) d_Model_about_146 (by decide) ?_
      refine q_istore d_Model_about_147 (Nat.le_of_ble_eq_true rfl) (by first | exact q_ok0 | exact q_okI rfl | exact q_okR rfl | exact q_okN rfl) rfl ?_
      refine q_iconst (v := nI 0) d_Model_about_149 (by decide) ?_
      refine q_istore d_Model_about_150 (Nat.le_of_ble_eq_true rfl) (by first | exact q_ok0 | exact q_okI rfl | exact q_okR rfl | exact q_okN rfl) rfl ?_
      cases ht : th with
      | true =>
        obtain ⟨l, hl⟩ := hthl ht
        exact loop l ht hl L.length 0 0 _ _ rfl rfl (by omega) (by omega) (by rw [List.drop_zero, Nat.zero_add])
      | false =>
        have hz := hnot ht
        have hr : nI 0 = a_abt L p 3 := by unfold a_abt; rw [if_pos rfl, hz]
        refine q_iload d_Model_about_152 rfl ?_
        refine q_aload_n d_Model_about_154 rfl rfl ?_
        refine q_getI (ci := 11) (fk := 18) d_Model_about_155 rfl (Nat.le_of_ble_eq_true rfl) w_1122 (fun _ _ => rfl) hL.1 ?_
        rw [k2.1]
        refine q_icmp_ge (tgt := 212) d_Model_about_158 rfl (fun hc => ?_) (fun hc => ?_)
        · refine q_iload d_Model_about_212 rfl ?_
          refine q_iret d_Model_about_214 rfl (by omega) (by omega) ?_
          exact ⟨_, rfl, done2 _ k1 hr⟩
        · refine q_iload d_Model_about_161 rfl ?_
          refine q_if_eq (tgt := 212) d_Model_about_163 rfl (fun hc => ?_) (fun hc => ?_)
          · refine q_iload d_Model_about_212 rfl ?_
            refine q_iret d_Model_about_214 rfl (by omega) (by omega) ?_
            exact ⟨_, rfl, done2 _ k1 hr⟩
          · exact absurd rfl hc
    by_cases hw0 : w = 0
    · subst hw0
      refine q_iload_n d_Model_about_80 rfl rfl ?_
      refine q_if_ne (tgt := 109) d_Model_about_81 rfl (fun hc => ?_) (fun hc => ?_)
      · exact absurd rfl hc
      cases ht : th with
      | false =>
        rw [ht] at hth
        have hth2 := hth.symm
        rw [Bool.or_eq_false_iff, decide_eq_false_iff_not] at hth2
        have hfo : k_fo L (k_of p) = none := by
          cases hq : k_fo L (k_of p) with
          | none => rfl
          | some i => rw [hq] at hth2; cases hth2.2
        refine q_iload d_Model_about_84 rfl ?_
        refine q_if_ne (tgt := 93) d_Model_about_86 rfl (fun hc => ?_) (fun hc => ?_)
        · exact absurd rfl hc
        refine q_iconst (v := (-1)) d_Model_about_89 (by decide) ?_
        refine q_goto (tgt := 108) d_Model_about_90 rfl ?_
        refine q_iret d_Model_about_108 rfl (by omega) (by omega) ?_
        exact ⟨_, rfl, done2 _ k1 (by unfold a_abt; rw [if_neg (by decide), if_neg hth2.1, hfo]; rfl)⟩
      | true =>
        refine q_iload d_Model_about_84 rfl ?_
        refine q_if_ne (tgt := 93) d_Model_about_86 rfl (fun hc => ?_) (fun hc => ?_)
        rotate_left
        · exact absurd hc (by decide)
        by_cases h0 : k_of p = some []
        · have hp0 := (k_of0 p).mpr h0
          refine q_iload_n d_Model_about_93 rfl rfl ?_
          refine q_if_ne (tgt := 101) d_Model_about_94 rfl (fun hc => ?_) (fun hc => ?_)
          · exact absurd hp0 hc
          refine q_iconst (v := nI 2) d_Model_about_97 (by decide) ?_
          refine q_goto (tgt := 108) d_Model_about_98 rfl ?_
          refine q_iret d_Model_about_108 rfl (by omega) (by omega) ?_
          exact ⟨_, rfl, done2 _ k1 (by unfold a_abt; rw [if_neg (by decide), if_pos h0]; rfl)⟩
        · refine q_iload_n d_Model_about_93 rfl rfl ?_
          refine q_if_ne (tgt := 101) d_Model_about_94 rfl (fun hc => ?_) (fun hc => ?_)
          rotate_left
          · exact absurd ((k_of0 p).mp (by have := hc; simpa using this)) h0
          rw [if_neg h0] at hk
          cases hk2 : k with
          | none =>
            rw [hk2] at hk
            rw [ht, decide_eq_false h0, ← hk] at hth
            cases hth
          | some i =>
            obtain ⟨f, f1, f2, f3, f4⟩ := hkl i hk2
            rw [show p_idx (some i) = nI i from rfl]
            refine q_aload_n d_Model_about_101 rfl rfl ?_
            refine q_getR (ci := 11) (fk := 20) d_Model_about_102 rfl (Nat.le_of_ble_eq_true rfl) w_1124 (fun _ _ => rfl) hL.1 (hL.2 20 _ _ _ rfl).1 ?_
            refine q_iload d_Model_about_105 rfl ?_
            refine q_iald d_Model_about_107 (hL.2 20 _ _ _ rfl).2 (by first | assumption | exact vp_in_nI (by omega) (by omega)) ?_
            rw [(k2.2.2 i f f1).2.1]
            refine q_iret d_Model_about_108 rfl (by omega) (by omega) ?_
            exact ⟨_, rfl, done2 _ k1 (by unfold a_abt; rw [if_neg (by decide), if_neg h0, f4]; simp only [f1, if_pos])⟩
    · refine q_iload_n d_Model_about_80 rfl rfl ?_
      refine q_if_ne (tgt := 109) d_Model_about_81 rfl (fun hc => ?_) (fun hc => ?_)
      rotate_left
      · exact absurd (nI_zero (by omega) (by have := hc; simpa using this)) hw0
      refine q_iload_n d_Model_about_109 rfl rfl ?_
      refine q_iconst (v := nI 3) d_Model_about_110 (by decide) ?_
      refine q_icmp_ge (tgt := 146) d_Model_about_111 rfl (fun hc => ?_) (fun hc => ?_)
      · rw [nI_leI (by omega) (by omega)] at hc
        omega
      cases hk2 : k with
      | none =>
        rw [hk2] at hk
        have hz : nI 0 = a_abt L p w := by
          unfold a_abt
          rw [if_neg h3]
          by_cases h0 : k_of p = some []
          · rw [if_pos h0, if_neg hw0]; rfl
          · rw [if_neg h0] at hk ⊢
            rw [← hk]
            exact (if_neg hw0).symm
        refine q_iload d_Model_about_114 rfl ?_
        refine q_if_ge (tgt := 123) d_Model_about_116 rfl (fun hc => ?_) (fun hc => ?_)
        · exact absurd (show (0 : Int32) ≤ -1 from hc) (by decide)
        refine q_iconst (v := nI 0) d_Model_about_119 (by decide) ?_
        refine q_goto (tgt := 145) d_Model_about_120 rfl ?_
        refine q_iret d_Model_about_145 rfl (by omega) (by omega) ?_
        exact ⟨_, rfl, done2 _ k1 hz⟩
      | some i =>
        obtain ⟨f, f1, f2, f3, f4⟩ := hkl i hk2
        have hab : a_abt L p w = if w = 0 then f.2.1 else if w = 1 then f.2.2.1 else f.2.2.2.1 := by
          unfold a_abt
          rw [if_neg h3, if_neg f3, f4]
          simp only [f1]
        rw [if_neg hw0] at hab
        rw [show p_idx (some i) = nI i from rfl]
        refine q_iload d_Model_about_114 rfl ?_
        refine q_if_ge (tgt := 123) d_Model_about_116 rfl (fun hc => ?_) (fun hc => ?_)
        rotate_left
        · exact absurd (nI_pos' (by omega)) hc
        by_cases hw1 : w = 1
        · subst hw1
          rw [if_pos rfl] at hab
          refine q_iload_n d_Model_about_123 rfl rfl ?_
          refine q_iconst (v := nI 1) d_Model_about_124 (by decide) ?_
          refine q_icmp_ne (tgt := 138) d_Model_about_125 rfl (fun hc => ?_) (fun hc => ?_)
          · exact absurd rfl hc
          refine q_aload_n d_Model_about_128 rfl rfl ?_
          refine q_getR (ci := 11) (fk := 21) d_Model_about_129 rfl (Nat.le_of_ble_eq_true rfl) w_1125 (fun _ _ => rfl) hL.1 (hL.2 21 _ _ _ rfl).1 ?_
          refine q_iload d_Model_about_132 rfl ?_
          refine q_iald d_Model_about_134 (hL.2 21 _ _ _ rfl).2 (by first | assumption | exact vp_in_nI (by omega) (by omega)) ?_
          rw [(k2.2.2 i f f1).2.2.1]
          refine q_goto (tgt := 145) d_Model_about_135 rfl ?_
          refine q_iret d_Model_about_145 rfl (by omega) (by omega) ?_
          exact ⟨_, rfl, done2 _ k1 hab.symm⟩
        · rw [if_neg hw1] at hab
          refine q_iload_n d_Model_about_123 rfl rfl ?_
          refine q_iconst (v := nI 1) d_Model_about_124 (by decide) ?_
          refine q_icmp_ne (tgt := 138) d_Model_about_125 rfl (fun hc => ?_) (fun hc => ?_)
          rotate_left
          · exact absurd ((nI_eq (by omega) (by omega)).mp (by have := hc; simpa using this)) hw1
          refine q_aload_n d_Model_about_138 rfl rfl ?_
          refine q_getR (ci := 11) (fk := 22) d_Model_about_139 rfl (Nat.le_of_ble_eq_true rfl) w_1126 (fun _ _ => rfl) hL.1 (hL.2 22 _ _ _ rfl).1 ?_
          refine q_iload d_Model_about_142 rfl ?_
          refine q_iald d_Model_about_144 (hL.2 22 _ _ _ rfl).2 (by first | assumption | exact vp_in_nI (by omega) (by omega)) ?_
          rw [(k2.2.2 i f f1).2.2.2]
          refine q_iret d_Model_about_145 rfl (by omega) (by omega) ?_
          exact ⟨_, rfl, done2 _ k1 hab.symm⟩
  by_cases h0 : k_of p = some []
  · have hp0 := (k_of0 p).mpr h0
    refine q_iload_n d_Model_about_49 rfl rfl ?_
    refine q_if_ne (tgt := 57) d_Model_about_50 rfl (fun hc => ?_) (fun hc => ?_)
    · exact absurd hp0 hc
    refine q_iconst (v := (-1)) d_Model_about_53 (by decide) ?_
    refine q_goto (tgt := 62) d_Model_about_54 rfl ?_
    refine q_istore d_Model_about_62 (Nat.le_of_ble_eq_true rfl) (by first | exact q_ok0 | exact q_okI rfl | exact q_okR rfl | exact q_okN rfl) rfl ?_
    refine q_iload_n d_Model_about_64 rfl rfl ?_
    refine q_if_eq (tgt := 73) d_Model_about_65 rfl (fun hc => ?_) (fun hc => ?_)
    rotate_left
    · exact absurd hp0 (by have := hc; simpa using this)
    refine q_iconst (v := nI 1) d_Model_about_73 (by decide) ?_
    refine q_goto (tgt := 78) d_Model_about_74 rfl ?_
    refine q_istore d_Model_about_78 (Nat.le_of_ble_eq_true rfl) (by first | exact q_ok0 | exact q_okI rfl | exact q_okR rfl | exact q_okN rfl) rfl ?_
    exact fin none true _ _ rfl rfl (by rw [if_pos h0]) (by rw [decide_eq_true h0]; rfl)
  · have hp0 : ¬ p = 0 := fun z => h0 ((k_of0 p).mp z)
    refine q_iload_n d_Model_about_49 rfl rfl ?_
    refine q_if_ne (tgt := 57) d_Model_about_50 rfl (fun hc => ?_) (fun hc => ?_)
    rotate_left
    · exact absurd (by have := hc; simpa using this) hp0
    refine q_aload_n d_Model_about_57 rfl rfl ?_
    refine q_iload_n d_Model_about_58 rfl rfl ?_
    refine q_callVi (M2 := M_Model_find) d_Model_about_59 ⟨(Nat.le_of_ble_eq_true rfl), (Nat.le_of_ble_eq_true rfl), w_1266, w_10, ⟨by decide, by decide⟩, show _ = some 1 by decide +kernel⟩ w_1263 w_1265 (ci := 11) rfl s_53 hL.1 rfl (Nat.le_of_ble_eq_true rfl) (by omega) (by omega) (c_Model_findF hL k2 hok p) ?_
    rintro _ _ ⟨rfl, rfl⟩
    refine q_istore d_Model_about_62 (Nat.le_of_ble_eq_true rfl) (by first | exact q_ok0 | exact q_okI rfl | exact q_okR rfl | exact q_okN rfl) rfl ?_
    refine q_iload_n d_Model_about_64 rfl rfl ?_
    refine q_if_eq (tgt := 73) d_Model_about_65 rfl (fun hc => ?_) (fun hc => ?_)
    · exact absurd hc hp0
    cases hfo : k_fo L (k_of p) with
    | none =>
      refine q_iload d_Model_about_68 rfl ?_
      refine q_if_lt (tgt := 77) d_Model_about_70 rfl (fun hc => ?_) (fun hc => ?_)
      rotate_left
      · exact absurd (show p_idx none < 0 by decide) hc
      refine q_iconst (v := nI 0) d_Model_about_77 (by decide) ?_
      refine q_istore d_Model_about_78 (Nat.le_of_ble_eq_true rfl) (by first | exact q_ok0 | exact q_okI rfl | exact q_okR rfl | exact q_okN rfl) rfl ?_
      exact fin none false _ _ rfl rfl (by rw [if_neg h0, hfo]) (by rw [decide_eq_false h0, hfo]; rfl)
    | some i =>
      have hil : i < L.length := by
        cases ho : k_of p with
        | none => rw [ho] at hfo; cases hfo
        | some l => rw [ho] at hfo; exact (k_fi_some hfo).1
      refine q_iload d_Model_about_68 rfl ?_
      refine q_if_lt (tgt := 77) d_Model_about_70 rfl (fun hc => ?_) (fun hc => ?_)
      · exact absurd hc (show ¬ nI i < 0 from nI_pos (by omega))
      refine q_iconst (v := nI 1) d_Model_about_73 (by decide) ?_
      refine q_goto (tgt := 78) d_Model_about_74 rfl ?_
      refine q_istore d_Model_about_78 (Nat.le_of_ble_eq_true rfl) (by first | exact q_ok0 | exact q_okI rfl | exact q_okR rfl | exact q_okN rfl) rfl ?_
      exact fin (some i) true _ _ rfl rfl (by rw [if_neg h0, hfo]) (by rw [decide_eq_false h0, hfo]; rfl)
end About
