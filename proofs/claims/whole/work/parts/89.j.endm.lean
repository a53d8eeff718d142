/-! end: the reference's side -/
abbrev M_Model_isSchema : q_M := (⟨"LensPathsModel", "isSchema", "(I)Z"⟩, prog_14_method_49_code, 5, (some .boolean), "LensPathsModel", [], false, 1, 22)
theorem d_Model_isSchema_0 : decode prog_14_method_49_code 0 = .ok (.aload_n 0, 1) := by decide +kernel
theorem d_Model_isSchema_1 : decode prog_14_method_49_code 1 = .ok (.getfield 108, 3) := by decide +kernel
theorem d_Model_isSchema_4 : decode prog_14_method_49_code 4 = .ok (.aload_n 0, 1) := by decide +kernel
theorem d_Model_isSchema_5 : decode prog_14_method_49_code 5 = .ok (.getfield 13, 3) := by decide +kernel
theorem d_Model_isSchema_8 : decode prog_14_method_49_code 8 = .ok (.iload_n 1, 1) := by decide +kernel
theorem d_Model_isSchema_9 : decode prog_14_method_49_code 9 = .ok (.iaload, 1) := by decide +kernel
theorem d_Model_isSchema_10 : decode prog_14_method_49_code 10 = .ok (.if_icmp .ne 7, 3) := by decide +kernel
theorem d_Model_isSchema_13 : decode prog_14_method_49_code 13 = .ok (.iconst 1, 1) := by decide +kernel
theorem d_Model_isSchema_14 : decode prog_14_method_49_code 14 = .ok (.goto 4, 3) := by decide +kernel
theorem d_Model_isSchema_17 : decode prog_14_method_49_code 17 = .ok (.iconst 0, 1) := by decide +kernel
theorem d_Model_isSchema_18 : decode prog_14_method_49_code 18 = .ok (.istore_n 2, 1) := by decide +kernel
theorem d_Model_isSchema_19 : decode prog_14_method_49_code 19 = .ok (.iconst 0, 1) := by decide +kernel
theorem d_Model_isSchema_20 : decode prog_14_method_49_code 20 = .ok (.istore_n 3, 1) := by decide +kernel
theorem d_Model_isSchema_21 : decode prog_14_method_49_code 21 = .ok (.iload_n 3, 1) := by decide +kernel
theorem d_Model_isSchema_22 : decode prog_14_method_49_code 22 = .ok (.aload_n 0, 1) := by decide +kernel
theorem d_Model_isSchema_23 : decode prog_14_method_49_code 23 = .ok (.getfield 13, 3) := by decide +kernel
theorem d_Model_isSchema_26 : decode prog_14_method_49_code 26 = .ok (.iload_n 1, 1) := by decide +kernel
theorem d_Model_isSchema_27 : decode prog_14_method_49_code 27 = .ok (.iaload, 1) := by decide +kernel
theorem d_Model_isSchema_28 : decode prog_14_method_49_code 28 = .ok (.if_icmp .ge 104, 3) := by decide +kernel
theorem d_Model_isSchema_31 : decode prog_14_method_49_code 31 = .ok (.iload_n 2, 1) := by decide +kernel
theorem d_Model_isSchema_32 : decode prog_14_method_49_code 32 = .ok (.ifCond .eq 100, 3) := by decide +kernel
theorem d_Model_isSchema_35 : decode prog_14_method_49_code 35 = .ok (.aload_n 0, 1) := by decide +kernel
theorem d_Model_isSchema_36 : decode prog_14_method_49_code 36 = .ok (.aload_n 0, 1) := by decide +kernel
theorem d_Model_isSchema_37 : decode prog_14_method_49_code 37 = .ok (.getfield 17, 3) := by decide +kernel
theorem d_Model_isSchema_40 : decode prog_14_method_49_code 40 = .ok (.bipush 24, 2) := by decide +kernel
theorem d_Model_isSchema_42 : decode prog_14_method_49_code 42 = .ok (.iload_n 1, 1) := by decide +kernel
theorem d_Model_isSchema_43 : decode prog_14_method_49_code 43 = .ok (.imul, 1) := by decide +kernel
theorem d_Model_isSchema_44 : decode prog_14_method_49_code 44 = .ok (.iload_n 3, 1) := by decide +kernel
theorem d_Model_isSchema_45 : decode prog_14_method_49_code 45 = .ok (.iadd, 1) := by decide +kernel
theorem d_Model_isSchema_46 : decode prog_14_method_49_code 46 = .ok (.iaload, 1) := by decide +kernel
theorem d_Model_isSchema_47 : decode prog_14_method_49_code 47 = .ok (.invokevirtual 111, 3) := by decide +kernel
theorem d_Model_isSchema_50 : decode prog_14_method_49_code 50 = .ok (.istore 4, 2) := by decide +kernel
theorem d_Model_isSchema_52 : decode prog_14_method_49_code 52 = .ok (.iload 4, 2) := by decide +kernel
theorem d_Model_isSchema_54 : decode prog_14_method_49_code 54 = .ok (.ifCond .lt 70, 3) := by decide +kernel
theorem d_Model_isSchema_57 : decode prog_14_method_49_code 57 = .ok (.aload_n 0, 1) := by decide +kernel
theorem d_Model_isSchema_58 : decode prog_14_method_49_code 58 = .ok (.getfield 56, 3) := by decide +kernel
theorem d_Model_isSchema_61 : decode prog_14_method_49_code 61 = .ok (.iload 4, 2) := by decide +kernel
theorem d_Model_isSchema_63 : decode prog_14_method_49_code 63 = .ok (.iaload, 1) := by decide +kernel
theorem d_Model_isSchema_64 : decode prog_14_method_49_code 64 = .ok (.aload_n 0, 1) := by decide +kernel
theorem d_Model_isSchema_65 : decode prog_14_method_49_code 65 = .ok (.getfield 20, 3) := by decide +kernel
theorem d_Model_isSchema_68 : decode prog_14_method_49_code 68 = .ok (.bipush 24, 2) := by decide +kernel
theorem d_Model_isSchema_70 : decode prog_14_method_49_code 70 = .ok (.iload_n 1, 1) := by decide +kernel
theorem d_Model_isSchema_71 : decode prog_14_method_49_code 71 = .ok (.imul, 1) := by decide +kernel
theorem d_Model_isSchema_72 : decode prog_14_method_49_code 72 = .ok (.iload_n 3, 1) := by decide +kernel
theorem d_Model_isSchema_73 : decode prog_14_method_49_code 73 = .ok (.iadd, 1) := by decide +kernel
theorem d_Model_isSchema_74 : decode prog_14_method_49_code 74 = .ok (.iaload, 1) := by decide +kernel
theorem d_Model_isSchema_75 : decode prog_14_method_49_code 75 = .ok (.if_icmp .ne 49, 3) := by decide +kernel
theorem d_Model_isSchema_78 : decode prog_14_method_49_code 78 = .ok (.aload_n 0, 1) := by decide +kernel
theorem d_Model_isSchema_79 : decode prog_14_method_49_code 79 = .ok (.getfield 59, 3) := by decide +kernel
theorem d_Model_isSchema_82 : decode prog_14_method_49_code 82 = .ok (.iload 4, 2) := by decide +kernel
theorem d_Model_isSchema_84 : decode prog_14_method_49_code 84 = .ok (.iaload, 1) := by decide +kernel
theorem d_Model_isSchema_85 : decode prog_14_method_49_code 85 = .ok (.aload_n 0, 1) := by decide +kernel
theorem d_Model_isSchema_86 : decode prog_14_method_49_code 86 = .ok (.getfield 23, 3) := by decide +kernel
theorem d_Model_isSchema_89 : decode prog_14_method_49_code 89 = .ok (.bipush 24, 2) := by decide +kernel
theorem d_Model_isSchema_91 : decode prog_14_method_49_code 91 = .ok (.iload_n 1, 1) := by decide +kernel
theorem d_Model_isSchema_92 : decode prog_14_method_49_code 92 = .ok (.imul, 1) := by decide +kernel
theorem d_Model_isSchema_93 : decode prog_14_method_49_code 93 = .ok (.iload_n 3, 1) := by decide +kernel
theorem d_Model_isSchema_94 : decode prog_14_method_49_code 94 = .ok (.iadd, 1) := by decide +kernel
theorem d_Model_isSchema_95 : decode prog_14_method_49_code 95 = .ok (.iaload, 1) := by decide +kernel
theorem d_Model_isSchema_96 : decode prog_14_method_49_code 96 = .ok (.if_icmp .ne 28, 3) := by decide +kernel
theorem d_Model_isSchema_99 : decode prog_14_method_49_code 99 = .ok (.aload_n 0, 1) := by decide +kernel
theorem d_Model_isSchema_100 : decode prog_14_method_49_code 100 = .ok (.getfield 62, 3) := by decide +kernel
theorem d_Model_isSchema_103 : decode prog_14_method_49_code 103 = .ok (.iload 4, 2) := by decide +kernel
theorem d_Model_isSchema_105 : decode prog_14_method_49_code 105 = .ok (.iaload, 1) := by decide +kernel
theorem d_Model_isSchema_106 : decode prog_14_method_49_code 106 = .ok (.aload_n 0, 1) := by decide +kernel
theorem d_Model_isSchema_107 : decode prog_14_method_49_code 107 = .ok (.getfield 26, 3) := by decide +kernel
theorem d_Model_isSchema_110 : decode prog_14_method_49_code 110 = .ok (.bipush 24, 2) := by decide +kernel
theorem d_Model_isSchema_112 : decode prog_14_method_49_code 112 = .ok (.iload_n 1, 1) := by decide +kernel
theorem d_Model_isSchema_113 : decode prog_14_method_49_code 113 = .ok (.imul, 1) := by decide +kernel
theorem d_Model_isSchema_114 : decode prog_14_method_49_code 114 = .ok (.iload_n 3, 1) := by decide +kernel
theorem d_Model_isSchema_115 : decode prog_14_method_49_code 115 = .ok (.iadd, 1) := by decide +kernel
theorem d_Model_isSchema_116 : decode prog_14_method_49_code 116 = .ok (.iaload, 1) := by decide +kernel
theorem d_Model_isSchema_117 : decode prog_14_method_49_code 117 = .ok (.if_icmp .ne 7, 3) := by decide +kernel
theorem d_Model_isSchema_120 : decode prog_14_method_49_code 120 = .ok (.iconst 1, 1) := by decide +kernel
theorem d_Model_isSchema_121 : decode prog_14_method_49_code 121 = .ok (.goto 4, 3) := by decide +kernel
theorem d_Model_isSchema_124 : decode prog_14_method_49_code 124 = .ok (.iconst 0, 1) := by decide +kernel
theorem d_Model_isSchema_125 : decode prog_14_method_49_code 125 = .ok (.istore_n 2, 1) := by decide +kernel
theorem d_Model_isSchema_126 : decode prog_14_method_49_code 126 = .ok (.iinc 3 1, 3) := by decide +kernel
theorem d_Model_isSchema_129 : decode prog_14_method_49_code 129 = .ok (.goto (-108), 3) := by decide +kernel
theorem d_Model_isSchema_132 : decode prog_14_method_49_code 132 = .ok (.iload_n 2, 1) := by decide +kernel
theorem d_Model_isSchema_133 : decode prog_14_method_49_code 133 = .ok (.ireturn, 1) := by decide +kernel
abbrev M_Model_end : q_M := (⟨"LensPathsModel", "end", "(I)I"⟩, prog_14_method_50_code, 3, (some .int), "LensPathsModel", [], false, 6, 157)
theorem d_Model_end_0 : decode prog_14_method_50_code 0 = .ok (.aload_n 0, 1) := by decide +kernel
theorem d_Model_end_1 : decode prog_14_method_50_code 1 = .ok (.aload_n 0, 1) := by decide +kernel
theorem d_Model_end_2 : decode prog_14_method_50_code 2 = .ok (.getfield 257, 3) := by decide +kernel
theorem d_Model_end_5 : decode prog_14_method_50_code 5 = .ok (.ifCond .ne 7, 3) := by decide +kernel
theorem d_Model_end_8 : decode prog_14_method_50_code 8 = .ok (.iconst 1, 1) := by decide +kernel
theorem d_Model_end_9 : decode prog_14_method_50_code 9 = .ok (.goto 21, 3) := by decide +kernel
theorem d_Model_end_12 : decode prog_14_method_50_code 12 = .ok (.iload_n 1, 1) := by decide +kernel
theorem d_Model_end_13 : decode prog_14_method_50_code 13 = .ok (.iconst (-1), 1) := by decide +kernel
theorem d_Model_end_14 : decode prog_14_method_50_code 14 = .ok (.if_icmp .eq 15, 3) := by decide +kernel
theorem d_Model_end_17 : decode prog_14_method_50_code 17 = .ok (.aload_n 0, 1) := by decide +kernel
theorem d_Model_end_18 : decode prog_14_method_50_code 18 = .ok (.iload_n 1, 1) := by decide +kernel
theorem d_Model_end_19 : decode prog_14_method_50_code 19 = .ok (.invokevirtual 254, 3) := by decide +kernel
theorem d_Model_end_22 : decode prog_14_method_50_code 22 = .ok (.ifCond .ne 7, 3) := by decide +kernel
theorem d_Model_end_25 : decode prog_14_method_50_code 25 = .ok (.iconst 2, 1) := by decide +kernel
theorem d_Model_end_26 : decode prog_14_method_50_code 26 = .ok (.goto 4, 3) := by decide +kernel
theorem d_Model_end_29 : decode prog_14_method_50_code 29 = .ok (.iconst 0, 1) := by decide +kernel
theorem d_Model_end_30 : decode prog_14_method_50_code 30 = .ok (.putfield 101, 3) := by decide +kernel
theorem d_Model_end_33 : decode prog_14_method_50_code 33 = .ok (.aload_n 0, 1) := by decide +kernel
theorem d_Model_end_34 : decode prog_14_method_50_code 34 = .ok (.getfield 101, 3) := by decide +kernel
theorem d_Model_end_37 : decode prog_14_method_50_code 37 = .ok (.ifCond .le 5, 3) := by decide +kernel
theorem d_Model_end_40 : decode prog_14_method_50_code 40 = .ok (.iconst 0, 1) := by decide +kernel
theorem d_Model_end_41 : decode prog_14_method_50_code 41 = .ok (.ireturn, 1) := by decide +kernel
theorem d_Model_end_42 : decode prog_14_method_50_code 42 = .ok (.aload_n 0, 1) := by decide +kernel
theorem d_Model_end_43 : decode prog_14_method_50_code 43 = .ok (.invokevirtual 270, 3) := by decide +kernel
theorem d_Model_end_46 : decode prog_14_method_50_code 46 = .ok (.aload_n 0, 1) := by decide +kernel
theorem d_Model_end_47 : decode prog_14_method_50_code 47 = .ok (.iload_n 1, 1) := by decide +kernel
theorem d_Model_end_48 : decode prog_14_method_50_code 48 = .ok (.iconst (-1), 1) := by decide +kernel
theorem d_Model_end_49 : decode prog_14_method_50_code 49 = .ok (.if_icmp .eq 28, 3) := by decide +kernel
theorem d_Model_end_52 : decode prog_14_method_50_code 52 = .ok (.iload_n 1, 1) := by decide +kernel
theorem d_Model_end_53 : decode prog_14_method_50_code 53 = .ok (.aload_n 0, 1) := by decide +kernel
theorem d_Model_end_54 : decode prog_14_method_50_code 54 = .ok (.getfield 29, 3) := by decide +kernel
theorem d_Model_end_57 : decode prog_14_method_50_code 57 = .ok (.aload_n 0, 1) := by decide +kernel
theorem d_Model_end_58 : decode prog_14_method_50_code 58 = .ok (.getfield 260, 3) := by decide +kernel
theorem d_Model_end_61 : decode prog_14_method_50_code 61 = .ok (.iaload, 1) := by decide +kernel
theorem d_Model_end_62 : decode prog_14_method_50_code 62 = .ok (.if_icmp .eq 11, 3) := by decide +kernel
theorem d_Model_end_65 : decode prog_14_method_50_code 65 = .ok (.aload_n 0, 1) := by decide +kernel
theorem d_Model_end_66 : decode prog_14_method_50_code 66 = .ok (.iload_n 1, 1) := by decide +kernel
theorem d_Model_end_67 : decode prog_14_method_50_code 67 = .ok (.invokevirtual 277, 3) := by decide +kernel
theorem d_Model_end_70 : decode prog_14_method_50_code 70 = .ok (.ifCond .ne 7, 3) := by decide +kernel
theorem d_Model_end_73 : decode prog_14_method_50_code 73 = .ok (.iconst 3, 1) := by decide +kernel
theorem d_Model_end_74 : decode prog_14_method_50_code 74 = .ok (.goto 31, 3) := by decide +kernel
theorem d_Model_end_77 : decode prog_14_method_50_code 77 = .ok (.iload_n 1, 1) := by decide +kernel
theorem d_Model_end_78 : decode prog_14_method_50_code 78 = .ok (.iconst (-1), 1) := by decide +kernel
theorem d_Model_end_79 : decode prog_14_method_50_code 79 = .ok (.if_icmp .ne 12, 3) := by decide +kernel
theorem d_Model_end_82 : decode prog_14_method_50_code 82 = .ok (.aload_n 0, 1) := by decide +kernel
theorem d_Model_end_83 : decode prog_14_method_50_code 83 = .ok (.getfield 7, 3) := by decide +kernel
theorem d_Model_end_86 : decode prog_14_method_50_code 86 = .ok (.bipush 8, 2) := by decide +kernel
theorem d_Model_end_88 : decode prog_14_method_50_code 88 = .ok (.if_icmp .eq 12, 3) := by decide +kernel
theorem d_Model_end_91 : decode prog_14_method_50_code 91 = .ok (.aload_n 0, 1) := by decide +kernel
theorem d_Model_end_92 : decode prog_14_method_50_code 92 = .ok (.getfield 260, 3) := by decide +kernel
theorem d_Model_end_95 : decode prog_14_method_50_code 95 = .ok (.bipush 16, 2) := by decide +kernel
theorem d_Model_end_97 : decode prog_14_method_50_code 97 = .ok (.if_icmp .ne 7, 3) := by decide +kernel
theorem d_Model_end_100 : decode prog_14_method_50_code 100 = .ok (.iconst 4, 1) := by decide +kernel
theorem d_Model_end_101 : decode prog_14_method_50_code 101 = .ok (.goto 4, 3) := by decide +kernel
theorem d_Model_end_104 : decode prog_14_method_50_code 104 = .ok (.iconst 0, 1) := by decide +kernel
theorem d_Model_end_105 : decode prog_14_method_50_code 105 = .ok (.putfield 101, 3) := by decide +kernel
theorem d_Model_end_108 : decode prog_14_method_50_code 108 = .ok (.aload_n 0, 1) := by decide +kernel
theorem d_Model_end_109 : decode prog_14_method_50_code 109 = .ok (.getfield 101, 3) := by decide +kernel
theorem d_Model_end_112 : decode prog_14_method_50_code 112 = .ok (.ifCond .le 5, 3) := by decide +kernel
theorem d_Model_end_115 : decode prog_14_method_50_code 115 = .ok (.iconst 0, 1) := by decide +kernel
theorem d_Model_end_116 : decode prog_14_method_50_code 116 = .ok (.ireturn, 1) := by decide +kernel
theorem d_Model_end_117 : decode prog_14_method_50_code 117 = .ok (.iload_n 1, 1) := by decide +kernel
theorem d_Model_end_118 : decode prog_14_method_50_code 118 = .ok (.istore_n 2, 1) := by decide +kernel
theorem d_Model_end_119 : decode prog_14_method_50_code 119 = .ok (.iload_n 1, 1) := by decide +kernel
theorem d_Model_end_120 : decode prog_14_method_50_code 120 = .ok (.iconst (-1), 1) := by decide +kernel
theorem d_Model_end_121 : decode prog_14_method_50_code 121 = .ok (.if_icmp .ne 23, 3) := by decide +kernel
theorem d_Model_end_124 : decode prog_14_method_50_code 124 = .ok (.aload_n 0, 1) := by decide +kernel
theorem d_Model_end_125 : decode prog_14_method_50_code 125 = .ok (.getfield 7, 3) := by decide +kernel
theorem d_Model_end_128 : decode prog_14_method_50_code 128 = .ok (.istore_n 2, 1) := by decide +kernel
theorem d_Model_end_129 : decode prog_14_method_50_code 129 = .ok (.aload_n 0, 1) := by decide +kernel
theorem d_Model_end_130 : decode prog_14_method_50_code 130 = .ok (.dup, 1) := by decide +kernel
theorem d_Model_end_131 : decode prog_14_method_50_code 131 = .ok (.getfield 7, 3) := by decide +kernel
theorem d_Model_end_134 : decode prog_14_method_50_code 134 = .ok (.iconst 1, 1) := by decide +kernel
theorem d_Model_end_135 : decode prog_14_method_50_code 135 = .ok (.iadd, 1) := by decide +kernel
theorem d_Model_end_136 : decode prog_14_method_50_code 136 = .ok (.putfield 7, 3) := by decide +kernel
theorem d_Model_end_139 : decode prog_14_method_50_code 139 = .ok (.aload_n 0, 1) := by decide +kernel
theorem d_Model_end_140 : decode prog_14_method_50_code 140 = .ok (.iload_n 2, 1) := by decide +kernel
theorem d_Model_end_141 : decode prog_14_method_50_code 141 = .ok (.invokevirtual 244, 3) := by decide +kernel
theorem d_Model_end_144 : decode prog_14_method_50_code 144 = .ok (.aload_n 0, 1) := by decide +kernel
theorem d_Model_end_145 : decode prog_14_method_50_code 145 = .ok (.getfield 32, 3) := by decide +kernel
theorem d_Model_end_148 : decode prog_14_method_50_code 148 = .ok (.aload_n 0, 1) := by decide +kernel
theorem d_Model_end_149 : decode prog_14_method_50_code 149 = .ok (.getfield 260, 3) := by decide +kernel
theorem d_Model_end_152 : decode prog_14_method_50_code 152 = .ok (.iload_n 2, 1) := by decide +kernel
theorem d_Model_end_153 : decode prog_14_method_50_code 153 = .ok (.iastore, 1) := by decide +kernel
theorem d_Model_end_154 : decode prog_14_method_50_code 154 = .ok (.aload_n 0, 1) := by decide +kernel
theorem d_Model_end_155 : decode prog_14_method_50_code 155 = .ok (.dup, 1) := by decide +kernel
theorem d_Model_end_156 : decode prog_14_method_50_code 156 = .ok (.getfield 260, 3) := by decide +kernel
theorem d_Model_end_159 : decode prog_14_method_50_code 159 = .ok (.iconst 1, 1) := by decide +kernel
theorem d_Model_end_160 : decode prog_14_method_50_code 160 = .ok (.iadd, 1) := by decide +kernel
theorem d_Model_end_161 : decode prog_14_method_50_code 161 = .ok (.putfield 260, 3) := by decide +kernel
theorem d_Model_end_164 : decode prog_14_method_50_code 164 = .ok (.aload_n 0, 1) := by decide +kernel
theorem d_Model_end_165 : decode prog_14_method_50_code 165 = .ok (.iconst 0, 1) := by decide +kernel
theorem d_Model_end_166 : decode prog_14_method_50_code 166 = .ok (.putfield 257, 3) := by decide +kernel
theorem d_Model_end_169 : decode prog_14_method_50_code 169 = .ok (.iload_n 2, 1) := by decide +kernel
theorem d_Model_end_170 : decode prog_14_method_50_code 170 = .ok (.ireturn, 1) := by decide +kernel
section EndM
variable {g : q_G} {sz m : Nat} {T : q_T} {I : q_I} {R : q_R} {J : q_J} {S : KA}
theorem k_sub_perm {α : Type} [DecidableEq α] : ∀ (L M : List α), L.Nodup → (∀ a ∈ L, a ∈ M) → M.length = L.length → M.Perm L := by
  intro L
  induction L with
  | nil => intro M _ _ hl; rw [List.length_eq_zero_iff.mp hl]
  | cons a t ih =>
    intro M hn hs hl
    have hn2 := List.nodup_cons.mp hn
    have ha := hs a List.mem_cons_self
    have h1 : M.Perm (a :: M.erase a) := List.perm_cons_erase ha
    have h2 : (M.erase a).Perm t := by
      refine ih _ hn2.2 (fun b hb => ?_) ?_
      · have hba : b ≠ a := fun z => hn2.1 (z ▸ hb)
        exact (List.mem_erase_of_ne hba).mpr (hs b (List.mem_cons_of_mem _ hb))
      · have := h1.length_eq
        rw [List.length_cons] at this hl
        omega
    exact h1.trans (h2.cons a)
theorem k_st_nodup {L : List KF} (hd : k_dis L) : (L.map k_st).Nodup := by
  have h : ((L.map k_st).map (·.1)).Nodup := by
    rw [List.map_map]
    exact hd
  exact (List.pairwise_map.mp h).imp (fun z e => z (by rw [e]))
/-- sorted lists that hold the same fields are alike -/
theorem k_st_eq {L D : List KF} (hL : k_okf L) (dL : k_dis L) (sL : k_srt L) (hD : k_okf D) (dD : k_dis D) (sD : k_srt D) (hp : (L.map k_st).Perm (D.map k_st)) : L.map k_st = D.map k_st := by
  have hlen : L.length = D.length := by
    have := hp.length_eq
    rw [List.length_map, List.length_map] at this
    exact this
  refine List.ext_getElem? fun i => ?_
  rw [List.getElem?_map, List.getElem?_map]
  cases hi : L[i]? with
  | none =>
    have := List.getElem?_eq_none_iff.mp hi
    rw [List.getElem?_eq_none (by omega)]
  | some f =>
    have hm : k_st f ∈ D.map k_st := hp.mem_iff.mp (List.mem_map.mpr ⟨f, List.mem_of_getElem? hi, rfl⟩)
    obtain ⟨e, e1, e2⟩ := List.mem_map.mp hm
    obtain ⟨j, hj⟩ := List.mem_iff_getElem?.mp e1
    have p1 := k_plc hL dL sL hi
    have p2 := k_plc hD dD sD hj
    have hn : e.1 = f.1 := congrArg (·.1) e2
    rw [hn] at p2
    have c1 : L.countP (fun q => k_bef q.1 f.1) = (L.map k_st).countP (fun q => k_bef q.1 f.1) := by rw [List.countP_map]; rfl
    have c2 : D.countP (fun q => k_bef q.1 f.1) = (D.map k_st).countP (fun q => k_bef q.1 f.1) := by rw [List.countP_map]; rfl
    rw [c1, hp.countP_eq, ← c2, p2] at p1
    rw [← p1, hj]
    show some (k_st f) = some (k_st e)
    rw [e2]
theorem k_like_iff {L D M : List KF} (hL : k_wfV L) (hM : k_wfL M) (hp : M.Perm D) (sD : k_srt D) : (decide (M.length = L.length) && L.all (fun f => decide (k_st f ∈ M.map k_st))) = decide (L.map k_st = D.map k_st) := by
  have hD : k_okf D := hM.2.1.perm hp.symm
  have dD : k_dis D := hM.2.2.1.perm hp.symm
  rw [Bool.eq_iff_iff, Bool.and_eq_true, decide_eq_true_iff, List.all_eq_true, decide_eq_true_iff]
  constructor
  · rintro ⟨h1, h2⟩
    have h3 : (M.map k_st).Perm (L.map k_st) := by
      refine k_sub_perm _ _ (k_st_nodup hL.1.2.2.1) (fun a ha => ?_) (by rw [List.length_map, List.length_map]; exact h1)
      obtain ⟨f, f1, rfl⟩ := List.mem_map.mp ha
      exact of_decide_eq_true (h2 f f1)
    exact k_st_eq hL.1.2.1 hL.1.2.2.1 hL.2 hD dD sD (h3.symm.trans (hp.map k_st))
  · intro h
    have h3 : (M.map k_st).Perm (L.map k_st) := by rw [h]; exact hp.map k_st
    refine ⟨?_, fun f hf => decide_eq_true (h3.mem_iff.mpr (List.mem_map.mpr ⟨f, hf, rfl⟩))⟩
    have := h3.length_eq
    rw [List.length_map, List.length_map] at this
    exact this
set_option maxHeartbeats 1000000 in
theorem c_Model_isSchema {v : Nat} {M L : List KF} (hL : q_L 11 t_Model m T R) (hM : k_mw m M I) (hwM : k_wfL M) (hV : m_vl m v L I) (hv : v < 8) (h24 : L.length ≤ 24) (hokL : k_okf L) : q_Ci g M_Model_isSchema [.ref m, .int (nI v)] (sz, T, I, R, J) 0 0 (fun r h' => r = p_b (decide (M.length = L.length) && L.all (fun f => decide (k_st f ∈ M.map k_st))) ∧ h' = (sz, T, I, R, J)) := by
  have h26 := hM.2.1
  have loop : ∀ (t : List KF) (i : Nat) (b : Bool) (l4 : Option Value), L.drop i = t → i ≤ L.length → ∀ mcc msc : Nat, mcc = 0 → msc = 0 → q_V g M_Model_isSchema 0 0 mcc msc (sz, T, I, R, J) (fun o h' => ∃ r : Int32, o = .inl (some (.int r)) ∧ (r = p_b (b && t.all (fun f => decide (k_st f ∈ M.map k_st))) ∧ h' = (sz, T, I, R, J))) 21 [some (.ref m), some (.int (nI v)), some (.int (p_b b)), some (.int (nI i)), l4] [] := by
    intro t
    induction t with
    | nil =>
      intro i b l4 ht hi mcc msc m1 m2
      subst m1 m2
      have h1 := k_drop0 ht
      refine q_iload_n d_Model_isSchema_21 rfl rfl ?_
      refine q_aload_n d_Model_isSchema_22 rfl rfl ?_
      refine q_getR (ci := 11) (fk := 2) d_Model_isSchema_23 rfl (Nat.le_of_ble_eq_true rfl) w_1106 (fun _ _ => rfl) hL.1 (hL.2 2 _ _ _ rfl).1 ?_
      refine q_iload_n d_Model_isSchema_26 rfl rfl ?_
      refine q_iald d_Model_isSchema_27 (hL.2 2 _ _ _ rfl).2 (by first | assumption | exact vp_in_nI (by omega) (by omega)) ?_
      rw [hV.1]
      refine q_icmp_ge (tgt := 132) d_Model_isSchema_28 rfl (fun hc => ?_) (fun hc => ?_)
      · have hb : p_b b = 0 ∨ p_b b = 1 := by cases b with | false => exact Or.inl rfl | true => exact Or.inr rfl
        refine q_iload_n d_Model_isSchema_132 rfl rfl ?_
        refine q_zret d_Model_isSchema_133 rfl (by first | exact Or.inl rfl | exact Or.inr rfl | assumption) (by omega) (by omega) ?_
        exact ⟨_, rfl, by rw [List.all_nil, Bool.and_true], rfl⟩
      · exact absurd (by rw [nI_leI (by omega) (by omega)]; omega) hc
    | cons f t ih =>
      intro i b l4 ht hi mcc msc m1 m2
      subst m1 m2
      obtain ⟨h1, h2, h3⟩ := k_drop1 ht
      have hfk := (hokL f (List.mem_of_getElem? h2)).1
      obtain ⟨v1, v2, v3, v4⟩ := hV.2 i f h2
      have no : ∀ (x4 : Option Value), decide (k_st f ∈ M.map k_st) = false → q_V g M_Model_isSchema 0 0 0 0 (sz, T, I, R, J) (fun o h' => ∃ r : Int32, o = .inl (some (.int r)) ∧ (r = p_b (true && (f :: t).all (fun f => decide (k_st f ∈ M.map k_st))) ∧ h' = (sz, T, I, R, J))) 124 [some (.ref m), some (.int (nI v)), some (.int (p_b true)), some (.int (nI i)), x4] [] := fun x4 hz => by
        refine q_iconst (v := nI 0) d_Model_isSchema_124 (by decide) ?_
        refine q_istore_n d_Model_isSchema_125 rfl (Nat.le_of_ble_eq_true rfl) (by first | exact q_ok0 | exact q_okI rfl | exact q_okR rfl | exact q_okN rfl) rfl ?_
        first | refine q_iincN d_Model_isSchema_126 rfl (Nat.le_of_ble_eq_true rfl) (by first | exact q_ok0 | exact q_okI rfl | exact q_okR rfl | exact q_okN rfl) rfl ?_ | refine q_iinc d_Model_isSchema_126 rfl rfl (Nat.le_of_ble_eq_true rfl) (by first | exact q_ok0 | exact q_okI rfl | exact q_okR rfl | exact q_okN rfl) rfl ?_
        refine q_goto (tgt := 21) d_Model_isSchema_129 rfl ?_
        rw [List.all_cons, hz, Bool.false_and, Bool.and_false]
        exact ih (i + 1) false _ h3 (by omega) _ _ rfl rfl
      refine q_iload_n d_Model_isSchema_21 rfl rfl ?_
      refine q_aload_n d_Model_isSchema_22 rfl rfl ?_
      refine q_getR (ci := 11) (fk := 2) d_Model_isSchema_23 rfl (Nat.le_of_ble_eq_true rfl) w_1106 (fun _ _ => rfl) hL.1 (hL.2 2 _ _ _ rfl).1 ?_
      refine q_iload_n d_Model_isSchema_26 rfl rfl ?_
      refine q_iald d_Model_isSchema_27 (hL.2 2 _ _ _ rfl).2 (by first | assumption | exact vp_in_nI (by omega) (by omega)) ?_
      rw [hV.1]
      refine q_icmp_ge (tgt := 132) d_Model_isSchema_28 rfl (fun hc => ?_) (fun hc => ?_)
      · rw [nI_leI (by omega) (by omega)] at hc
        omega
      cases b with
      | false =>
        refine q_iload_n d_Model_isSchema_31 rfl rfl ?_
        refine q_if_eq (tgt := 132) d_Model_isSchema_32 rfl (fun hc => ?_) (fun hc => ?_)
        · refine q_iload_n d_Model_isSchema_132 rfl rfl ?_
          refine q_zret d_Model_isSchema_133 rfl (by first | exact Or.inl rfl | exact Or.inr rfl | assumption) (by omega) (by omega) ?_
          exact ⟨_, rfl, rfl, rfl⟩
        · exact absurd rfl hc
      | true =>
        refine q_iload_n d_Model_isSchema_31 rfl rfl ?_
        refine q_if_eq (tgt := 132) d_Model_isSchema_32 rfl (fun hc => ?_) (fun hc => ?_)
        · exact absurd hc (by decide)
        refine q_aload_n d_Model_isSchema_35 rfl rfl ?_
        refine q_aload_n d_Model_isSchema_36 rfl rfl ?_
        refine q_getR (ci := 11) (fk := 3) d_Model_isSchema_37 rfl (Nat.le_of_ble_eq_true rfl) w_1107 (fun _ _ => rfl) hL.1 (hL.2 3 _ _ _ rfl).1 ?_
        refine q_bipush (v := nI 24) d_Model_isSchema_40 (by decide) ?_
        refine q_iload_n d_Model_isSchema_42 rfl rfl ?_
        first | refine q_imulN d_Model_isSchema_43 ?_ | refine q_imul d_Model_isSchema_43 ?_
        refine q_iload_n d_Model_isSchema_44 rfl rfl ?_
        first | refine q_iaddN d_Model_isSchema_45 ?_ | refine q_iadd d_Model_isSchema_45 ?_
        refine q_iald d_Model_isSchema_46 (hL.2 3 _ _ _ rfl).2 (by first | assumption | exact vp_in_nI (by omega) (by omega)) ?_
        rw [v1]
        refine q_callVi (M2 := M_Model_find) d_Model_isSchema_47 ⟨(Nat.le_of_ble_eq_true rfl), (Nat.le_of_ble_eq_true rfl), w_1266, w_10, ⟨by decide, by decide⟩, show _ = some 1 by decide +kernel⟩ w_1263 w_1265 (ci := 11) rfl s_53 hL.1 rfl (Nat.le_of_ble_eq_true rfl) (by omega) (by omega) (c_Model_findF hL hM hwM.2.1 _) ?_
        rintro _ _ ⟨rfl, rfl⟩
        rw [(k_of_iff hfk _).mp rfl]
        rw [show k_fo M (some f.1) = k_fi M f.1 from rfl]
        cases hfi : k_fi M f.1 with
        | none =>
          have hz : decide (k_st f ∈ M.map k_st) = false := decide_eq_false fun z => by
            obtain ⟨e, e1, e2⟩ := List.mem_map.mp z
            exact k_fi_none hfi e e1 (congrArg (·.1) e2)
          refine q_istore d_Model_isSchema_50 (Nat.le_of_ble_eq_true rfl) (by first | exact q_ok0 | exact q_okI rfl | exact q_okR rfl | exact q_okN rfl) rfl ?_
          refine q_iload d_Model_isSchema_52 rfl ?_
          refine q_if_lt (tgt := 124) d_Model_isSchema_54 rfl (fun hc => ?_) (fun hc => ?_)
          · exact no _ hz
          · exact absurd (show (0 : Int32) ≤ -1 from Int32.not_lt.mp hc) (by decide)
        | some j =>
          obtain ⟨j1, e, e1, e2⟩ := k_fi_some hfi
          obtain ⟨w1, w2, w3, w4⟩ := hM.2.2 j e e1
          have hz : decide (k_st f ∈ M.map k_st) = decide (k_st e = k_st f) := by
            rw [decide_eq_decide]
            constructor
            · intro z
              obtain ⟨e3, e4, e5⟩ := List.mem_map.mp z
              obtain ⟨j3, hj3⟩ := List.mem_iff_getElem?.mp e4
              have := k_fi_at hwM.2.2.1 hj3
              rw [show e3.1 = f.1 from congrArg (·.1) e5, hfi] at this
              obtain rfl : j = j3 := Option.some.inj this
              rw [e1] at hj3
              rw [Option.some.inj hj3]; exact e5
            · intro z
              exact List.mem_map.mpr ⟨e, List.mem_of_getElem? e1, z⟩
          rw [show p_idx (some j) = nI j from rfl]
          refine q_istore d_Model_isSchema_50 (Nat.le_of_ble_eq_true rfl) (by first | exact q_ok0 | exact q_okI rfl | exact q_okR rfl | exact q_okN rfl) rfl ?_
          refine q_iload d_Model_isSchema_52 rfl ?_
          refine q_if_lt (tgt := 124) d_Model_isSchema_54 rfl (fun hc => ?_) (fun hc => ?_)
          · exact absurd (show nI j < 0 from hc) (Int32.not_lt.mpr (nI_pos' (by omega)))
          refine q_aload_n d_Model_isSchema_57 rfl rfl ?_
          refine q_getR (ci := 11) (fk := 20) d_Model_isSchema_58 rfl (Nat.le_of_ble_eq_true rfl) w_1124 (fun _ _ => rfl) hL.1 (hL.2 20 _ _ _ rfl).1 ?_
          refine q_iload d_Model_isSchema_61 rfl ?_
          refine q_iald d_Model_isSchema_63 (hL.2 20 _ _ _ rfl).2 (by first | assumption | exact vp_in_nI (by omega) (by omega)) ?_
          rw [w2]
          refine q_aload_n d_Model_isSchema_64 rfl rfl ?_
          refine q_getR (ci := 11) (fk := 4) d_Model_isSchema_65 rfl (Nat.le_of_ble_eq_true rfl) w_1108 (fun _ _ => rfl) hL.1 (hL.2 4 _ _ _ rfl).1 ?_
          refine q_bipush (v := nI 24) d_Model_isSchema_68 (by decide) ?_
          refine q_iload_n d_Model_isSchema_70 rfl rfl ?_
          first | refine q_imulN d_Model_isSchema_71 ?_ | refine q_imul d_Model_isSchema_71 ?_
          refine q_iload_n d_Model_isSchema_72 rfl rfl ?_
          first | refine q_iaddN d_Model_isSchema_73 ?_ | refine q_iadd d_Model_isSchema_73 ?_
          refine q_iald d_Model_isSchema_74 (hL.2 4 _ _ _ rfl).2 (by first | assumption | exact vp_in_nI (by omega) (by omega)) ?_
          rw [v2]
          refine q_icmp_ne (tgt := 124) d_Model_isSchema_75 rfl (fun hc => ?_) (fun hc => ?_)
          · exact no _ (by rw [hz]; exact decide_eq_false fun z => hc (congrArg (·.2.1) z))
          have q1 := hc
          refine q_aload_n d_Model_isSchema_78 rfl rfl ?_
          refine q_getR (ci := 11) (fk := 21) d_Model_isSchema_79 rfl (Nat.le_of_ble_eq_true rfl) w_1125 (fun _ _ => rfl) hL.1 (hL.2 21 _ _ _ rfl).1 ?_
          refine q_iload d_Model_isSchema_82 rfl ?_
          refine q_iald d_Model_isSchema_84 (hL.2 21 _ _ _ rfl).2 (by first | assumption | exact vp_in_nI (by omega) (by omega)) ?_
          rw [w3]
          refine q_aload_n d_Model_isSchema_85 rfl rfl ?_
          refine q_getR (ci := 11) (fk := 5) d_Model_isSchema_86 rfl (Nat.le_of_ble_eq_true rfl) w_1109 (fun _ _ => rfl) hL.1 (hL.2 5 _ _ _ rfl).1 ?_
          refine q_bipush (v := nI 24) d_Model_isSchema_89 (by decide) ?_
          refine q_iload_n d_Model_isSchema_91 rfl rfl ?_
          first | refine q_imulN d_Model_isSchema_92 ?_ | refine q_imul d_Model_isSchema_92 ?_
          refine q_iload_n d_Model_isSchema_93 rfl rfl ?_
          first | refine q_iaddN d_Model_isSchema_94 ?_ | refine q_iadd d_Model_isSchema_94 ?_
          refine q_iald d_Model_isSchema_95 (hL.2 5 _ _ _ rfl).2 (by first | assumption | exact vp_in_nI (by omega) (by omega)) ?_
          rw [v3]
          refine q_icmp_ne (tgt := 124) d_Model_isSchema_96 rfl (fun hc => ?_) (fun hc => ?_)
          · exact no _ (by rw [hz]; exact decide_eq_false fun z => hc (congrArg (·.2.2.1) z))
          have q2 := hc
          refine q_aload_n d_Model_isSchema_99 rfl rfl ?_
          refine q_getR (ci := 11) (fk := 22) d_Model_isSchema_100 rfl (Nat.le_of_ble_eq_true rfl) w_1126 (fun _ _ => rfl) hL.1 (hL.2 22 _ _ _ rfl).1 ?_
          refine q_iload d_Model_isSchema_103 rfl ?_
          refine q_iald d_Model_isSchema_105 (hL.2 22 _ _ _ rfl).2 (by first | assumption | exact vp_in_nI (by omega) (by omega)) ?_
          rw [w4]
          refine q_aload_n d_Model_isSchema_106 rfl rfl ?_
          refine q_getR (ci := 11) (fk := 6) d_Model_isSchema_107 rfl (Nat.le_of_ble_eq_true rfl) w_1110 (fun _ _ => rfl) hL.1 (hL.2 6 _ _ _ rfl).1 ?_
          refine q_bipush (v := nI 24) d_Model_isSchema_110 (by decide) ?_
          refine q_iload_n d_Model_isSchema_112 rfl rfl ?_
          first | refine q_imulN d_Model_isSchema_113 ?_ | refine q_imul d_Model_isSchema_113 ?_
          refine q_iload_n d_Model_isSchema_114 rfl rfl ?_
          first | refine q_iaddN d_Model_isSchema_115 ?_ | refine q_iadd d_Model_isSchema_115 ?_
          refine q_iald d_Model_isSchema_116 (hL.2 6 _ _ _ rfl).2 (by first | assumption | exact vp_in_nI (by omega) (by omega)) ?_
          rw [v4]
          refine q_icmp_ne (tgt := 124) d_Model_isSchema_117 rfl (fun hc => ?_) (fun hc => ?_)
          · exact no _ (by rw [hz]; exact decide_eq_false fun z => hc (congrArg (·.2.2.2) z))
          have q3 := hc
          have hy : decide (k_st f ∈ M.map k_st) = true := by
            rw [hz]
            refine decide_eq_true ?_
            show (e.1, e.2.1, e.2.2.1, e.2.2.2.1) = (f.1, f.2.1, f.2.2.1, f.2.2.2.1)
            rw [e2, q1, q2, q3]
          refine q_iconst (v := nI 1) d_Model_isSchema_120 (by decide) ?_
          refine q_goto (tgt := 125) d_Model_isSchema_121 rfl ?_
          refine q_istore_n d_Model_isSchema_125 rfl (Nat.le_of_ble_eq_true rfl) (by first | exact q_ok0 | exact q_okI rfl | exact q_okR rfl | exact q_okN rfl) rfl ?_
          first | refine q_iincN d_Model_isSchema_126 rfl (Nat.le_of_ble_eq_true rfl) (by first | exact q_ok0 | exact q_okI rfl | exact q_okR rfl | exact q_okN rfl) rfl ?_ | refine q_iinc d_Model_isSchema_126 rfl rfl (Nat.le_of_ble_eq_true rfl) (by first | exact q_ok0 | exact q_okI rfl | exact q_okR rfl | exact q_okN rfl) rfl ?_
          refine q_goto (tgt := 21) d_Model_isSchema_129 rfl ?_
          rw [List.all_cons, hy, Bool.true_and]
          exact ih (i + 1) true _ h3 (by omega) _ _ rfl rfl
  refine q_C.of (ls0 := [some (.ref m), some (.int (nI v)), none, none, none]) (by decide) rfl (by decide) (Nat.le_of_ble_eq_true rfl) rfl ?_
  refine q_aload_n d_Model_isSchema_0 rfl rfl ?_
  refine q_getI (ci := 11) (fk := 18) d_Model_isSchema_1 rfl (Nat.le_of_ble_eq_true rfl) w_1122 (fun _ _ => rfl) hL.1 ?_
  rw [hM.1]
  refine q_aload_n d_Model_isSchema_4 rfl rfl ?_
  refine q_getR (ci := 11) (fk := 2) d_Model_isSchema_5 rfl (Nat.le_of_ble_eq_true rfl) w_1106 (fun _ _ => rfl) hL.1 (hL.2 2 _ _ _ rfl).1 ?_
  refine q_iload_n d_Model_isSchema_8 rfl rfl ?_
  refine q_iald d_Model_isSchema_9 (hL.2 2 _ _ _ rfl).2 (by first | assumption | exact vp_in_nI (by omega) (by omega)) ?_
  rw [hV.1]
  refine q_icmp_ne (tgt := 17) d_Model_isSchema_10 rfl (fun hc => ?_) (fun hc => ?_)
  · refine q_iconst (v := nI 0) d_Model_isSchema_17 (by decide) ?_
    refine q_istore_n d_Model_isSchema_18 rfl (Nat.le_of_ble_eq_true rfl) (by first | exact q_ok0 | exact q_okI rfl | exact q_okR rfl | exact q_okN rfl) rfl ?_
    refine q_iconst (v := nI 0) d_Model_isSchema_19 (by decide) ?_
    refine q_istore_n d_Model_isSchema_20 rfl (Nat.le_of_ble_eq_true rfl) (by first | exact q_ok0 | exact q_okI rfl | exact q_okR rfl | exact q_okN rfl) rfl ?_
    have hne : ¬ M.length = L.length := fun z => hc (by rw [z])
    rw [decide_eq_false hne]
    exact loop L 0 false none rfl (by omega) _ _ rfl rfl
  · refine q_iconst (v := nI 1) d_Model_isSchema_13 (by decide) ?_
    refine q_goto (tgt := 18) d_Model_isSchema_14 rfl ?_
    refine q_istore_n d_Model_isSchema_18 rfl (Nat.le_of_ble_eq_true rfl) (by first | exact q_ok0 | exact q_okI rfl | exact q_okR rfl | exact q_okN rfl) rfl ?_
    refine q_iconst (v := nI 0) d_Model_isSchema_19 (by decide) ?_
    refine q_istore_n d_Model_isSchema_20 rfl (Nat.le_of_ble_eq_true rfl) (by first | exact q_ok0 | exact q_okI rfl | exact q_okR rfl | exact q_okN rfl) rfl ?_
    have heq : M.length = L.length := (nI_eq (by omega) (by omega)).mp (by have := hc; simpa using this)
    rw [decide_eq_true heq]
    exact loop L 0 true none rfl (by omega) _ _ rfl rfl
/-- the reference's picture when a step has ended -/
theorem relM.endS (hM : relM S m T I R) (ho : S.op = true) {vs : List (List KF)} {I' : q_I} {to nb : Nat} {sb : List Nat} (h16 : S.ss.length < 16) (hv : m_ver m vs I') (h6 : I' (m + 6) = I (m + 6)) (h7 : I' (m + 7) (nI S.ss.length) = nI to) (h7' : ∀ i, i < S.ss.length → I' (m + 7) (nI i) = I (m + 7) (nI i)) (h8 : ∀ j, 8 ≤ j → j ≤ 13 → I' (m + j) = I (m + j)) (n8 : I' m (nI 8) = nI (S.ss.length + 1)) (n13 : I' m (nI 13) = 0) (n7 : I' m (nI 7) = I m (nI 7)) : relM ((S.grow vs (S.ss ++ [(S.df, to, S.dp, nb, sb)])).leave) m T I' R := by
  obtain ⟨g1, g2, g3, g4, g5⟩ := hM
  obtain ⟨k1, k2, k3, k4⟩ := g3
  have e8 := h8 8 (by omega) (by omega)
  have e9 := h8 9 (by omega) (by omega)
  have hprs : ∀ i pr, m_prs m i pr I → m_prs m i pr I' := fun i pr h => by
    unfold m_prs k_mp at h ⊢
    rw [e8, e9]
    exact h
  refine ⟨g1, hv, ⟨?_, fun i st hi => ?_, ?_, fun z => by cases z⟩, ?_, by rw [n7]; exact g5⟩
  · rw [n8]
    show nI (S.ss.length + 1) = nI (S.ss ++ [_]).length
    rw [List.length_append]; rfl
  · rcases k_app_at hi with ⟨v1, v2⟩ | ⟨v1, v2⟩
    · obtain ⟨a1, a2, a3⟩ := k2 i st v2
      exact ⟨by rw [h6]; exact a1, by rw [h7' i v1]; exact a2, hprs _ _ a3⟩
    · subst v1 v2
      obtain ⟨a1, a2⟩ := k4 ho
      exact ⟨by rw [h6]; exact a1, h7, hprs _ _ a2⟩
  · rw [n13]; rfl
  · have h4 : m_row m S.rs I := g4
    show m_row m S.rs I'
    unfold m_row m_kpt at h4 ⊢
    rw [h8 10 (by omega) (by omega), h8 11 (by omega) (by omega), h8 12 (by omega) (by omega), h8 13 (by omega) (by omega)]
    exact h4
theorem c_Model_end_no (hM : relM S m T I R) {to : Int32} (ho : S.op = false) : q_Ci g M_Model_end [.ref m, .int to] (sz, T, I, R, J) 0 0 (m_spm m sz T I R J (nI 1, 0, S)) := by
  have hL := hM.1
  refine q_C.of (ls0 := [some (.ref m), some (.int to), none]) (by decide) rfl (by decide) (Nat.le_of_ble_eq_true rfl) rfl ?_
  refine q_aload_n d_Model_end_0 rfl rfl ?_
  refine q_aload_n d_Model_end_1 rfl rfl ?_
  refine q_getI (ci := 11) (fk := 13) d_Model_end_2 rfl (Nat.le_of_ble_eq_true rfl) w_1117 (fun _ _ => rfl) hL.1 ?_
  rw [hM.2.2.1.2.2.1, ho]
  refine q_if_ne (tgt := 12) d_Model_end_5 rfl (fun hc => ?_) (fun hc => ?_)
  · exact absurd rfl hc
  refine q_iconst (v := nI 1) d_Model_end_8 (by decide) ?_
  refine q_goto (tgt := 30) d_Model_end_9 rfl ?_
  refine q_putI (ci := 11) (fk := 0) d_Model_end_30 rfl (Nat.le_of_ble_eq_true rfl) w_1104 (Or.inl rfl) (fun _ _ => rfl) rfl rfl hL.1 ?_
  refine q_aload_n d_Model_end_33 rfl rfl ?_
  refine q_getI (ci := 11) (fk := 0) d_Model_end_34 rfl (Nat.le_of_ble_eq_true rfl) w_1104 (fun _ _ => rfl) hL.1 ?_
  rw [q_upI_self]
  refine q_if_le (tgt := 42) d_Model_end_37 rfl (fun hc => ?_) (fun hc => ?_)
  · exact absurd hc (by decide)
  · refine q_iconst (v := nI 0) d_Model_end_40 (by decide) ?_
    refine q_iret d_Model_end_41 rfl (by omega) (by omega) ?_
    exact ⟨_, rfl, m_no hM (by decide) _⟩
theorem c_Model_end_no2 (hw : wf S) (hM : relM S m T I R) {to : Int32} (ho : S.op = true) (h1 : to ≠ -1) (h2 : k_bel S.vs.length to = false) : q_Ci g M_Model_end [.ref m, .int to] (sz, T, I, R, J) 0 0 (m_spm m sz T I R J (nI 2, 0, S)) := by
  have hL := hM.1
  have hv8 := hw.1.2.1
  refine q_C.of (ls0 := [some (.ref m), some (.int to), none]) (by decide) rfl (by decide) (Nat.le_of_ble_eq_true rfl) rfl ?_
  refine q_aload_n d_Model_end_0 rfl rfl ?_
  refine q_aload_n d_Model_end_1 rfl rfl ?_
  refine q_getI (ci := 11) (fk := 13) d_Model_end_2 rfl (Nat.le_of_ble_eq_true rfl) w_1117 (fun _ _ => rfl) hL.1 ?_
  rw [hM.2.2.1.2.2.1, ho]
  refine q_if_ne (tgt := 12) d_Model_end_5 rfl (fun hc => ?_) (fun hc => ?_)
  rotate_left
  · exact absurd hc (by decide)
  refine q_iload_n d_Model_end_12 rfl rfl ?_
  refine q_iconst (v := (-1)) d_Model_end_13 (by decide) ?_
  refine q_icmp_eq (tgt := 29) d_Model_end_14 rfl (fun hc => ?_) (fun hc => ?_)
  · exact absurd hc h1
  refine q_aload_n d_Model_end_17 rfl rfl ?_
  refine q_iload_n d_Model_end_18 rfl rfl ?_
  refine q_callVi (M2 := M_Model_isVersion) d_Model_end_19 ⟨(Nat.le_of_ble_eq_true rfl), (Nat.le_of_ble_eq_true rfl), w_1281, w_10, ⟨by decide, by decide⟩, show _ = some 1 by decide +kernel⟩ w_1278 w_1280 (ci := 11) rfl s_55 hL.1 rfl (Nat.le_of_ble_eq_true rfl) (by omega) (by omega) (c_Model_isVersion hL hM.2.1.1 to) ?_
  rintro _ _ ⟨rfl, rfl⟩
  rw [h2]
  refine q_if_ne (tgt := 29) d_Model_end_22 rfl (fun hc => ?_) (fun hc => ?_)
  · exact absurd rfl hc
  refine q_iconst (v := nI 2) d_Model_end_25 (by decide) ?_
  refine q_goto (tgt := 30) d_Model_end_26 rfl ?_
  refine q_putI (ci := 11) (fk := 0) d_Model_end_30 rfl (Nat.le_of_ble_eq_true rfl) w_1104 (Or.inl rfl) (fun _ _ => rfl) rfl rfl hL.1 ?_
  refine q_aload_n d_Model_end_33 rfl rfl ?_
  refine q_getI (ci := 11) (fk := 0) d_Model_end_34 rfl (Nat.le_of_ble_eq_true rfl) w_1104 (fun _ _ => rfl) hL.1 ?_
  rw [q_upI_self]
  refine q_if_le (tgt := 42) d_Model_end_37 rfl (fun hc => ?_) (fun hc => ?_)
  · exact absurd hc (by decide)
  · refine q_iconst (v := nI 0) d_Model_end_40 (by decide) ?_
    refine q_iret d_Model_end_41 rfl (by omega) (by omega) ?_
    exact ⟨_, rfl, m_no hM (by decide) _⟩
/-- up to the second question -/
theorem c_Model_end_pre (hw : wf S) (hM : relM S m T I R) {to : Int32} (ho : S.op = true) (hto : to = -1 ∨ k_bel S.vs.length to = true) {Q : q_O → q_H → Prop} (kk : ∀ (I2 : q_I) (M : List KF), m_ps m I I2 → I2 m (nI 0) = 0 → k_mw m M I2 → M.Perm S.dD → k_wfL M → q_V g M_Model_end 0 0 0 0 (sz, T, I2, R, J) Q 46 [some (.ref m), some (.int to), none] []) : q_C g M_Model_end [.ref m, .int to] (sz, T, I, R, J) 0 0 Q := by
  have hL := hM.1
  have hv8 := hw.1.2.1
  obtain ⟨I0, hI0⟩ : ∃ I0, I0 = q_upI I m (nI 0) (nI 0) := ⟨_, rfl⟩
  have hps : m_ps m I I0 := by rw [hI0]; exact m_ps.int (by decide) (by decide) (by decide) (by decide) (by decide)
  have go : q_V g M_Model_end 0 0 0 0 (sz, T, I, R, J) Q 29 [some (.ref m), some (.int to), none] [.ref m] := by
    refine q_iconst (v := nI 0) d_Model_end_29 (by decide) ?_
    refine q_putI (ci := 11) (fk := 0) d_Model_end_30 rfl (Nat.le_of_ble_eq_true rfl) w_1104 (Or.inl rfl) (fun _ _ => rfl) rfl rfl hL.1 ?_
    refine q_aload_n d_Model_end_33 rfl rfl ?_
    refine q_getI (ci := 11) (fk := 0) d_Model_end_34 rfl (Nat.le_of_ble_eq_true rfl) w_1104 (fun _ _ => rfl) hL.1 ?_
    rw [q_upI_self]
    refine q_if_le (tgt := 42) d_Model_end_37 rfl (fun hc => ?_) (fun hc => ?_)
    rotate_left
    · exact absurd (Int32.le_refl _) hc
    rw [← hI0]
    refine q_aload_n d_Model_end_42 rfl rfl ?_
    refine q_callVv (M2 := M_Model_takeUnderWay) d_Model_end_43 ⟨(Nat.le_of_ble_eq_true rfl), (Nat.le_of_ble_eq_true rfl), w_1289, w_10, ⟨by decide, by decide⟩, show _ = some 0 by decide +kernel⟩ w_1286 w_1288 (ci := 11) rfl s_56 hL.1 rfl (Nat.le_of_ble_eq_true rfl) (by omega) (by omega) (c_Model_takeUnderWay hw (hM.ps hps) ho) ?_
    rintro _ ⟨I2, M, rfl, k1, k2, k3, k4⟩
    exact kk I2 M (hps.trans k1.1) (by rw [k1.2.1, hI0, q_upI_self]; rfl) k2 k3 k4
  refine q_C.of (ls0 := [some (.ref m), some (.int to), none]) (by decide) rfl (by decide) (Nat.le_of_ble_eq_true rfl) rfl ?_
  refine q_aload_n d_Model_end_0 rfl rfl ?_
  refine q_aload_n d_Model_end_1 rfl rfl ?_
  refine q_getI (ci := 11) (fk := 13) d_Model_end_2 rfl (Nat.le_of_ble_eq_true rfl) w_1117 (fun _ _ => rfl) hL.1 ?_
  rw [hM.2.2.1.2.2.1, ho]
  refine q_if_ne (tgt := 12) d_Model_end_5 rfl (fun hc => ?_) (fun hc => ?_)
  rotate_left
  · exact absurd hc (by decide)
  refine q_iload_n d_Model_end_12 rfl rfl ?_
  refine q_iconst (v := (-1)) d_Model_end_13 (by decide) ?_
  refine q_icmp_eq (tgt := 29) d_Model_end_14 rfl (fun hc => ?_) (fun hc => ?_)
  · exact go
  have hbl : k_bel S.vs.length to = true := by
    rcases hto with z | z
    · exact absurd z hc
    · exact z
  refine q_aload_n d_Model_end_17 rfl rfl ?_
  refine q_iload_n d_Model_end_18 rfl rfl ?_
  refine q_callVi (M2 := M_Model_isVersion) d_Model_end_19 ⟨(Nat.le_of_ble_eq_true rfl), (Nat.le_of_ble_eq_true rfl), w_1281, w_10, ⟨by decide, by decide⟩, show _ = some 1 by decide +kernel⟩ w_1278 w_1280 (ci := 11) rfl s_55 hL.1 rfl (Nat.le_of_ble_eq_true rfl) (by omega) (by omega) (c_Model_isVersion hL hM.2.1.1 to) ?_
  rintro _ _ ⟨rfl, rfl⟩
  rw [hbl]
  refine q_if_ne (tgt := 29) d_Model_end_22 rfl (fun hc => ?_) (fun hc => ?_)
  · exact go
  · exact absurd hc (by decide)
theorem c_Model_end_thr (hM : relM S m T I R) {to : Int32} {j : Nat} (hj : nI j ≠ 0) (hj2 : 0 < nI j) {I2 : q_I} (k1 : m_ps m I I2) : q_V g M_Model_end 0 0 0 0 (sz, T, I2, R, J) (fun o h' => ∃ r : Int32, o = .inl (some (.int r)) ∧ m_spm m sz T I R J (nI j, 0, S) r h') 105 [some (.ref m), some (.int to), none] [.int (nI j), .ref m] := by
  have hL := hM.1
  refine q_putI (ci := 11) (fk := 0) d_Model_end_105 rfl (Nat.le_of_ble_eq_true rfl) w_1104 (Or.inl rfl) (fun _ _ => rfl) rfl rfl hL.1 ?_
  refine q_aload_n d_Model_end_108 rfl rfl ?_
  refine q_getI (ci := 11) (fk := 0) d_Model_end_109 rfl (Nat.le_of_ble_eq_true rfl) w_1104 (fun _ _ => rfl) hL.1 ?_
  rw [q_upI_self]
  refine q_if_le (tgt := 117) d_Model_end_112 rfl (fun hc => ?_) (fun hc => ?_)
  · exact absurd hj2 (Int32.not_lt.mpr hc)
  · refine q_iconst (v := nI 0) d_Model_end_115 (by decide) ?_
    refine q_iret d_Model_end_116 rfl (by omega) (by omega) ?_
    have hps := k1.trans (m_ps.int (I := I2) (m := m) (k := 0) (v := nI j) (by decide) (by decide) (by decide) (by decide) (by decide))
    exact ⟨_, rfl, fun z => absurd (show nI j = 0 from z) hj, _, rfl, q_upI_self, hps.1.1, hM.ps hps⟩
theorem c_Model_end_no3 (hw : wf S) (hM : relM S m T I R) (ho : S.op = true) {v : Nat} {Lv : List KF} (hv : S.vs[v]? = some Lv) (hb : v = S.df ∨ Lv.map k_st ≠ S.dD.map k_st) : q_Ci g M_Model_end [.ref m, .int (nI v)] (sz, T, I, R, J) 0 0 (m_spm m sz T I R J (nI 3, 0, S)) := by
  have hL := hM.1
  have hvl := (List.getElem?_eq_some_iff.mp hv).1
  have hv8 := hw.1.2.1
  have hs16 := hw.2.1.1
  have hwf := hw.1.2.2 Lv (List.mem_of_getElem? hv)
  obtain ⟨e1, e2, e3⟩ := hw.draft ho
  have hdl := (hw.2.2.1 ho).1
  refine c_Model_end_pre hw hM ho (Or.inr (k_bel_nI (by omega) hvl)) fun I2 M k1 k0 k2 k3 k4 => ?_
  have hM2 := hM.ps k1
  have fin : q_V g M_Model_end 0 0 0 0 (sz, T, I2, R, J) (fun o h' => ∃ r : Int32, o = .inl (some (.int r)) ∧ m_spm m sz T I R J (nI 3, 0, S) r h') 73 [some (.ref m), some (.int (nI v)), none] [.ref m] := by
    refine q_iconst (v := nI 3) d_Model_end_73 (by decide) ?_
    refine q_goto (tgt := 105) d_Model_end_74 rfl ?_
    exact c_Model_end_thr hM (by decide) (by decide) k1
  refine q_aload_n d_Model_end_46 rfl rfl ?_
  refine q_iload_n d_Model_end_47 rfl rfl ?_
  refine q_iconst (v := (-1)) d_Model_end_48 (by decide) ?_
  refine q_icmp_eq (tgt := 77) d_Model_end_49 rfl (fun hc => ?_) (fun hc => ?_)
  · exact absurd hc (nI_m1 (by omega))
  refine q_iload_n d_Model_end_52 rfl rfl ?_
  refine q_aload_n d_Model_end_53 rfl rfl ?_
  refine q_getR (ci := 11) (fk := 9) d_Model_end_54 rfl (Nat.le_of_ble_eq_true rfl) w_1113 (fun _ _ => rfl) hL.1 (hL.2 9 _ _ _ rfl).1 ?_
  refine q_aload_n d_Model_end_57 rfl rfl ?_
  refine q_getI (ci := 11) (fk := 8) d_Model_end_58 rfl (Nat.le_of_ble_eq_true rfl) w_1112 (fun _ _ => rfl) hL.1 ?_
  rw [hM2.2.2.1.1]
  refine q_iald d_Model_end_61 (hL.2 9 _ _ _ rfl).2 (by first | assumption | exact vp_in_nI (by omega) (by omega)) ?_
  rw [(hM2.2.2.1.2.2.2 ho).1]
  refine q_icmp_eq (tgt := 73) d_Model_end_62 rfl (fun hc => ?_) (fun hc => ?_)
  · exact fin
  have hne : v ≠ S.df := fun z => hc (by rw [z])
  have hlk : Lv.map k_st ≠ S.dD.map k_st := by
    rcases hb with z | z
    · exact absurd z hne
    · exact z
  refine q_aload_n d_Model_end_65 rfl rfl ?_
  refine q_iload_n d_Model_end_66 rfl rfl ?_
  refine q_callVi (M2 := M_Model_isSchema) d_Model_end_67 ⟨(Nat.le_of_ble_eq_true rfl), (Nat.le_of_ble_eq_true rfl), w_1389, w_10, ⟨by decide, by decide⟩, show _ = some 1 by decide +kernel⟩ w_1386 w_1388 (ci := 11) rfl s_72 hL.1 rfl (Nat.le_of_ble_eq_true rfl) (by omega) (by omega) (c_Model_isSchema hL k2 k4 (hM2.vl hv) (by omega) hwf.1.1 hwf.1.2.1) ?_
  rintro _ _ ⟨rfl, rfl⟩
  rw [k_like_iff hwf k4 k3 e2, decide_eq_false hlk]
  refine q_if_ne (tgt := 77) d_Model_end_70 rfl (fun hc => ?_) (fun hc => ?_)
  · exact absurd rfl hc
  · exact fin
/-- up to the room -/
theorem c_Model_end_pre2 (hw : wf S) (hM : relM S m T I R) {to : Int32} (ho : S.op = true) (hto : to = -1 ∨ ∃ v Lv, to = nI v ∧ S.vs[v]? = some Lv ∧ v ≠ S.df ∧ Lv.map k_st = S.dD.map k_st) {Q : q_O → q_H → Prop} (kk : ∀ (I2 : q_I) (M : List KF), m_ps m I I2 → I2 m (nI 0) = 0 → k_mw m M I2 → M.Perm S.dD → k_wfL M → q_V g M_Model_end 0 0 0 0 (sz, T, I2, R, J) Q 77 [some (.ref m), some (.int to), none] [.ref m]) : q_C g M_Model_end [.ref m, .int to] (sz, T, I, R, J) 0 0 Q := by
  have hL := hM.1
  have hv8 := hw.1.2.1
  have hs16 := hw.2.1.1
  obtain ⟨e1, e2, e3⟩ := hw.draft ho
  have hdl := (hw.2.2.1 ho).1
  rcases hto with rfl | ⟨v, Lv, rfl, hv, hne, hlk⟩
  · refine c_Model_end_pre hw hM ho (Or.inl rfl) fun I2 M k1 k0 k2 k3 k4 => ?_
    refine q_aload_n d_Model_end_46 rfl rfl ?_
    refine q_iload_n d_Model_end_47 rfl rfl ?_
    refine q_iconst (v := (-1)) d_Model_end_48 (by decide) ?_
    refine q_icmp_eq (tgt := 77) d_Model_end_49 rfl (fun hc => ?_) (fun hc => ?_)
    rotate_left
    · exact absurd rfl hc
    exact kk I2 M k1 k0 k2 k3 k4
  · have hvl := (List.getElem?_eq_some_iff.mp hv).1
    have hwf := hw.1.2.2 Lv (List.mem_of_getElem? hv)
    refine c_Model_end_pre hw hM ho (Or.inr (k_bel_nI (by omega) hvl)) fun I2 M k1 k0 k2 k3 k4 => ?_
    have hM2 := hM.ps k1
    refine q_aload_n d_Model_end_46 rfl rfl ?_
    refine q_iload_n d_Model_end_47 rfl rfl ?_
    refine q_iconst (v := (-1)) d_Model_end_48 (by decide) ?_
    refine q_icmp_eq (tgt := 77) d_Model_end_49 rfl (fun hc => ?_) (fun hc => ?_)
    · exact absurd hc (nI_m1 (by omega))
    refine q_iload_n d_Model_end_52 rfl rfl ?_
    refine q_aload_n d_Model_end_53 rfl rfl ?_
    refine q_getR (ci := 11) (fk := 9) d_Model_end_54 rfl (Nat.le_of_ble_eq_true rfl) w_1113 (fun _ _ => rfl) hL.1 (hL.2 9 _ _ _ rfl).1 ?_
    refine q_aload_n d_Model_end_57 rfl rfl ?_
    refine q_getI (ci := 11) (fk := 8) d_Model_end_58 rfl (Nat.le_of_ble_eq_true rfl) w_1112 (fun _ _ => rfl) hL.1 ?_
    rw [hM2.2.2.1.1]
    refine q_iald d_Model_end_61 (hL.2 9 _ _ _ rfl).2 (by first | assumption | exact vp_in_nI (by omega) (by omega)) ?_
    rw [(hM2.2.2.1.2.2.2 ho).1]
    refine q_icmp_eq (tgt := 73) d_Model_end_62 rfl (fun hc => ?_) (fun hc => ?_)
    · exact absurd ((nI_eq (by omega) (by omega)).mp hc) hne
    refine q_aload_n d_Model_end_65 rfl rfl ?_
    refine q_iload_n d_Model_end_66 rfl rfl ?_
    refine q_callVi (M2 := M_Model_isSchema) d_Model_end_67 ⟨(Nat.le_of_ble_eq_true rfl), (Nat.le_of_ble_eq_true rfl), w_1389, w_10, ⟨by decide, by decide⟩, show _ = some 1 by decide +kernel⟩ w_1386 w_1388 (ci := 11) rfl s_72 hL.1 rfl (Nat.le_of_ble_eq_true rfl) (by omega) (by omega) (c_Model_isSchema hL k2 k4 (hM2.vl hv) (by omega) hwf.1.1 hwf.1.2.1) ?_
    rintro _ _ ⟨rfl, rfl⟩
    rw [k_like_iff hwf k4 k3 e2, decide_eq_true hlk]
    refine q_if_ne (tgt := 77) d_Model_end_70 rfl (fun hc => ?_) (fun hc => ?_)
    · exact kk I2 M k1 k0 k2 k3 k4
    · exact absurd hc (by decide)
theorem c_Model_end_no4 (hw : wf S) (hM : relM S m T I R) {to : Int32} (ho : S.op = true) (hto : to = -1 ∨ ∃ v Lv, to = nI v ∧ S.vs[v]? = some Lv ∧ v ≠ S.df ∧ Lv.map k_st = S.dD.map k_st) (hf : (to = -1 ∧ S.vs.length = 8) ∨ S.ss.length = 16) : q_Ci g M_Model_end [.ref m, .int to] (sz, T, I, R, J) 0 0 (m_spm m sz T I R J (nI 4, 0, S)) := by
  have hL := hM.1
  refine c_Model_end_pre2 hw hM ho hto fun I2 M k1 k0 k2 k3 k4 => ?_
  have hM2 := hM.ps k1
  have fin : q_V g M_Model_end 0 0 0 0 (sz, T, I2, R, J) (fun o h' => ∃ r : Int32, o = .inl (some (.int r)) ∧ m_spm m sz T I R J (nI 4, 0, S) r h') 100 [some (.ref m), some (.int to), none] [.ref m] := by
    refine q_iconst (v := nI 4) d_Model_end_100 (by decide) ?_
    refine q_goto (tgt := 105) d_Model_end_101 rfl ?_
    exact c_Model_end_thr hM (by decide) (by decide) k1
  have h16 : ¬ (to = -1 ∧ S.vs.length = 8) → q_V g M_Model_end 0 0 0 0 (sz, T, I2, R, J) (fun o h' => ∃ r : Int32, o = .inl (some (.int r)) ∧ m_spm m sz T I R J (nI 4, 0, S) r h') 91 [some (.ref m), some (.int to), none] [.ref m] := fun hh => by
    have h16 : S.ss.length = 16 := by
      rcases hf with z | z
      · exact absurd z hh
      · exact z
    refine q_aload_n d_Model_end_91 rfl rfl ?_
    refine q_getI (ci := 11) (fk := 8) d_Model_end_92 rfl (Nat.le_of_ble_eq_true rfl) w_1112 (fun _ _ => rfl) hL.1 ?_
    rw [hM2.2.2.1.1, h16]
    refine q_bipush (v := nI 16) d_Model_end_95 (by decide) ?_
    refine q_icmp_ne (tgt := 104) d_Model_end_97 rfl (fun hc => ?_) (fun hc => ?_)
    · exact absurd rfl hc
    · exact fin
  refine q_iload_n d_Model_end_77 rfl rfl ?_
  refine q_iconst (v := (-1)) d_Model_end_78 (by decide) ?_
  refine q_icmp_ne (tgt := 91) d_Model_end_79 rfl (fun hc => ?_) (fun hc => ?_)
  · exact h16 (fun z => hc z.1)
  have hm : to = -1 := by have := hc; exact this
  refine q_aload_n d_Model_end_82 rfl rfl ?_
  refine q_getI (ci := 11) (fk := 1) d_Model_end_83 rfl (Nat.le_of_ble_eq_true rfl) w_1105 (fun _ _ => rfl) hL.1 ?_
  rw [hM2.2.1.1]
  refine q_bipush (v := nI 8) d_Model_end_86 (by decide) ?_
  refine q_icmp_eq (tgt := 100) d_Model_end_88 rfl (fun hc => ?_) (fun hc => ?_)
  · exact fin
  · exact h16 (fun z => hc (by rw [z.2]))
set_option maxHeartbeats 1000000 in
theorem c_Model_end (hw : wf S) (hM : relM S m T I R) {to : Int32} (ho : S.op = true) (hto : to = -1 ∨ ∃ v Lv, to = nI v ∧ S.vs[v]? = some Lv ∧ v ≠ S.df ∧ Lv.map k_st = S.dD.map k_st) (hf : ¬ (to = -1 ∧ S.vs.length = 8)) (hf2 : S.ss.length ≠ 16) {L : List KF} (hv : S.vs[S.df]? = some L) : q_Ci g M_Model_end [.ref m, .int to] (sz, T, I, R, J) 0 0 (m_spm m sz T I R J (if to = -1 then (0, nI S.vs.length, S.endV L.length) else (0, to, S.endS to.toNatClampNeg L.length))) := by
  have hL := hM.1
  have hv8 := hw.1.2.1
  have hs16 := hw.2.1.1
  obtain ⟨e1, e2, e3⟩ := hw.draft ho
  refine c_Model_end_pre2 hw hM ho hto fun I2 M k1 k0 k2 k3 k4 => ?_
  obtain ⟨I3, hI3⟩ : ∃ I3, I3 = q_upI I2 m (nI 0) (nI 0) := ⟨_, rfl⟩
  have hps : m_ps m I I3 := by rw [hI3]; exact k1.trans (m_ps.int (by decide) (by decide) (by decide) (by decide) (by decide))
  have hM2 := hM.ps k1
  have hM3 := hM.ps hps
  have z3 : I3 m (nI 0) = 0 := by rw [hI3, q_upI_self]; rfl
  have k2' : k_mw m M I3 := by
    rw [hI3]
    unfold k_mw
    rw [q_upI_nk (by omega)]
    refine ⟨k2.1, k2.2.1, fun i e he => ?_⟩
    rw [q_upI_nea (by omega), q_upI_nea (by omega), q_upI_nea (by omega), q_upI_nea (by omega)]
    exact k2.2.2 i e he
  -- from where the step is booked
  have fin : ∀ (I4 : q_I) (vs : List (List KF)) (t : Nat), (∀ b, b < m ∨ m + 30 ≤ b → I4 b = I b) → I4 m (nI 0) = 0 → m_ver m vs I4 → (∀ j, 6 ≤ j → j ≤ 13 → I4 (m + j) = I (m + j)) → I4 m (nI 8) = I m (nI 8) → I4 m (nI 7) = I m (nI 7) → q_V g M_Model_end 0 0 0 0 (sz, T, I4, R, J) (fun o h' => ∃ r : Int32, o = .inl (some (.int r)) ∧ m_spm m sz T I R J (0, nI t, (S.grow vs (S.ss ++ [(S.df, t, S.dp, L.length, S.dD.map (·.2.2.2.2))])).leave) r h') 144 [some (.ref m), some (.int to), some (.int (nI t))] [] := by
    intro I4 vs t i1 i2 i3 i4 i5 i6
    have n8 : I4 m (nI 8) = nI S.ss.length := by rw [i5]; exact hM.2.2.1.1
    refine q_aload_n d_Model_end_144 rfl rfl ?_
    refine q_getR (ci := 11) (fk := 10) d_Model_end_145 rfl (Nat.le_of_ble_eq_true rfl) w_1114 (fun _ _ => rfl) hL.1 (hL.2 10 _ _ _ rfl).1 ?_
    refine q_aload_n d_Model_end_148 rfl rfl ?_
    refine q_getI (ci := 11) (fk := 8) d_Model_end_149 rfl (Nat.le_of_ble_eq_true rfl) w_1112 (fun _ _ => rfl) hL.1 ?_
    rw [n8]
    refine q_iload_n d_Model_end_152 rfl rfl ?_
    refine q_iast d_Model_end_153 (hL.2 10 _ _ _ rfl).2 (by first | assumption | exact vp_in_nI (by omega) (by omega)) ?_
    refine q_aload_n d_Model_end_154 rfl rfl ?_
    refine q_dup d_Model_end_155 rfl ?_
    refine q_getI (ci := 11) (fk := 8) d_Model_end_156 rfl (Nat.le_of_ble_eq_true rfl) w_1112 (fun _ _ => rfl) hL.1 ?_
    rw [q_upI_nea (by omega), n8]
    refine q_iconst (v := nI 1) d_Model_end_159 (by decide) ?_
    first | refine q_iaddN d_Model_end_160 ?_ | refine q_iadd d_Model_end_160 ?_
    refine q_putI (ci := 11) (fk := 8) d_Model_end_161 rfl (Nat.le_of_ble_eq_true rfl) w_1112 (Or.inl rfl) (fun _ _ => rfl) rfl rfl hL.1 ?_
    refine q_aload_n d_Model_end_164 rfl rfl ?_
    refine q_iconst (v := nI 0) d_Model_end_165 (by decide) ?_
    refine q_putI (ci := 11) (fk := 13) d_Model_end_166 rfl (Nat.le_of_ble_eq_true rfl) w_1117 (Or.inl rfl) (fun _ _ => rfl) (by first | rfl | decide | assumption) (by first | rfl | decide | assumption) hL.1 ?_
    refine q_iload_n d_Model_end_169 rfl rfl ?_
    refine q_iret d_Model_end_170 rfl (by omega) (by omega) ?_
    refine ⟨_, rfl, fun _ => rfl, _, rfl, ?_, fun b hb => ?_, hM.endS ho (by omega) ?_ ?_ ?_ (fun i hi => ?_) (fun j j1 j2 => ?_) ?_ ?_ ?_⟩
    · simp (disch := omega) only [q_upI_nea, q_upI_self, q_upI_nk]
      exact i2
    · rw [← i1 b hb]
      funext j
      simp (disch := omega) only [q_upI_nea, q_upI_self, q_upI_nk]
    · obtain ⟨a1, a2⟩ := i3
      refine ⟨?_, fun v L2 hL2 => ?_⟩
      · simp (disch := omega) only [q_upI_nea, q_upI_self, q_upI_nk]
        exact a1
      · obtain ⟨b1, b2⟩ := a2 v L2 hL2
        refine ⟨?_, fun i f hf => ?_⟩
        · simp (disch := omega) only [q_upI_nea, q_upI_self, q_upI_nk]
          exact b1
        · simp (disch := omega) only [q_upI_nea, q_upI_self, q_upI_nk]
          exact b2 i f hf
    · rw [← i4 6 (by omega) (by omega)]
      funext j
      simp (disch := omega) only [q_upI_nea, q_upI_self, q_upI_nk]
    · simp (disch := omega) only [q_upI_nea, q_upI_self, q_upI_nk]
    · simp (disch := omega) only [q_upI_nea, q_upI_self, q_upI_nk]
      rw [i4 7 (by omega) (by omega)]
    · rw [← i4 j (by omega) (by omega)]
      funext z
      simp (disch := omega) only [q_upI_nea, q_upI_self, q_upI_nk]
    · simp (disch := omega) only [q_upI_nea, q_upI_self, q_upI_nk]
    · simp (disch := omega) only [q_upI_nea, q_upI_self, q_upI_nk]
      rfl
    · simp (disch := omega) only [q_upI_nea, q_upI_self, q_upI_nk]
      exact i6
  have go : q_V g M_Model_end 0 0 0 0 (sz, T, I2, R, J) (fun o h' => ∃ r : Int32, o = .inl (some (.int r)) ∧ m_spm m sz T I R J (if to = -1 then (0, nI S.vs.length, S.endV L.length) else (0, to, S.endS to.toNatClampNeg L.length)) r h') 104 [some (.ref m), some (.int to), none] [.ref m] := by
    refine q_iconst (v := nI 0) d_Model_end_104 (by decide) ?_
    refine q_putI (ci := 11) (fk := 0) d_Model_end_105 rfl (Nat.le_of_ble_eq_true rfl) w_1104 (Or.inl rfl) (fun _ _ => rfl) rfl rfl hL.1 ?_
    refine q_aload_n d_Model_end_108 rfl rfl ?_
    refine q_getI (ci := 11) (fk := 0) d_Model_end_109 rfl (Nat.le_of_ble_eq_true rfl) w_1104 (fun _ _ => rfl) hL.1 ?_
    rw [q_upI_self]
    refine q_if_le (tgt := 117) d_Model_end_112 rfl (fun hc => ?_) (fun hc => ?_)
    rotate_left
    · exact absurd (Int32.le_refl _) hc
    rw [← hI3]
    rcases hto with rfl | ⟨v, Lv, rfl, hv2, hne, hlk⟩
    · rw [if_pos rfl]
      have hf8 : S.vs.length ≠ 8 := fun z => hf ⟨rfl, z⟩
      refine q_iload_n d_Model_end_117 rfl rfl ?_
      refine q_istore_n d_Model_end_118 rfl (Nat.le_of_ble_eq_true rfl) (by first | exact q_ok0 | exact q_okI rfl | exact q_okR rfl | exact q_okN rfl) rfl ?_
      refine q_iload_n d_Model_end_119 rfl rfl ?_
      refine q_iconst (v := (-1)) d_Model_end_120 (by decide) ?_
      refine q_icmp_ne (tgt := 144) d_Model_end_121 rfl (fun hc => ?_) (fun hc => ?_)
      · exact absurd rfl hc
      have n1 : I3 m (nI 1) = nI S.vs.length := hM3.2.1.1
      refine q_aload_n d_Model_end_124 rfl rfl ?_
      refine q_getI (ci := 11) (fk := 1) d_Model_end_125 rfl (Nat.le_of_ble_eq_true rfl) w_1105 (fun _ _ => rfl) hL.1 ?_
      rw [n1]
      refine q_istore_n d_Model_end_128 rfl (Nat.le_of_ble_eq_true rfl) (by first | exact q_ok0 | exact q_okI rfl | exact q_okR rfl | exact q_okN rfl) rfl ?_
      refine q_aload_n d_Model_end_129 rfl rfl ?_
      refine q_dup d_Model_end_130 rfl ?_
      refine q_getI (ci := 11) (fk := 1) d_Model_end_131 rfl (Nat.le_of_ble_eq_true rfl) w_1105 (fun _ _ => rfl) hL.1 ?_
      rw [n1]
      refine q_iconst (v := nI 1) d_Model_end_134 (by decide) ?_
      first | refine q_iaddN d_Model_end_135 ?_ | refine q_iadd d_Model_end_135 ?_
      refine q_putI (ci := 11) (fk := 1) d_Model_end_136 rfl (Nat.le_of_ble_eq_true rfl) w_1105 (Or.inl rfl) (fun _ _ => rfl) rfl rfl hL.1 ?_
      refine q_aload_n d_Model_end_139 rfl rfl ?_
      refine q_iload_n d_Model_end_140 rfl rfl ?_
      obtain ⟨I4, hI4⟩ : ∃ I4, I4 = q_upI I3 m (nI 1) (nI (S.vs.length + 1)) := ⟨_, rfl⟩
      rw [← hI4]
      have o4 : ∀ b, b ≠ m → I4 b = I3 b := fun b hb => by rw [hI4]; funext j; rw [q_upI_nea hb]
      have k4' : k_mw m M I4 := by
        rw [hI4]
        unfold k_mw
        rw [q_upI_nk (by omega)]
        refine ⟨k2'.1, k2'.2.1, fun i e he => ?_⟩
        rw [q_upI_nea (by omega), q_upI_nea (by omega), q_upI_nea (by omega), q_upI_nea (by omega)]
        exact k2'.2.2 i e he
      refine q_callVv (M2 := M_Model_settle) d_Model_end_141 ⟨(Nat.le_of_ble_eq_true rfl), (Nat.le_of_ble_eq_true rfl), w_1270, w_10, ⟨by decide, by decide⟩, show _ = some 1 by decide +kernel⟩ w_1267 w_1269 (ci := 11) rfl s_54 hL.1 rfl (Nat.le_of_ble_eq_true rfl) (by omega) (by omega) (c_Model_settle (v := S.vs.length) hL k4' k4.2.1 k4.2.2.1 k3.symm e2 k4.1 (by omega)) ?_
      rintro _ ⟨I5, rfl, s1, s2, s3, s4⟩
      have e5 : I5 m = I4 m := s2 m (by omega)
      refine fin I5 (S.vs ++ [k_rs 0 S.dD]) S.vs.length (fun b hb => ?_) ?_ ⟨?_, fun v L2 hL2 => ?_⟩ (fun j j1 j2 => ?_) ?_ ?_
      · rw [s2 b (by omega), o4 b (by omega)]; exact hps.1.1 b hb
      · rw [e5, hI4, q_upI_nk (by omega)]; exact z3
      · rw [e5, hI4, q_upI_self, List.length_append]; rfl
      · rcases k_app_at hL2 with ⟨v1, v2⟩ | ⟨v1, v2⟩
        · obtain ⟨b1, b2⟩ := hM3.2.1.2 v L2 v2
          refine ⟨by rw [s3 v (by omega) (by omega), o4 (m + 1) (by omega)]; exact b1, fun i f hf => ?_⟩
          have hil := (List.getElem?_eq_some_iff.mp hf).1
          have h24 := (hw.1.2.2 L2 (List.mem_of_getElem? v2)).1.1
          rw [s4 2 _ (by omega) (by omega) (by omega) (by omega), s4 3 _ (by omega) (by omega) (by omega) (by omega), s4 4 _ (by omega) (by omega) (by omega) (by omega), s4 5 _ (by omega) (by omega) (by omega) (by omega), o4 _ (by omega), o4 _ (by omega), o4 _ (by omega), o4 _ (by omega)]
          exact b2 i f hf
        · subst v1 v2
          refine ⟨by rw [k_rs_len]; exact s1.1, fun i f hf => ?_⟩
          rw [k_rs_at] at hf
          cases hd : S.dD[i]? with
          | none => rw [hd] at hf; cases hf
          | some e =>
            rw [hd] at hf
            cases hf
            exact s1.2 i e hd
      · rw [s2 (m + j) (by omega), o4 _ (by omega)]
        by_cases hj9 : j ≤ 9
        · exact hps.1.2.1 j (by omega) hj9
        · exact hps.2 j (by omega) (by omega)
      · rw [e5, hI4, q_upI_nk (by omega)]; exact hps.1.2.2.2.2.1
      · rw [e5, hI4, q_upI_nk (by omega)]; exact hps.1.2.2.2.1
    · have hvl := (List.getElem?_eq_some_iff.mp hv2).1
      rw [if_neg (nI_m1 (by omega)), nI_clamp (by omega)]
      refine q_iload_n d_Model_end_117 rfl rfl ?_
      refine q_istore_n d_Model_end_118 rfl (Nat.le_of_ble_eq_true rfl) (by first | exact q_ok0 | exact q_okI rfl | exact q_okR rfl | exact q_okN rfl) rfl ?_
      refine q_iload_n d_Model_end_119 rfl rfl ?_
      refine q_iconst (v := (-1)) d_Model_end_120 (by decide) ?_
      refine q_icmp_ne (tgt := 144) d_Model_end_121 rfl (fun hc => ?_) (fun hc => ?_)
      rotate_left
      · exact absurd hc (nI_m1 (by omega))
      refine fin I3 S.vs v hps.1.1 z3 hM3.2.1 (fun j j1 j2 => ?_) hps.1.2.2.2.2.1 hps.1.2.2.2.1
      by_cases hj9 : j ≤ 9
      · exact hps.1.2.1 j (by omega) hj9
      · exact hps.2 j (by omega) (by omega)
  have h16 : q_V g M_Model_end 0 0 0 0 (sz, T, I2, R, J) (fun o h' => ∃ r : Int32, o = .inl (some (.int r)) ∧ m_spm m sz T I R J (if to = -1 then (0, nI S.vs.length, S.endV L.length) else (0, to, S.endS to.toNatClampNeg L.length)) r h') 91 [some (.ref m), some (.int to), none] [.ref m] := by
    refine q_aload_n d_Model_end_91 rfl rfl ?_
    refine q_getI (ci := 11) (fk := 8) d_Model_end_92 rfl (Nat.le_of_ble_eq_true rfl) w_1112 (fun _ _ => rfl) hL.1 ?_
    rw [hM2.2.2.1.1]
    refine q_bipush (v := nI 16) d_Model_end_95 (by decide) ?_
    refine q_icmp_ne (tgt := 104) d_Model_end_97 rfl (fun hc => ?_) (fun hc => ?_)
    · exact go
    · exact absurd ((nI_eq (by omega) (by omega)).mp (show nI S.ss.length = nI 16 by have := hc; simpa using this)) hf2
  refine q_iload_n d_Model_end_77 rfl rfl ?_
  refine q_iconst (v := (-1)) d_Model_end_78 (by decide) ?_
  refine q_icmp_ne (tgt := 91) d_Model_end_79 rfl (fun hc => ?_) (fun hc => ?_)
  · exact h16
  have hm : to = -1 := by have := hc; simpa using this
  refine q_aload_n d_Model_end_82 rfl rfl ?_
  refine q_getI (ci := 11) (fk := 1) d_Model_end_83 rfl (Nat.le_of_ble_eq_true rfl) w_1105 (fun _ _ => rfl) hL.1 ?_
  rw [hM2.2.1.1]
  refine q_bipush (v := nI 8) d_Model_end_86 (by decide) ?_
  refine q_icmp_eq (tgt := 100) d_Model_end_88 rfl (fun hc => ?_) (fun hc => ?_)
  · exact absurd ⟨hm, (nI_eq (by omega) (by omega)).mp hc⟩ hf
  · exact h16
end EndM
