/-! split, scale, map -/
abbrev M_Draft_split : q_M := (⟨"LensPaths$Draft", "split", "(LLensPaths$Field;II)LLensPaths$Primitive;"⟩, prog_4_method_10_code, 6, (some (.object "LensPaths$Primitive")), "LensPaths$Draft", [], false, 3, 62)
theorem d_Draft_split_0 : decode prog_4_method_10_code 0 = .ok (.aload_n 1, 1) := by decide +kernel
theorem d_Draft_split_1 : decode prog_4_method_10_code 1 = .ok (.getfield 90, 3) := by decide +kernel
theorem d_Draft_split_4 : decode prog_4_method_10_code 4 = .ok (.ifCond .ne 22, 3) := by decide +kernel
theorem d_Draft_split_7 : decode prog_4_method_10_code 7 = .ok (.iload_n 2, 1) := by decide +kernel
theorem d_Draft_split_8 : decode prog_4_method_10_code 8 = .ok (.iconst 2, 1) := by decide +kernel
theorem d_Draft_split_9 : decode prog_4_method_10_code 9 = .ok (.if_icmp .lt 17, 3) := by decide +kernel
theorem d_Draft_split_12 : decode prog_4_method_10_code 12 = .ok (.iload_n 2, 1) := by decide +kernel
theorem d_Draft_split_13 : decode prog_4_method_10_code 13 = .ok (.sipush 1000, 3) := by decide +kernel
theorem d_Draft_split_16 : decode prog_4_method_10_code 16 = .ok (.if_icmp .gt 10, 3) := by decide +kernel
theorem d_Draft_split_19 : decode prog_4_method_10_code 19 = .ok (.iload_n 3, 1) := by decide +kernel
theorem d_Draft_split_20 : decode prog_4_method_10_code 20 = .ok (.invokestatic 114, 3) := by decide +kernel
theorem d_Draft_split_23 : decode prog_4_method_10_code 23 = .ok (.ifCond .ne 5, 3) := by decide +kernel
theorem d_Draft_split_26 : decode prog_4_method_10_code 26 = .ok (.aconst_null, 1) := by decide +kernel
theorem d_Draft_split_27 : decode prog_4_method_10_code 27 = .ok (.areturn, 1) := by decide +kernel
theorem d_Draft_split_28 : decode prog_4_method_10_code 28 = .ok (.aload_n 1, 1) := by decide +kernel
theorem d_Draft_split_29 : decode prog_4_method_10_code 29 = .ok (.getfield 117, 3) := by decide +kernel
theorem d_Draft_split_32 : decode prog_4_method_10_code 32 = .ok (.iload_n 3, 1) := by decide +kernel
theorem d_Draft_split_33 : decode prog_4_method_10_code 33 = .ok (.invokestatic 120, 3) := by decide +kernel
theorem d_Draft_split_36 : decode prog_4_method_10_code 36 = .ok (.istore 4, 2) := by decide +kernel
theorem d_Draft_split_38 : decode prog_4_method_10_code 38 = .ok (.aload_n 0, 1) := by decide +kernel
theorem d_Draft_split_39 : decode prog_4_method_10_code 39 = .ok (.getfield 12, 3) := by decide +kernel
theorem d_Draft_split_42 : decode prog_4_method_10_code 42 = .ok (.getfield 36, 3) := by decide +kernel
theorem d_Draft_split_45 : decode prog_4_method_10_code 45 = .ok (.bipush 24, 2) := by decide +kernel
theorem d_Draft_split_47 : decode prog_4_method_10_code 47 = .ok (.if_icmp .eq 16, 3) := by decide +kernel
theorem d_Draft_split_50 : decode prog_4_method_10_code 50 = .ok (.aload_n 0, 1) := by decide +kernel
theorem d_Draft_split_51 : decode prog_4_method_10_code 51 = .ok (.getfield 12, 3) := by decide +kernel
theorem d_Draft_split_54 : decode prog_4_method_10_code 54 = .ok (.iload 4, 2) := by decide +kernel
theorem d_Draft_split_56 : decode prog_4_method_10_code 56 = .ok (.invokevirtual 59, 3) := by decide +kernel
theorem d_Draft_split_59 : decode prog_4_method_10_code 59 = .ok (.iconst (-1), 1) := by decide +kernel
theorem d_Draft_split_60 : decode prog_4_method_10_code 60 = .ok (.if_icmp .eq 5, 3) := by decide +kernel
theorem d_Draft_split_63 : decode prog_4_method_10_code 63 = .ok (.aconst_null, 1) := by decide +kernel
theorem d_Draft_split_64 : decode prog_4_method_10_code 64 = .ok (.areturn, 1) := by decide +kernel
theorem d_Draft_split_65 : decode prog_4_method_10_code 65 = .ok (.new 18, 3) := by decide +kernel
theorem d_Draft_split_68 : decode prog_4_method_10_code 68 = .ok (.dup, 1) := by decide +kernel
theorem d_Draft_split_69 : decode prog_4_method_10_code 69 = .ok (.iconst 5, 1) := by decide +kernel
theorem d_Draft_split_70 : decode prog_4_method_10_code 70 = .ok (.aload_n 1, 1) := by decide +kernel
theorem d_Draft_split_71 : decode prog_4_method_10_code 71 = .ok (.iload_n 2, 1) := by decide +kernel
theorem d_Draft_split_72 : decode prog_4_method_10_code 72 = .ok (.iconst 0, 1) := by decide +kernel
theorem d_Draft_split_73 : decode prog_4_method_10_code 73 = .ok (.invokespecial 95, 3) := by decide +kernel
theorem d_Draft_split_76 : decode prog_4_method_10_code 76 = .ok (.astore 5, 2) := by decide +kernel
theorem d_Draft_split_78 : decode prog_4_method_10_code 78 = .ok (.aload 5, 2) := by decide +kernel
theorem d_Draft_split_80 : decode prog_4_method_10_code 80 = .ok (.aload_n 0, 1) := by decide +kernel
theorem d_Draft_split_81 : decode prog_4_method_10_code 81 = .ok (.invokevirtual 106, 3) := by decide +kernel
theorem d_Draft_split_84 : decode prog_4_method_10_code 84 = .ok (.putfield 141, 3) := by decide +kernel
theorem d_Draft_split_87 : decode prog_4_method_10_code 87 = .ok (.aload_n 1, 1) := by decide +kernel
theorem d_Draft_split_88 : decode prog_4_method_10_code 88 = .ok (.aload_n 1, 1) := by decide +kernel
theorem d_Draft_split_89 : decode prog_4_method_10_code 89 = .ok (.getfield 144, 3) := by decide +kernel
theorem d_Draft_split_92 : decode prog_4_method_10_code 92 = .ok (.iload_n 2, 1) := by decide +kernel
theorem d_Draft_split_93 : decode prog_4_method_10_code 93 = .ok (.invokestatic 147, 3) := by decide +kernel
theorem d_Draft_split_96 : decode prog_4_method_10_code 96 = .ok (.putfield 144, 3) := by decide +kernel
theorem d_Draft_split_99 : decode prog_4_method_10_code 99 = .ok (.aload_n 1, 1) := by decide +kernel
theorem d_Draft_split_100 : decode prog_4_method_10_code 100 = .ok (.aload_n 1, 1) := by decide +kernel
theorem d_Draft_split_101 : decode prog_4_method_10_code 101 = .ok (.getfield 152, 3) := by decide +kernel
theorem d_Draft_split_104 : decode prog_4_method_10_code 104 = .ok (.iload_n 2, 1) := by decide +kernel
theorem d_Draft_split_105 : decode prog_4_method_10_code 105 = .ok (.invokestatic 147, 3) := by decide +kernel
theorem d_Draft_split_108 : decode prog_4_method_10_code 108 = .ok (.putfield 152, 3) := by decide +kernel
theorem d_Draft_split_111 : decode prog_4_method_10_code 111 = .ok (.aload_n 0, 1) := by decide +kernel
theorem d_Draft_split_112 : decode prog_4_method_10_code 112 = .ok (.getfield 12, 3) := by decide +kernel
theorem d_Draft_split_115 : decode prog_4_method_10_code 115 = .ok (.iload 4, 2) := by decide +kernel
theorem d_Draft_split_117 : decode prog_4_method_10_code 117 = .ok (.iconst 0, 1) := by decide +kernel
theorem d_Draft_split_118 : decode prog_4_method_10_code 118 = .ok (.iconst 0, 1) := by decide +kernel
theorem d_Draft_split_119 : decode prog_4_method_10_code 119 = .ok (.iload_n 2, 1) := by decide +kernel
theorem d_Draft_split_120 : decode prog_4_method_10_code 120 = .ok (.iconst 1, 1) := by decide +kernel
theorem d_Draft_split_121 : decode prog_4_method_10_code 121 = .ok (.isub, 1) := by decide +kernel
theorem d_Draft_split_122 : decode prog_4_method_10_code 122 = .ok (.aload 5, 2) := by decide +kernel
theorem d_Draft_split_124 : decode prog_4_method_10_code 124 = .ok (.getfield 141, 3) := by decide +kernel
theorem d_Draft_split_127 : decode prog_4_method_10_code 127 = .ok (.invokevirtual 110, 3) := by decide +kernel
theorem d_Draft_split_130 : decode prog_4_method_10_code 130 = .ok (.pop, 1) := by decide +kernel
theorem d_Draft_split_131 : decode prog_4_method_10_code 131 = .ok (.aload 5, 2) := by decide +kernel
theorem d_Draft_split_133 : decode prog_4_method_10_code 133 = .ok (.areturn, 1) := by decide +kernel
abbrev M_Draft_scale : q_M := (⟨"LensPaths$Draft", "scale", "(LLensPaths$Field;II)LLensPaths$Primitive;"⟩, prog_4_method_11_code, 9, (some (.object "LensPaths$Primitive")), "LensPaths$Draft", [], false, 2, 44)
theorem d_Draft_scale_0 : decode prog_4_method_11_code 0 = .ok (.aload_n 1, 1) := by decide +kernel
theorem d_Draft_scale_1 : decode prog_4_method_11_code 1 = .ok (.getfield 90, 3) := by decide +kernel
theorem d_Draft_scale_4 : decode prog_4_method_11_code 4 = .ok (.ifCond .ne 27, 3) := by decide +kernel
theorem d_Draft_scale_7 : decode prog_4_method_11_code 7 = .ok (.iload_n 2, 1) := by decide +kernel
theorem d_Draft_scale_8 : decode prog_4_method_11_code 8 = .ok (.iconst 1, 1) := by decide +kernel
theorem d_Draft_scale_9 : decode prog_4_method_11_code 9 = .ok (.if_icmp .lt 22, 3) := by decide +kernel
theorem d_Draft_scale_12 : decode prog_4_method_11_code 12 = .ok (.iload_n 2, 1) := by decide +kernel
theorem d_Draft_scale_13 : decode prog_4_method_11_code 13 = .ok (.sipush 1000, 3) := by decide +kernel
theorem d_Draft_scale_16 : decode prog_4_method_11_code 16 = .ok (.if_icmp .gt 15, 3) := by decide +kernel
theorem d_Draft_scale_19 : decode prog_4_method_11_code 19 = .ok (.iload_n 3, 1) := by decide +kernel
theorem d_Draft_scale_20 : decode prog_4_method_11_code 20 = .ok (.iconst 1, 1) := by decide +kernel
theorem d_Draft_scale_21 : decode prog_4_method_11_code 21 = .ok (.if_icmp .lt 10, 3) := by decide +kernel
theorem d_Draft_scale_24 : decode prog_4_method_11_code 24 = .ok (.iload_n 3, 1) := by decide +kernel
theorem d_Draft_scale_25 : decode prog_4_method_11_code 25 = .ok (.sipush 1000, 3) := by decide +kernel
theorem d_Draft_scale_28 : decode prog_4_method_11_code 28 = .ok (.if_icmp .le 5, 3) := by decide +kernel
theorem d_Draft_scale_31 : decode prog_4_method_11_code 31 = .ok (.aconst_null, 1) := by decide +kernel
theorem d_Draft_scale_32 : decode prog_4_method_11_code 32 = .ok (.areturn, 1) := by decide +kernel
theorem d_Draft_scale_33 : decode prog_4_method_11_code 33 = .ok (.iload_n 2, 1) := by decide +kernel
theorem d_Draft_scale_34 : decode prog_4_method_11_code 34 = .ok (.i2l, 1) := by decide +kernel
theorem d_Draft_scale_35 : decode prog_4_method_11_code 35 = .ok (.aload_n 1, 1) := by decide +kernel
theorem d_Draft_scale_36 : decode prog_4_method_11_code 36 = .ok (.getfield 144, 3) := by decide +kernel
theorem d_Draft_scale_39 : decode prog_4_method_11_code 39 = .ok (.i2l, 1) := by decide +kernel
theorem d_Draft_scale_40 : decode prog_4_method_11_code 40 = .ok (.lmul, 1) := by decide +kernel
theorem d_Draft_scale_41 : decode prog_4_method_11_code 41 = .ok (.iload_n 3, 1) := by decide +kernel
theorem d_Draft_scale_42 : decode prog_4_method_11_code 42 = .ok (.i2l, 1) := by decide +kernel
theorem d_Draft_scale_43 : decode prog_4_method_11_code 43 = .ok (.invokestatic 155, 3) := by decide +kernel
theorem d_Draft_scale_46 : decode prog_4_method_11_code 46 = .ok (.lstore 4, 2) := by decide +kernel
theorem d_Draft_scale_48 : decode prog_4_method_11_code 48 = .ok (.iload_n 2, 1) := by decide +kernel
theorem d_Draft_scale_49 : decode prog_4_method_11_code 49 = .ok (.i2l, 1) := by decide +kernel
theorem d_Draft_scale_50 : decode prog_4_method_11_code 50 = .ok (.aload_n 1, 1) := by decide +kernel
theorem d_Draft_scale_51 : decode prog_4_method_11_code 51 = .ok (.getfield 152, 3) := by decide +kernel
theorem d_Draft_scale_54 : decode prog_4_method_11_code 54 = .ok (.i2l, 1) := by decide +kernel
theorem d_Draft_scale_55 : decode prog_4_method_11_code 55 = .ok (.lmul, 1) := by decide +kernel
theorem d_Draft_scale_56 : decode prog_4_method_11_code 56 = .ok (.iload_n 3, 1) := by decide +kernel
theorem d_Draft_scale_57 : decode prog_4_method_11_code 57 = .ok (.i2l, 1) := by decide +kernel
theorem d_Draft_scale_58 : decode prog_4_method_11_code 58 = .ok (.invokestatic 155, 3) := by decide +kernel
theorem d_Draft_scale_61 : decode prog_4_method_11_code 61 = .ok (.lstore 6, 2) := by decide +kernel
theorem d_Draft_scale_63 : decode prog_4_method_11_code 63 = .ok (.lload 4, 2) := by decide +kernel
theorem d_Draft_scale_65 : decode prog_4_method_11_code 65 = .ok (.lload 4, 2) := by decide +kernel
theorem d_Draft_scale_67 : decode prog_4_method_11_code 67 = .ok (.l2i, 1) := by decide +kernel
theorem d_Draft_scale_68 : decode prog_4_method_11_code 68 = .ok (.i2l, 1) := by decide +kernel
theorem d_Draft_scale_69 : decode prog_4_method_11_code 69 = .ok (.lcmp, 1) := by decide +kernel
theorem d_Draft_scale_70 : decode prog_4_method_11_code 70 = .ok (.ifCond .ne 13, 3) := by decide +kernel
theorem d_Draft_scale_73 : decode prog_4_method_11_code 73 = .ok (.lload 6, 2) := by decide +kernel
theorem d_Draft_scale_75 : decode prog_4_method_11_code 75 = .ok (.lload 6, 2) := by decide +kernel
theorem d_Draft_scale_77 : decode prog_4_method_11_code 77 = .ok (.l2i, 1) := by decide +kernel
theorem d_Draft_scale_78 : decode prog_4_method_11_code 78 = .ok (.i2l, 1) := by decide +kernel
theorem d_Draft_scale_79 : decode prog_4_method_11_code 79 = .ok (.lcmp, 1) := by decide +kernel
theorem d_Draft_scale_80 : decode prog_4_method_11_code 80 = .ok (.ifCond .eq 5, 3) := by decide +kernel
theorem d_Draft_scale_83 : decode prog_4_method_11_code 83 = .ok (.aconst_null, 1) := by decide +kernel
theorem d_Draft_scale_84 : decode prog_4_method_11_code 84 = .ok (.areturn, 1) := by decide +kernel
theorem d_Draft_scale_85 : decode prog_4_method_11_code 85 = .ok (.new 18, 3) := by decide +kernel
theorem d_Draft_scale_88 : decode prog_4_method_11_code 88 = .ok (.dup, 1) := by decide +kernel
theorem d_Draft_scale_89 : decode prog_4_method_11_code 89 = .ok (.bipush 6, 2) := by decide +kernel
theorem d_Draft_scale_91 : decode prog_4_method_11_code 91 = .ok (.aload_n 1, 1) := by decide +kernel
theorem d_Draft_scale_92 : decode prog_4_method_11_code 92 = .ok (.iload_n 2, 1) := by decide +kernel
theorem d_Draft_scale_93 : decode prog_4_method_11_code 93 = .ok (.iload_n 3, 1) := by decide +kernel
theorem d_Draft_scale_94 : decode prog_4_method_11_code 94 = .ok (.invokespecial 95, 3) := by decide +kernel
theorem d_Draft_scale_97 : decode prog_4_method_11_code 97 = .ok (.astore 8, 2) := by decide +kernel
theorem d_Draft_scale_99 : decode prog_4_method_11_code 99 = .ok (.aload_n 1, 1) := by decide +kernel
theorem d_Draft_scale_100 : decode prog_4_method_11_code 100 = .ok (.lload 4, 2) := by decide +kernel
theorem d_Draft_scale_102 : decode prog_4_method_11_code 102 = .ok (.l2i, 1) := by decide +kernel
theorem d_Draft_scale_103 : decode prog_4_method_11_code 103 = .ok (.putfield 144, 3) := by decide +kernel
theorem d_Draft_scale_106 : decode prog_4_method_11_code 106 = .ok (.aload_n 1, 1) := by decide +kernel
theorem d_Draft_scale_107 : decode prog_4_method_11_code 107 = .ok (.lload 6, 2) := by decide +kernel
theorem d_Draft_scale_109 : decode prog_4_method_11_code 109 = .ok (.l2i, 1) := by decide +kernel
theorem d_Draft_scale_110 : decode prog_4_method_11_code 110 = .ok (.putfield 152, 3) := by decide +kernel
theorem d_Draft_scale_113 : decode prog_4_method_11_code 113 = .ok (.aload 8, 2) := by decide +kernel
theorem d_Draft_scale_115 : decode prog_4_method_11_code 115 = .ok (.areturn, 1) := by decide +kernel
abbrev M_Draft_map : q_M := (⟨"LensPaths$Draft", "map", "(LLensPaths$Field;II)LLensPaths$Primitive;"⟩, prog_4_method_12_code, 5, (some (.object "LensPaths$Primitive")), "LensPaths$Draft", [], false, 2, 44)
theorem d_Draft_map_0 : decode prog_4_method_12_code 0 = .ok (.aload_n 1, 1) := by decide +kernel
theorem d_Draft_map_1 : decode prog_4_method_12_code 1 = .ok (.getfield 90, 3) := by decide +kernel
theorem d_Draft_map_4 : decode prog_4_method_12_code 4 = .ok (.ifCond .ne 28, 3) := by decide +kernel
theorem d_Draft_map_7 : decode prog_4_method_12_code 7 = .ok (.aload_n 1, 1) := by decide +kernel
theorem d_Draft_map_8 : decode prog_4_method_12_code 8 = .ok (.iload_n 2, 1) := by decide +kernel
theorem d_Draft_map_9 : decode prog_4_method_12_code 9 = .ok (.invokevirtual 158, 3) := by decide +kernel
theorem d_Draft_map_12 : decode prog_4_method_12_code 12 = .ok (.ifCond .eq 20, 3) := by decide +kernel
theorem d_Draft_map_15 : decode prog_4_method_12_code 15 = .ok (.aload_n 1, 1) := by decide +kernel
theorem d_Draft_map_16 : decode prog_4_method_12_code 16 = .ok (.iload_n 3, 1) := by decide +kernel
theorem d_Draft_map_17 : decode prog_4_method_12_code 17 = .ok (.invokevirtual 158, 3) := by decide +kernel
theorem d_Draft_map_20 : decode prog_4_method_12_code 20 = .ok (.ifCond .eq 12, 3) := by decide +kernel
theorem d_Draft_map_23 : decode prog_4_method_12_code 23 = .ok (.iload_n 2, 1) := by decide +kernel
theorem d_Draft_map_24 : decode prog_4_method_12_code 24 = .ok (.iload_n 3, 1) := by decide +kernel
theorem d_Draft_map_25 : decode prog_4_method_12_code 25 = .ok (.if_icmp .eq 7, 3) := by decide +kernel
theorem d_Draft_map_28 : decode prog_4_method_12_code 28 = .ok (.iconst 1, 1) := by decide +kernel
theorem d_Draft_map_29 : decode prog_4_method_12_code 29 = .ok (.goto 4, 3) := by decide +kernel
theorem d_Draft_map_32 : decode prog_4_method_12_code 32 = .ok (.iconst 0, 1) := by decide +kernel
theorem d_Draft_map_33 : decode prog_4_method_12_code 33 = .ok (.istore 4, 2) := by decide +kernel
theorem d_Draft_map_35 : decode prog_4_method_12_code 35 = .ok (.iload 4, 2) := by decide +kernel
theorem d_Draft_map_37 : decode prog_4_method_12_code 37 = .ok (.ifCond .eq 18, 3) := by decide +kernel
theorem d_Draft_map_40 : decode prog_4_method_12_code 40 = .ok (.new 18, 3) := by decide +kernel
theorem d_Draft_map_43 : decode prog_4_method_12_code 43 = .ok (.dup, 1) := by decide +kernel
theorem d_Draft_map_44 : decode prog_4_method_12_code 44 = .ok (.bipush 7, 2) := by decide +kernel
theorem d_Draft_map_46 : decode prog_4_method_12_code 46 = .ok (.aload_n 1, 1) := by decide +kernel
theorem d_Draft_map_47 : decode prog_4_method_12_code 47 = .ok (.iload_n 2, 1) := by decide +kernel
theorem d_Draft_map_48 : decode prog_4_method_12_code 48 = .ok (.iload_n 3, 1) := by decide +kernel
theorem d_Draft_map_49 : decode prog_4_method_12_code 49 = .ok (.invokespecial 95, 3) := by decide +kernel
theorem d_Draft_map_52 : decode prog_4_method_12_code 52 = .ok (.goto 4, 3) := by decide +kernel
theorem d_Draft_map_55 : decode prog_4_method_12_code 55 = .ok (.aconst_null, 1) := by decide +kernel
theorem d_Draft_map_56 : decode prog_4_method_12_code 56 = .ok (.areturn, 1) := by decide +kernel
section PrimC3
variable {g : q_G} {sz d : Nat} {T : q_T} {I : q_I} {R : q_R} {J : q_J}
theorem c_Math_floorDiv_L {a b : Int64} (hb : ¬ b = 0) : q_Cl g M_Math_floorDiv_L [.long a, .long b] (sz, T, I, R, J) 0 0 (fun r h' => r = k_fdl a b ∧ h' = (sz, T, I, R, J)) := by
  refine q_C.ofF (ls0 := [some (.long a), none, some (.long b), none, none, none]) x_fdL rfl (by decide) (Nat.le_of_ble_eq_true rfl) rfl ?_
  refine q_lload_n d_Math_floorDiv_L_0 rfl rfl ?_
  refine q_lload_n d_Math_floorDiv_L_1 rfl rfl ?_
  refine q_ldiv d_Math_floorDiv_L_2 (by assumption) ?_
  refine q_lstore d_Math_floorDiv_L_3 (Nat.le_of_ble_eq_true rfl) (by first | exact q_ok0 | exact q_okI rfl | exact q_okR rfl | exact q_okN rfl) rfl ?_
  refine q_lload_n d_Math_floorDiv_L_5 rfl rfl ?_
  refine q_lload_n d_Math_floorDiv_L_6 rfl rfl ?_
  refine q_lxor d_Math_floorDiv_L_7 ?_
  refine q_lconst (v := lN 0) d_Math_floorDiv_L_8 (by decide) ?_
  refine q_lcmp d_Math_floorDiv_L_9 ?_
  refine q_if_ge (tgt := 27) d_Math_floorDiv_L_10 rfl (fun hc => ?_) (fun hc => ?_)
  · have h1 : ¬ a ^^^ b < 0 := by
      have := (lg_cmp_ge _ _).mp hc
      exact Int64.not_lt.mpr this
    refine q_lload d_Math_floorDiv_L_27 rfl ?_
    refine q_lret d_Math_floorDiv_L_29 rfl (by omega) (by omega) ?_
    exact ⟨_, rfl, by unfold k_fdl; rw [if_neg (fun z => h1 z.1)], rfl⟩
  · have h1 : a ^^^ b < 0 := by
      have := fun z => hc ((lg_cmp_ge _ _).mpr z)
      exact Int64.not_le.mp this
    refine q_lload d_Math_floorDiv_L_13 rfl ?_
    refine q_lload_n d_Math_floorDiv_L_15 rfl rfl ?_
    refine q_lmul d_Math_floorDiv_L_16 ?_
    refine q_lload_n d_Math_floorDiv_L_17 rfl rfl ?_
    refine q_lcmp d_Math_floorDiv_L_18 ?_
    refine q_if_eq (tgt := 27) d_Math_floorDiv_L_19 rfl (fun hc => ?_) (fun hc => ?_)
    · have h2 : a / b * b = a := (lg_cmp_eq _ _).mp hc
      refine q_lload d_Math_floorDiv_L_27 rfl ?_
      refine q_lret d_Math_floorDiv_L_29 rfl (by omega) (by omega) ?_
      exact ⟨_, rfl, by unfold k_fdl; rw [if_neg (fun z => z.2 h2)], rfl⟩
    · have h2 : ¬ a / b * b = a := fun z => hc ((lg_cmp_eq _ _).mpr z)
      refine q_lload d_Math_floorDiv_L_22 rfl ?_
      refine q_lconst (v := lN 1) d_Math_floorDiv_L_24 (by decide) ?_
      refine q_lsub d_Math_floorDiv_L_25 ?_
      refine q_lret d_Math_floorDiv_L_26 rfl (by omega) (by omega) ?_
      exact ⟨_, rfl, by unfold k_fdl; rw [if_pos ⟨h1, h2⟩]; rfl, rfl⟩
theorem z_pos {a : Int32} {n : Nat} (h : nI n ≤ a) (hn : 1 ≤ n) (hn2 : n < 2 ^ 31) : 0 < a.toInt ∧ ¬ a = 0 := by
  rw [Int32.le_iff_toInt_le, nI_toInt hn2] at h
  refine ⟨by omega, fun z => ?_⟩
  rw [z] at h
  have h0 : (0 : Int32).toInt = 0 := by decide
  omega
theorem z_divI {x a : Int32} (ha : 0 < a.toInt) : k_fdi x a = z_div x a := by
  unfold z_div
  rw [← Int32.toInt_inj, k_fdi_int ha, z_ofInt (z_dv ha (z_bd x))]
/-- may the number be split -/
def b_spl (D : List KF) (f : KF) (a b : Int32) : Bool := decide (f.2.1 = 0 ∧ (nI 2 ≤ a ∧ a ≤ nI 1000) ∧ (0 ≤ b ∧ b ≤ 99)) && ((k_fi D (k_bsd f.1 b)).isNone && decide (D.length < 24))
set_option maxHeartbeats 1000000 in
theorem c_Draft_split {i dn : Nat} {D : List KF} {w : Nat → Nat} {f : KF} {p : KP} {a b : Int32} (h : d_in d D w dn sz T I R) (hf : D[i]? = some f) (hk : p.kind = 5) (hp : p.f = f) (ha : p.a = a) (hb : p.b = b) (hrs : p.rs = dn) : q_Cr g M_Draft_split [.ref d, .ref (d + 1 + 2 + w i), .int a, .int b] (sz, T, I, R, J) 1 8 (d_post d D sz T I R J (b_spl D f a b) p (dn + 1)) := by
  obtain ⟨hL, hS, hn, hfr, hok, hdi, hsr⟩ := h
  obtain ⟨g1, g2, g3, g4⟩ := hS.at hf
  have hfk := hok f (List.mem_of_getElem? hf)
  have hwi := (hS.1.2.1 i g1).2
  obtain ⟨fo, hfo⟩ : ∃ fo, fo = d + 1 + 2 + w i := ⟨_, rfl⟩
  rw [← hfo] at g3 g4 ⊢
  have hfs := hfr _ _ g3
  have hds := hfr _ _ hL.1
  have hs1 := hS.1.1.1
  have h24 := hS.2.2.1
  have no : ∀ mcc msc : Nat, mcc ≤ 1 → msc ≤ 8 → b_spl D f a b = false → q_V g M_Draft_split 1 8 mcc msc (sz, T, I, R, J) (fun o h' => ∃ r : Option Nat, o = .inl (some (va_rf r)) ∧ d_post d D sz T I R J (b_spl D f a b) p (dn + 1) r h') 26 [some (.ref d), some (.ref fo), some (.int a), some (.int b), none, none] [] := by
    intro mcc msc m1 m2 hz
    refine q_null d_Draft_split_26 ?_
    refine q_aret (v := none) d_Draft_split_27 rfl (by omega) (by omega) ?_
    exact ⟨none, rfl, Or.inl ⟨hz, rfl, rfl⟩⟩
  have no1 : ¬ (f.2.1 = 0 ∧ (nI 2 ≤ a ∧ a ≤ nI 1000) ∧ (0 ≤ b ∧ b ≤ 99)) → b_spl D f a b = false := fun z => by unfold b_spl; rw [decide_eq_false z]; rfl
  refine q_C.of (ls0 := [some (.ref d), some (.ref fo), some (.int a), some (.int b), none, none]) (by decide) rfl (by decide) (Nat.le_of_ble_eq_true rfl) rfl ?_
  refine q_aload_n d_Draft_split_0 rfl rfl ?_
  refine q_getI (ci := 3) (fk := 1) d_Draft_split_1 rfl (Nat.le_of_ble_eq_true rfl) w_62 (fun _ _ => rfl) (by first | assumption | rfl | (simp (disch := omega) only [q_upT_self, q_upT_ne, q_upR_self, q_upR_nea, q_upR_nk, q_upT_at, *]; done) | (simp (disch := omega) only [q_upT_self, q_upT_ne, q_upR_self, q_upR_nea, q_upR_nk, q_upT_at, *]; rfl)) ?_
  rw [g4.2.1]
  refine q_if_ne (tgt := 26) d_Draft_split_4 rfl (fun hc => ?_) (fun hc => ?_)
  · have h0 : ¬ f.2.1 = 0 := hc
    exact no _ _ (by omega) (by omega) (no1 (fun z => h0 z.1))
  have h0 : f.2.1 = 0 := by have := hc; simpa using this
  refine q_iload_n d_Draft_split_7 rfl rfl ?_
  refine q_iconst (v := nI 2) d_Draft_split_8 (by decide) ?_
  refine q_icmp_lt (tgt := 26) d_Draft_split_9 rfl (fun hc => ?_) (fun hc => ?_)
  · exact no _ _ (by omega) (by omega) (no1 (fun z => absurd hc (Int32.not_lt.mpr z.2.1.1)))
  have h2 : nI 2 ≤ a := Int32.not_lt.mp hc
  refine q_iload_n d_Draft_split_12 rfl rfl ?_
  refine q_sipush (v := nI 1000) d_Draft_split_13 (by decide) ?_
  refine q_icmp_gt (tgt := 26) d_Draft_split_16 rfl (fun hc => ?_) (fun hc => ?_)
  · exact no _ _ (by omega) (by omega) (no1 (fun z => absurd hc (Int32.not_lt.mpr z.2.1.2)))
  have h3 : a ≤ nI 1000 := Int32.not_lt.mp hc
  obtain ⟨za, zn⟩ := z_pos h2 (by decide) (by decide)
  refine q_iload_n d_Draft_split_19 rfl rfl ?_
  refine q_callSi (M2 := M_Key_isName) d_Draft_split_20 ⟨(Nat.le_of_ble_eq_true rfl), (Nat.le_of_ble_eq_true rfl), w_541, w_15, ⟨by decide, by decide⟩, show _ = some 1 by decide +kernel⟩ w_539 w_540 rfl (Nat.le_of_ble_eq_true rfl) (by omega) (by omega) (c_Key_isName b) ?_
  rintro _ _ ⟨rfl, rfl⟩
  by_cases hna : 0 ≤ b ∧ b ≤ 99
  · rw [if_pos hna]
    obtain ⟨n, n1, rfl⟩ := nI_of (Int32.not_lt.mpr hna.1)
    have n99 : n ≤ 99 := by have := hna.2; rw [show (99 : Int32) = nI 99 from rfl, nI_leI n1 (by decide)] at this; exact this
    have hbs : k_bsd f.1 (nI n) = f.1.dropLast ++ [n + 1] := by unfold k_bsd; rw [nI_clamp n1]
    have hbk := k_bsd_ok hfk.1 hfk.2 n99
    have no2 : ∀ (mcc msc : Nat) (l4 : Option Value), mcc ≤ 1 → msc ≤ 8 → b_spl D f a (nI n) = false → q_V g M_Draft_split 1 8 mcc msc (sz, T, I, R, J) (fun o h' => ∃ r : Option Nat, o = .inl (some (va_rf r)) ∧ d_post d D sz T I R J (b_spl D f a (nI n)) p (dn + 1) r h') 63 [some (.ref d), some (.ref fo), some (.int a), some (.int (nI n)), l4, none] [] := by
      intro mcc msc l4 m1 m2 hz
      refine q_null d_Draft_split_63 ?_
      refine q_aret (v := none) d_Draft_split_64 rfl (by omega) (by omega) ?_
      exact ⟨none, rfl, Or.inl ⟨hz, rfl, rfl⟩⟩
    refine q_if_ne (tgt := 28) d_Draft_split_23 rfl (fun hc => ?_) (fun hc => ?_)
    rotate_left
    · exact absurd hc (by decide)
    refine q_aload_n d_Draft_split_28 rfl rfl ?_
    refine q_getI (ci := 3) (fk := 0) d_Draft_split_29 rfl (Nat.le_of_ble_eq_true rfl) w_56 (fun _ _ => rfl) (by first | assumption | rfl | (simp (disch := omega) only [q_upT_self, q_upT_ne, q_upR_self, q_upR_nea, q_upR_nk, q_upT_at, *]; done) | (simp (disch := omega) only [q_upT_self, q_upT_ne, q_upR_self, q_upR_nea, q_upR_nk, q_upT_at, *]; rfl)) ?_
    rw [g4.1]
    refine q_iload_n d_Draft_split_32 rfl rfl ?_
    refine q_callSi (M2 := M_Key_beside) d_Draft_split_33 ⟨(Nat.le_of_ble_eq_true rfl), (Nat.le_of_ble_eq_true rfl), w_544, w_15, ⟨by decide, by decide⟩, show _ = some 2 by decide +kernel⟩ w_542 w_543 rfl (Nat.le_of_ble_eq_true rfl) (by omega) (by omega) (c_Key_beside hfk.1 hfk.2 n99) ?_
    rintro _ _ ⟨rfl, rfl⟩
    refine q_istore d_Draft_split_36 (Nat.le_of_ble_eq_true rfl) (by first | exact q_ok0 | exact q_okI rfl | exact q_okR rfl | exact q_okN rfl) rfl ?_
    refine q_aload_n d_Draft_split_38 rfl rfl ?_
    refine q_getR (ci := 2) (fk := 0) d_Draft_split_39 rfl (Nat.le_of_ble_eq_true rfl) w_143 (fun _ _ => rfl) hL.1 (hL.2 0 _ _ _ rfl).1 ?_
    refine q_getI (ci := 6) (fk := 1) d_Draft_split_42 rfl (Nat.le_of_ble_eq_true rfl) w_102 (fun _ _ => rfl) (by first | assumption | rfl | (simp (disch := omega) only [q_upT_self, q_upT_ne, q_upR_self, q_upR_nea, q_upR_nk, q_upT_at, *]; done) | (simp (disch := omega) only [q_upT_self, q_upT_ne, q_upR_self, q_upR_nea, q_upR_nk, q_upT_at, *]; rfl)) ?_
    rw [hS.2.1]
    refine q_bipush (v := nI 24) d_Draft_split_45 (by decide) ?_
    refine q_icmp_eq (tgt := 63) d_Draft_split_47 rfl (fun hc => ?_) (fun hc => ?_)
    · have := (nI_eq (by omega) (by omega)).mp hc
      exact no2 _ _ _ (by omega) (by omega) (by unfold b_spl; rw [decide_eq_false (show ¬ D.length < 24 by omega), Bool.and_false, Bool.and_false])
    have hlt : D.length < 24 := by
      have : D.length ≠ 24 := fun z => hc (by rw [z])
      omega
    refine q_aload_n d_Draft_split_50 rfl rfl ?_
    refine q_getR (ci := 2) (fk := 0) d_Draft_split_51 rfl (Nat.le_of_ble_eq_true rfl) w_143 (fun _ _ => rfl) hL.1 (hL.2 0 _ _ _ rfl).1 ?_
    refine q_iload d_Draft_split_54 rfl ?_
    refine q_callVi (M2 := M_Schema_find) d_Draft_split_56 ⟨(Nat.le_of_ble_eq_true rfl), (Nat.le_of_ble_eq_true rfl), w_392, w_3, ⟨by decide, by decide⟩, show _ = some 1 by decide +kernel⟩ w_534 w_390 (ci := 6) rfl w_391 (by first | assumption | rfl | (simp (disch := omega) only [q_upT_self, q_upT_ne, q_upR_self, q_upR_nea, q_upR_nk, q_upT_at, *]; done) | (simp (disch := omega) only [q_upT_self, q_upT_ne, q_upR_self, q_upR_nea, q_upR_nk, q_upT_at, *]; rfl)) rfl (Nat.le_of_ble_eq_true rfl) (by omega) (by omega) (c_Schema_findN hS hok hbk) ?_
    rintro _ _ ⟨rfl, rfl⟩
    cases hfi : k_fi D (f.1.dropLast ++ [n + 1]) with
    | some j =>
      have hj := (k_fi_some hfi).1
      refine q_iconst (v := (-1)) d_Draft_split_59 (by decide) ?_
      refine q_icmp_eq (tgt := 65) d_Draft_split_60 rfl (fun hc => ?_) (fun hc => ?_)
      · exact absurd hc (show ¬ nI j = -1 from nI_m1 (by omega))
      · exact no2 _ _ _ (by omega) (by omega) (by unfold b_spl; rw [hbs, hfi]; simp)
    | none =>
      have hbb : b_spl D f a (nI n) = true := by unfold b_spl; rw [hbs, hfi, decide_eq_true ⟨h0, ⟨h2, h3⟩, hna⟩, decide_eq_true hlt]; rfl
      rw [hbb]
      have hx := d_ext hfr
      have tfo := hx _ _ g3
      have hL' : q_L 2 t_Draft d (q_upT T sz (104, 0)) R := hL.keep hx (fun _ _ _ _ _ => rfl)
      have hsb : ∀ b, d + 1 ≤ b → b < d + 1 + 26 → b ≠ sz := fun b b1 b2 => by
        obtain ⟨q, hq⟩ := hS.1.tys b1 b2
        have := hfr b q hq
        omega
      refine q_iconst (v := (-1)) d_Draft_split_59 (by decide) ?_
      refine q_icmp_eq (tgt := 65) d_Draft_split_60 rfl (fun hc => ?_) (fun hc => ?_)
      rotate_left
      · exact absurd rfl hc
      refine q_newN (ci := 4) (N := 8) d_Draft_split_65 rfl rfl w_141 w_480 w_18 (by omega) (by omega) ?_
      refine q_dup d_Draft_split_68 rfl ?_
      refine q_iconst (v := nI 5) d_Draft_split_69 (by decide) ?_
      refine q_aload_n d_Draft_split_70 rfl rfl ?_
      refine q_iload_n d_Draft_split_71 rfl rfl ?_
      refine q_iconst (v := nI 0) d_Draft_split_72 (by decide) ?_
      refine q_callIv (M2 := M_Primitive_init) d_Draft_split_73 ⟨(Nat.le_of_ble_eq_true rfl), (Nat.le_of_ble_eq_true rfl), w_488, w_18, ⟨by decide, by decide⟩, show _ = some 4 by decide +kernel⟩ rfl rfl rfl w_486 w_487 rfl (Nat.le_of_ble_eq_true rfl) (by omega) (by omega) (c_Primitive_init (f := f) (q_upT_self) tfo g4.2) ?_
      rintro _ ⟨I1, rfl, i1, i2, i3, i4, i5, i6, i7, -⟩
      have hL := hL'
      have n1d : I1 d (nI 6) = nI dn := by rw [i1 d (by omega)]; exact hn
      refine q_astore d_Draft_split_76 (Nat.le_of_ble_eq_true rfl) (by first | exact q_ok0 | exact q_okI rfl | exact q_okR rfl | exact q_okN rfl) rfl ?_
      refine q_aload d_Draft_split_78 rfl ?_
      refine q_aload_n d_Draft_split_80 rfl rfl ?_
      refine q_callVi (M2 := M_Draft_takeSlot) d_Draft_split_81 ⟨(Nat.le_of_ble_eq_true rfl), (Nat.le_of_ble_eq_true rfl), w_484, w_5, ⟨by decide, by decide⟩, show _ = some 0 by decide +kernel⟩ w_481 w_483 (ci := 2) rfl s_5 hL.1 rfl (Nat.le_of_ble_eq_true rfl) (by omega) (by omega) (c_Draft_takeSlot hL' n1d) ?_
      rintro _ _ ⟨rfl, rfl⟩
      have tsz : q_upT T sz (104, 0) sz = some (104, 0) := q_upT_self
      refine q_putI (ci := 4) (fk := 7) d_Draft_split_84 rfl (Nat.le_of_ble_eq_true rfl) w_512 (Or.inl rfl) (fun _ _ => rfl) rfl rfl (by first | assumption | rfl | (simp (disch := omega) only [q_upT_self, q_upT_ne, q_upR_self, q_upR_nea, q_upR_nk, q_upT_at, *]; done) | (simp (disch := omega) only [q_upT_self, q_upT_ne, q_upR_self, q_upR_nea, q_upR_nk, q_upT_at, *]; rfl)) ?_
      refine q_aload_n d_Draft_split_87 rfl rfl ?_
      refine q_aload_n d_Draft_split_88 rfl rfl ?_
      refine q_getI (ci := 3) (fk := 2) d_Draft_split_89 rfl (Nat.le_of_ble_eq_true rfl) w_69 (fun _ _ => rfl) (by first | assumption | rfl | (simp (disch := omega) only [q_upT_self, q_upT_ne, q_upR_self, q_upR_nea, q_upR_nk, q_upT_at, *]; done) | (simp (disch := omega) only [q_upT_self, q_upT_ne, q_upR_self, q_upR_nea, q_upR_nk, q_upT_at, *]; rfl)) ?_
      rw [q_upI_nea (by omega), q_upI_nea (by omega), i1 fo (by omega), g4.2.2.1]
      refine q_iload_n d_Draft_split_92 rfl rfl ?_
      refine q_callSi (M2 := M_Math_floorDiv_I) d_Draft_split_93 ⟨(Nat.le_of_ble_eq_true rfl), (Nat.le_of_ble_eq_true rfl), w_584, w_19, ⟨by decide, by decide⟩, show _ = some 2 by decide +kernel⟩ w_582 w_583 rfl (Nat.le_of_ble_eq_true rfl) (by omega) (by omega) (c_Math_floorDiv_I zn) ?_
      rintro _ _ ⟨rfl, rfl⟩
      refine q_putI (ci := 3) (fk := 2) d_Draft_split_96 rfl (Nat.le_of_ble_eq_true rfl) w_69 (Or.inl rfl) (fun _ _ => rfl) rfl rfl (by first | assumption | rfl | (simp (disch := omega) only [q_upT_self, q_upT_ne, q_upR_self, q_upR_nea, q_upR_nk, q_upT_at, *]; done) | (simp (disch := omega) only [q_upT_self, q_upT_ne, q_upR_self, q_upR_nea, q_upR_nk, q_upT_at, *]; rfl)) ?_
      refine q_aload_n d_Draft_split_99 rfl rfl ?_
      refine q_aload_n d_Draft_split_100 rfl rfl ?_
      refine q_getI (ci := 3) (fk := 3) d_Draft_split_101 rfl (Nat.le_of_ble_eq_true rfl) w_75 (fun _ _ => rfl) (by first | assumption | rfl | (simp (disch := omega) only [q_upT_self, q_upT_ne, q_upR_self, q_upR_nea, q_upR_nk, q_upT_at, *]; done) | (simp (disch := omega) only [q_upT_self, q_upT_ne, q_upR_self, q_upR_nea, q_upR_nk, q_upT_at, *]; rfl)) ?_
      rw [q_upI_nk (by omega), q_upI_nea (by omega), q_upI_nea (by omega), i1 fo (by omega), g4.2.2.2.1]
      refine q_iload_n d_Draft_split_104 rfl rfl ?_
      refine q_callSi (M2 := M_Math_floorDiv_I) d_Draft_split_105 ⟨(Nat.le_of_ble_eq_true rfl), (Nat.le_of_ble_eq_true rfl), w_584, w_19, ⟨by decide, by decide⟩, show _ = some 2 by decide +kernel⟩ w_582 w_583 rfl (Nat.le_of_ble_eq_true rfl) (by omega) (by omega) (c_Math_floorDiv_I zn) ?_
      rintro _ _ ⟨rfl, rfl⟩
      rw [z_divI za, z_divI za]
      refine q_putI (ci := 3) (fk := 3) d_Draft_split_108 rfl (Nat.le_of_ble_eq_true rfl) w_75 (Or.inl rfl) (fun _ _ => rfl) rfl rfl (by first | assumption | rfl | (simp (disch := omega) only [q_upT_self, q_upT_ne, q_upR_self, q_upR_nea, q_upR_nk, q_upT_at, *]; done) | (simp (disch := omega) only [q_upT_self, q_upT_ne, q_upR_self, q_upR_nea, q_upR_nk, q_upT_at, *]; rfl)) ?_
      refine q_aload_n d_Draft_split_111 rfl rfl ?_
      refine q_getR (ci := 2) (fk := 0) d_Draft_split_112 rfl (Nat.le_of_ble_eq_true rfl) w_143 (fun _ _ => rfl) hL.1 (hL.2 0 _ _ _ rfl).1 ?_
      refine q_iload d_Draft_split_115 rfl ?_
      refine q_iconst (v := nI 0) d_Draft_split_117 (by decide) ?_
      refine q_iconst (v := nI 0) d_Draft_split_118 (by decide) ?_
      refine q_iload_n d_Draft_split_119 rfl rfl ?_
      refine q_iconst (v := nI 1) d_Draft_split_120 (by decide) ?_
      refine q_isub d_Draft_split_121 ?_
      refine q_aload d_Draft_split_122 rfl ?_
      refine q_getI (ci := 4) (fk := 7) d_Draft_split_124 rfl (Nat.le_of_ble_eq_true rfl) w_512 (fun _ _ => rfl) (by first | assumption | rfl | (simp (disch := omega) only [q_upT_self, q_upT_ne, q_upR_self, q_upR_nea, q_upR_nk, q_upT_at, *]; done) | (simp (disch := omega) only [q_upT_self, q_upT_ne, q_upR_self, q_upR_nea, q_upR_nk, q_upT_at, *]; rfl)) ?_
      rw [q_upI_nea (by omega), q_upI_nea (by omega), q_upI_self]
      obtain ⟨I5, hI5⟩ : ∃ I5, I5 = q_upI (q_upI (q_upI (q_upI I1 d (nI 6) (nI (dn + 1))) sz (nI 7) (nI dn)) fo (nI 2) (z_div f.2.2.1 a)) fo (nI 3) (z_div f.2.2.2.1 a) := ⟨_, rfl⟩
      rw [← hI5]
      have e5 : ∀ b, b ≠ fo → b ≠ sz → b ≠ d → I5 b = I1 b := fun b b1 b2 b3 => by rw [hI5]; funext j; rw [q_upI_nea b1, q_upI_nea b1, q_upI_nea b2, q_upI_nea b3]
      obtain ⟨f', hf'⟩ : ∃ f' : KF, f' = (f.1, f.2.1, z_div f.2.2.1 a, z_div f.2.2.2.1 a, f.2.2.2.2) := ⟨_, rfl⟩
      have hS1 : k_sc (d + 1) D w (q_upT T sz (104, 0)) I1 R := hS.cong3 hx (fun b b1 b2 => i1 b (hsb b b1 b2)) (fun _ _ _ => rfl)
      have hS5 : k_sc (d + 1) (D.set i f') w (q_upT T sz (104, 0)) I5 R := by
        have h9 : k_sc (d + 1) (D.set i f') w (q_upT T sz (104, 0)) (fun b => if b = sz ∨ b = d then I1 b else I5 b) R := by
          refine hS1.setf hf (fun b hb => ?_) ?_
          · show (if b = sz ∨ b = d then I1 b else I5 b) = I1 b
            by_cases hz : b = sz ∨ b = d
            · rw [if_pos hz]
            · rw [if_neg hz]
              exact e5 b (by rw [hfo]; exact hb) (fun z => hz (Or.inl z)) (fun z => hz (Or.inr z))
          · rw [← hfo, hf']
            unfold k_fd
            show (if fo = sz ∨ fo = d then I1 fo else I5 fo) (nI 0) = _ ∧ (if fo = sz ∨ fo = d then I1 fo else I5 fo) (nI 1) = _ ∧ (if fo = sz ∨ fo = d then I1 fo else I5 fo) (nI 2) = _ ∧ (if fo = sz ∨ fo = d then I1 fo else I5 fo) (nI 3) = _ ∧ (if fo = sz ∨ fo = d then I1 fo else I5 fo) (nI 4) = _
            rw [if_neg (by omega), hI5, q_upI_self, q_upI_nk (by omega), q_upI_nk (by omega), q_upI_nea (by omega), q_upI_nea (by omega), q_upI_nk (by omega), q_upI_nk (by omega), q_upI_nea (by omega), q_upI_nea (by omega), q_upI_nk (by omega), q_upI_self, q_upI_nk (by omega), q_upI_nk (by omega), q_upI_nea (by omega), q_upI_nea (by omega), i1 fo (by omega)]
            exact ⟨g4.1, g4.2.1, rfl, rfl, g4.2.2.2.2⟩
        refine h9.cong (fun b b1 b2 => ?_)
        show I5 b = if b = sz ∨ b = d then I1 b else I5 b
        rw [if_neg (by have := hsb b b1 b2; omega)]
      have hok5 : k_okf (D.set i f') := fun e he => by
        rcases List.mem_or_eq_of_mem_set he with he | he
        · exact hok e he
        · rw [he, hf']; exact hfk
      refine q_callVr (M2 := M_Schema_insert) d_Draft_split_127 ⟨(Nat.le_of_ble_eq_true rfl), (Nat.le_of_ble_eq_true rfl), w_414, w_3, ⟨by decide, by decide⟩, show _ = some 5 by decide +kernel⟩ w_485 w_412 (ci := 6) rfl w_413 (by first | assumption | rfl | (simp (disch := omega) only [q_upT_self, q_upT_ne, q_upR_self, q_upR_nea, q_upR_nk, q_upT_at, *]; done) | (simp (disch := omega) only [q_upT_self, q_upT_ne, q_upR_self, q_upR_nea, q_upR_nk, q_upT_at, *]; rfl)) rfl (Nat.le_of_ble_eq_true rfl) (by omega) (by omega) (c_Schema_insert hS5 hok5 hbk (by simp) (by rw [List.length_set]; exact hlt) (nI 0) (nI 0) (a - nI 1) dn) ?_
      rintro _ _ ⟨I6, R6, w6, D6, o6, rfl, rfl, m1, m2, m3, m4, m5, -⟩
      refine q_pop d_Draft_split_130 rfl ?_
      refine q_aload d_Draft_split_131 rfl ?_
      first | refine q_aret (v := some _) d_Draft_split_133 rfl (by omega) (by omega) ?_ | refine q_aret (v := none) d_Draft_split_133 rfl (by omega) (by omega) ?_ | refine q_aret d_Draft_split_133 rfl (by omega) (by omega) ?_
      have s6 : ∀ k : Nat, I6 sz (nI k) = I5 sz (nI k) := fun k => by rw [m1 sz (by
        have q1 := hsb (d + 1)
        have q2 := hsb (d + 26)
        have : ¬ (d + 1 ≤ sz ∧ sz < d + 1 + 26) := fun z => hsb sz z.1 z.2 rfl
        omega)]
      have s5 : ∀ k : Nat, k < 7 → I5 sz (nI k) = I1 sz (nI k) := fun k hk => by rw [hI5, q_upI_nea (by omega), q_upI_nea (by omega), q_upI_nk (by omega), q_upI_nea (by omega)]
      have d6 : I6 d = I5 d := m1 d (by omega)
      refine ⟨some sz, rfl, Or.inr ⟨rfl, rfl, I6, R6, w6, D6, rfl, fun b b1 b2 => ?_, fun b hb => m2 b (by omega), m3, ?_, m5, ⟨q_upT_self, ?_, ?_, ?_, ?_, ?_, ?_, ?_, ?_⟩, ?_, fun j hj => ?_⟩⟩
      · rw [m1 b (by omega), e5 b (by omega) b2 (by omega), i1 b b2]
      · have h9 : p.nm = f.1 := congrArg (·.1) hp
        have : k_fw p D = D.set i f' ++ [k_new (f.1.dropLast ++ [n + 1]) (nI 0) (nI 0) (a - nI 1) dn] := by
          unfold k_fw
          rw [hk]
          show D.map (k_at p.nm (fun f => (f.1, f.2.1, z_div f.2.2.1 p.a, z_div f.2.2.2.1 p.a, f.2.2.2.2))) ++ [(k_bsd p.nm p.b, 0, 0, p.a - 1, p.rs)] = _
          rw [h9, ha, hb, hrs, hbs, k_at_set hdi hf, hf']
          rfl
        rw [this]
        exact m4.trans (List.perm_append_singleton _ _).symm
      · rw [s6, s5 0 (by omega), i2, hk]
      · rw [s6, s5 1 (by omega), i3]; exact congrArg (fun q : KF => nI q.2.2.2.2) hp.symm
      · rw [s6, s5 2 (by omega), i4]; exact congrArg (fun q : KF => q.2.1) hp.symm
      · rw [s6, s5 3 (by omega), i5]; exact congrArg (fun q : KF => q.2.2.1) hp.symm
      · rw [s6, s5 4 (by omega), i6]; exact congrArg (fun q : KF => q.2.2.2.1) hp.symm
      · intro _ _; rw [s6, s5 5 (by omega), i7, ha]
      · intro h5; rw [hk] at h5; omega
      · intro _; rw [s6, hI5, q_upI_nea (by omega), q_upI_nea (by omega), q_upI_self, hrs]
      · rw [d6, hI5, q_upI_nea (by omega), q_upI_nea (by omega), q_upI_nea (by omega), q_upI_self]
      · rw [d6, hI5, q_upI_nea (by omega), q_upI_nea (by omega), q_upI_nea (by omega), q_upI_nei hj, i1 d (by omega)]
  · rw [if_neg hna]
    refine q_if_ne (tgt := 28) d_Draft_split_23 rfl (fun hc => ?_) (fun hc => ?_)
    · exact absurd rfl hc
    exact no _ _ (by omega) (by omega) (no1 (fun z => hna z.2.2))
end PrimC3
