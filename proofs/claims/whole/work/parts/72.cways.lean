/-! ways: the object's side -/
abbrev M_Versions_firstStep : q_M := (⟨"LensPaths$Versions", "firstStep", "(III)I"⟩, prog_12_method_10_code, 6, (some .int), "LensPaths$Versions", [], false, 0, 0)
theorem d_Versions_firstStep_0 : decode prog_12_method_10_code 0 = .ok (.iconst 0, 1) := by decide +kernel
theorem d_Versions_firstStep_1 : decode prog_12_method_10_code 1 = .ok (.istore 4, 2) := by decide +kernel
theorem d_Versions_firstStep_3 : decode prog_12_method_10_code 3 = .ok (.iload 4, 2) := by decide +kernel
theorem d_Versions_firstStep_5 : decode prog_12_method_10_code 5 = .ok (.aload_n 0, 1) := by decide +kernel
theorem d_Versions_firstStep_6 : decode prog_12_method_10_code 6 = .ok (.getfield 35, 3) := by decide +kernel
theorem d_Versions_firstStep_9 : decode prog_12_method_10_code 9 = .ok (.if_icmp .ge 86, 3) := by decide +kernel
theorem d_Versions_firstStep_12 : decode prog_12_method_10_code 12 = .ok (.aload_n 0, 1) := by decide +kernel
theorem d_Versions_firstStep_13 : decode prog_12_method_10_code 13 = .ok (.getfield 23, 3) := by decide +kernel
theorem d_Versions_firstStep_16 : decode prog_12_method_10_code 16 = .ok (.iload 4, 2) := by decide +kernel
theorem d_Versions_firstStep_18 : decode prog_12_method_10_code 18 = .ok (.aaload, 1) := by decide +kernel
theorem d_Versions_firstStep_19 : decode prog_12_method_10_code 19 = .ok (.getfield 69, 3) := by decide +kernel
theorem d_Versions_firstStep_22 : decode prog_12_method_10_code 22 = .ok (.iload_n 1, 1) := by decide +kernel
theorem d_Versions_firstStep_23 : decode prog_12_method_10_code 23 = .ok (.if_icmp .ne 17, 3) := by decide +kernel
theorem d_Versions_firstStep_26 : decode prog_12_method_10_code 26 = .ok (.aload_n 0, 1) := by decide +kernel
theorem d_Versions_firstStep_27 : decode prog_12_method_10_code 27 = .ok (.getfield 23, 3) := by decide +kernel
theorem d_Versions_firstStep_30 : decode prog_12_method_10_code 30 = .ok (.iload 4, 2) := by decide +kernel
theorem d_Versions_firstStep_32 : decode prog_12_method_10_code 32 = .ok (.aaload, 1) := by decide +kernel
theorem d_Versions_firstStep_33 : decode prog_12_method_10_code 33 = .ok (.getfield 72, 3) := by decide +kernel
theorem d_Versions_firstStep_36 : decode prog_12_method_10_code 36 = .ok (.iload_n 2, 1) := by decide +kernel
theorem d_Versions_firstStep_37 : decode prog_12_method_10_code 37 = .ok (.if_icmp .eq 31, 3) := by decide +kernel
theorem d_Versions_firstStep_40 : decode prog_12_method_10_code 40 = .ok (.aload_n 0, 1) := by decide +kernel
theorem d_Versions_firstStep_41 : decode prog_12_method_10_code 41 = .ok (.getfield 23, 3) := by decide +kernel
theorem d_Versions_firstStep_44 : decode prog_12_method_10_code 44 = .ok (.iload 4, 2) := by decide +kernel
theorem d_Versions_firstStep_46 : decode prog_12_method_10_code 46 = .ok (.aaload, 1) := by decide +kernel
theorem d_Versions_firstStep_47 : decode prog_12_method_10_code 47 = .ok (.getfield 69, 3) := by decide +kernel
theorem d_Versions_firstStep_50 : decode prog_12_method_10_code 50 = .ok (.iload_n 2, 1) := by decide +kernel
theorem d_Versions_firstStep_51 : decode prog_12_method_10_code 51 = .ok (.if_icmp .ne 21, 3) := by decide +kernel
theorem d_Versions_firstStep_54 : decode prog_12_method_10_code 54 = .ok (.aload_n 0, 1) := by decide +kernel
theorem d_Versions_firstStep_55 : decode prog_12_method_10_code 55 = .ok (.getfield 23, 3) := by decide +kernel
theorem d_Versions_firstStep_58 : decode prog_12_method_10_code 58 = .ok (.iload 4, 2) := by decide +kernel
theorem d_Versions_firstStep_60 : decode prog_12_method_10_code 60 = .ok (.aaload, 1) := by decide +kernel
theorem d_Versions_firstStep_61 : decode prog_12_method_10_code 61 = .ok (.getfield 72, 3) := by decide +kernel
theorem d_Versions_firstStep_64 : decode prog_12_method_10_code 64 = .ok (.iload_n 1, 1) := by decide +kernel
theorem d_Versions_firstStep_65 : decode prog_12_method_10_code 65 = .ok (.if_icmp .ne 7, 3) := by decide +kernel
theorem d_Versions_firstStep_68 : decode prog_12_method_10_code 68 = .ok (.iconst 1, 1) := by decide +kernel
theorem d_Versions_firstStep_69 : decode prog_12_method_10_code 69 = .ok (.goto 4, 3) := by decide +kernel
theorem d_Versions_firstStep_72 : decode prog_12_method_10_code 72 = .ok (.iconst 0, 1) := by decide +kernel
theorem d_Versions_firstStep_73 : decode prog_12_method_10_code 73 = .ok (.istore 5, 2) := by decide +kernel
theorem d_Versions_firstStep_75 : decode prog_12_method_10_code 75 = .ok (.iload 5, 2) := by decide +kernel
theorem d_Versions_firstStep_77 : decode prog_12_method_10_code 77 = .ok (.ifCond .eq 12, 3) := by decide +kernel
theorem d_Versions_firstStep_80 : decode prog_12_method_10_code 80 = .ok (.iload 4, 2) := by decide +kernel
theorem d_Versions_firstStep_82 : decode prog_12_method_10_code 82 = .ok (.iload_n 3, 1) := by decide +kernel
theorem d_Versions_firstStep_83 : decode prog_12_method_10_code 83 = .ok (.if_icmp .eq 6, 3) := by decide +kernel
theorem d_Versions_firstStep_86 : decode prog_12_method_10_code 86 = .ok (.iload 4, 2) := by decide +kernel
theorem d_Versions_firstStep_88 : decode prog_12_method_10_code 88 = .ok (.ireturn, 1) := by decide +kernel
theorem d_Versions_firstStep_89 : decode prog_12_method_10_code 89 = .ok (.iinc 4 1, 3) := by decide +kernel
theorem d_Versions_firstStep_92 : decode prog_12_method_10_code 92 = .ok (.goto (-89), 3) := by decide +kernel
theorem d_Versions_firstStep_95 : decode prog_12_method_10_code 95 = .ok (.iconst (-1), 1) := by decide +kernel
theorem d_Versions_firstStep_96 : decode prog_12_method_10_code 96 = .ok (.ireturn, 1) := by decide +kernel
abbrev M_Versions_measure : q_M := (⟨"LensPaths$Versions", "measure", "(II)V"⟩, prog_12_method_8_code, 7, none, "LensPaths$Versions", [], false, 1, 21)
theorem d_Versions_measure_0 : decode prog_12_method_8_code 0 = .ok (.iconst 0, 1) := by decide +kernel
theorem d_Versions_measure_1 : decode prog_12_method_8_code 1 = .ok (.istore_n 3, 1) := by decide +kernel
theorem d_Versions_measure_2 : decode prog_12_method_8_code 2 = .ok (.iload_n 3, 1) := by decide +kernel
theorem d_Versions_measure_3 : decode prog_12_method_8_code 3 = .ok (.aload_n 0, 1) := by decide +kernel
theorem d_Versions_measure_4 : decode prog_12_method_8_code 4 = .ok (.getfield 17, 3) := by decide +kernel
theorem d_Versions_measure_7 : decode prog_12_method_8_code 7 = .ok (.if_icmp .ge 26, 3) := by decide +kernel
theorem d_Versions_measure_10 : decode prog_12_method_8_code 10 = .ok (.aload_n 0, 1) := by decide +kernel
theorem d_Versions_measure_11 : decode prog_12_method_8_code 11 = .ok (.getfield 31, 3) := by decide +kernel
theorem d_Versions_measure_14 : decode prog_12_method_8_code 14 = .ok (.iload_n 3, 1) := by decide +kernel
theorem d_Versions_measure_15 : decode prog_12_method_8_code 15 = .ok (.iload_n 3, 1) := by decide +kernel
theorem d_Versions_measure_16 : decode prog_12_method_8_code 16 = .ok (.iload_n 1, 1) := by decide +kernel
theorem d_Versions_measure_17 : decode prog_12_method_8_code 17 = .ok (.if_icmp .ne 7, 3) := by decide +kernel
theorem d_Versions_measure_20 : decode prog_12_method_8_code 20 = .ok (.iconst 0, 1) := by decide +kernel
theorem d_Versions_measure_21 : decode prog_12_method_8_code 21 = .ok (.goto 5, 3) := by decide +kernel
theorem d_Versions_measure_24 : decode prog_12_method_8_code 24 = .ok (.bipush 8, 2) := by decide +kernel
theorem d_Versions_measure_26 : decode prog_12_method_8_code 26 = .ok (.iastore, 1) := by decide +kernel
theorem d_Versions_measure_27 : decode prog_12_method_8_code 27 = .ok (.iinc 3 1, 3) := by decide +kernel
theorem d_Versions_measure_30 : decode prog_12_method_8_code 30 = .ok (.goto (-28), 3) := by decide +kernel
theorem d_Versions_measure_33 : decode prog_12_method_8_code 33 = .ok (.iconst 1, 1) := by decide +kernel
theorem d_Versions_measure_34 : decode prog_12_method_8_code 34 = .ok (.istore_n 3, 1) := by decide +kernel
theorem d_Versions_measure_35 : decode prog_12_method_8_code 35 = .ok (.iload_n 3, 1) := by decide +kernel
theorem d_Versions_measure_36 : decode prog_12_method_8_code 36 = .ok (.aload_n 0, 1) := by decide +kernel
theorem d_Versions_measure_37 : decode prog_12_method_8_code 37 = .ok (.getfield 17, 3) := by decide +kernel
theorem d_Versions_measure_40 : decode prog_12_method_8_code 40 = .ok (.if_icmp .ge 109, 3) := by decide +kernel
theorem d_Versions_measure_43 : decode prog_12_method_8_code 43 = .ok (.iconst 0, 1) := by decide +kernel
theorem d_Versions_measure_44 : decode prog_12_method_8_code 44 = .ok (.istore 4, 2) := by decide +kernel
theorem d_Versions_measure_46 : decode prog_12_method_8_code 46 = .ok (.iload 4, 2) := by decide +kernel
theorem d_Versions_measure_48 : decode prog_12_method_8_code 48 = .ok (.aload_n 0, 1) := by decide +kernel
theorem d_Versions_measure_49 : decode prog_12_method_8_code 49 = .ok (.getfield 35, 3) := by decide +kernel
theorem d_Versions_measure_52 : decode prog_12_method_8_code 52 = .ok (.if_icmp .ge 91, 3) := by decide +kernel
theorem d_Versions_measure_55 : decode prog_12_method_8_code 55 = .ok (.iload 4, 2) := by decide +kernel
theorem d_Versions_measure_57 : decode prog_12_method_8_code 57 = .ok (.iload_n 2, 1) := by decide +kernel
theorem d_Versions_measure_58 : decode prog_12_method_8_code 58 = .ok (.if_icmp .eq 79, 3) := by decide +kernel
theorem d_Versions_measure_61 : decode prog_12_method_8_code 61 = .ok (.aload_n 0, 1) := by decide +kernel
theorem d_Versions_measure_62 : decode prog_12_method_8_code 62 = .ok (.getfield 23, 3) := by decide +kernel
theorem d_Versions_measure_65 : decode prog_12_method_8_code 65 = .ok (.iload 4, 2) := by decide +kernel
theorem d_Versions_measure_67 : decode prog_12_method_8_code 67 = .ok (.aaload, 1) := by decide +kernel
theorem d_Versions_measure_68 : decode prog_12_method_8_code 68 = .ok (.getfield 69, 3) := by decide +kernel
theorem d_Versions_measure_71 : decode prog_12_method_8_code 71 = .ok (.istore 5, 2) := by decide +kernel
theorem d_Versions_measure_73 : decode prog_12_method_8_code 73 = .ok (.aload_n 0, 1) := by decide +kernel
theorem d_Versions_measure_74 : decode prog_12_method_8_code 74 = .ok (.getfield 23, 3) := by decide +kernel
theorem d_Versions_measure_77 : decode prog_12_method_8_code 77 = .ok (.iload 4, 2) := by decide +kernel
theorem d_Versions_measure_79 : decode prog_12_method_8_code 79 = .ok (.aaload, 1) := by decide +kernel
theorem d_Versions_measure_80 : decode prog_12_method_8_code 80 = .ok (.getfield 72, 3) := by decide +kernel
theorem d_Versions_measure_83 : decode prog_12_method_8_code 83 = .ok (.istore 6, 2) := by decide +kernel
theorem d_Versions_measure_85 : decode prog_12_method_8_code 85 = .ok (.aload_n 0, 1) := by decide +kernel
theorem d_Versions_measure_86 : decode prog_12_method_8_code 86 = .ok (.getfield 31, 3) := by decide +kernel
theorem d_Versions_measure_89 : decode prog_12_method_8_code 89 = .ok (.iload 5, 2) := by decide +kernel
theorem d_Versions_measure_91 : decode prog_12_method_8_code 91 = .ok (.aload_n 0, 1) := by decide +kernel
theorem d_Versions_measure_92 : decode prog_12_method_8_code 92 = .ok (.getfield 31, 3) := by decide +kernel
theorem d_Versions_measure_95 : decode prog_12_method_8_code 95 = .ok (.iload 5, 2) := by decide +kernel
theorem d_Versions_measure_97 : decode prog_12_method_8_code 97 = .ok (.iaload, 1) := by decide +kernel
theorem d_Versions_measure_98 : decode prog_12_method_8_code 98 = .ok (.aload_n 0, 1) := by decide +kernel
theorem d_Versions_measure_99 : decode prog_12_method_8_code 99 = .ok (.getfield 31, 3) := by decide +kernel
theorem d_Versions_measure_102 : decode prog_12_method_8_code 102 = .ok (.iload 6, 2) := by decide +kernel
theorem d_Versions_measure_104 : decode prog_12_method_8_code 104 = .ok (.iaload, 1) := by decide +kernel
theorem d_Versions_measure_105 : decode prog_12_method_8_code 105 = .ok (.iconst 1, 1) := by decide +kernel
theorem d_Versions_measure_106 : decode prog_12_method_8_code 106 = .ok (.iadd, 1) := by decide +kernel
theorem d_Versions_measure_107 : decode prog_12_method_8_code 107 = .ok (.invokestatic 45, 3) := by decide +kernel
theorem d_Versions_measure_110 : decode prog_12_method_8_code 110 = .ok (.iastore, 1) := by decide +kernel
theorem d_Versions_measure_111 : decode prog_12_method_8_code 111 = .ok (.aload_n 0, 1) := by decide +kernel
theorem d_Versions_measure_112 : decode prog_12_method_8_code 112 = .ok (.getfield 31, 3) := by decide +kernel
theorem d_Versions_measure_115 : decode prog_12_method_8_code 115 = .ok (.iload 6, 2) := by decide +kernel
theorem d_Versions_measure_117 : decode prog_12_method_8_code 117 = .ok (.aload_n 0, 1) := by decide +kernel
theorem d_Versions_measure_118 : decode prog_12_method_8_code 118 = .ok (.getfield 31, 3) := by decide +kernel
theorem d_Versions_measure_121 : decode prog_12_method_8_code 121 = .ok (.iload 6, 2) := by decide +kernel
theorem d_Versions_measure_123 : decode prog_12_method_8_code 123 = .ok (.iaload, 1) := by decide +kernel
theorem d_Versions_measure_124 : decode prog_12_method_8_code 124 = .ok (.aload_n 0, 1) := by decide +kernel
theorem d_Versions_measure_125 : decode prog_12_method_8_code 125 = .ok (.getfield 31, 3) := by decide +kernel
theorem d_Versions_measure_128 : decode prog_12_method_8_code 128 = .ok (.iload 5, 2) := by decide +kernel
theorem d_Versions_measure_130 : decode prog_12_method_8_code 130 = .ok (.iaload, 1) := by decide +kernel
theorem d_Versions_measure_131 : decode prog_12_method_8_code 131 = .ok (.iconst 1, 1) := by decide +kernel
theorem d_Versions_measure_132 : decode prog_12_method_8_code 132 = .ok (.iadd, 1) := by decide +kernel
theorem d_Versions_measure_133 : decode prog_12_method_8_code 133 = .ok (.invokestatic 45, 3) := by decide +kernel
theorem d_Versions_measure_136 : decode prog_12_method_8_code 136 = .ok (.iastore, 1) := by decide +kernel
theorem d_Versions_measure_137 : decode prog_12_method_8_code 137 = .ok (.iinc 4 1, 3) := by decide +kernel
theorem d_Versions_measure_140 : decode prog_12_method_8_code 140 = .ok (.goto (-94), 3) := by decide +kernel
theorem d_Versions_measure_143 : decode prog_12_method_8_code 143 = .ok (.iinc 3 1, 3) := by decide +kernel
theorem d_Versions_measure_146 : decode prog_12_method_8_code 146 = .ok (.goto (-111), 3) := by decide +kernel
theorem d_Versions_measure_149 : decode prog_12_method_8_code 149 = .ok (.return_, 1) := by decide +kernel
abbrev M_Versions_nearerStop : q_M := (⟨"LensPaths$Versions", "nearerStop", "(II)I"⟩, prog_12_method_9_code, 4, (some .int), "LensPaths$Versions", [], false, 1, 25)
theorem d_Versions_nearerStop_0 : decode prog_12_method_9_code 0 = .ok (.iconst 0, 1) := by decide +kernel
theorem d_Versions_nearerStop_1 : decode prog_12_method_9_code 1 = .ok (.istore_n 3, 1) := by decide +kernel
theorem d_Versions_nearerStop_2 : decode prog_12_method_9_code 2 = .ok (.iload_n 3, 1) := by decide +kernel
theorem d_Versions_nearerStop_3 : decode prog_12_method_9_code 3 = .ok (.aload_n 0, 1) := by decide +kernel
theorem d_Versions_nearerStop_4 : decode prog_12_method_9_code 4 = .ok (.getfield 17, 3) := by decide +kernel
theorem d_Versions_nearerStop_7 : decode prog_12_method_9_code 7 = .ok (.if_icmp .ge 39, 3) := by decide +kernel
theorem d_Versions_nearerStop_10 : decode prog_12_method_9_code 10 = .ok (.aload_n 0, 1) := by decide +kernel
theorem d_Versions_nearerStop_11 : decode prog_12_method_9_code 11 = .ok (.getfield 31, 3) := by decide +kernel
theorem d_Versions_nearerStop_14 : decode prog_12_method_9_code 14 = .ok (.iload_n 3, 1) := by decide +kernel
theorem d_Versions_nearerStop_15 : decode prog_12_method_9_code 15 = .ok (.iaload, 1) := by decide +kernel
theorem d_Versions_nearerStop_16 : decode prog_12_method_9_code 16 = .ok (.aload_n 0, 1) := by decide +kernel
theorem d_Versions_nearerStop_17 : decode prog_12_method_9_code 17 = .ok (.getfield 31, 3) := by decide +kernel
theorem d_Versions_nearerStop_20 : decode prog_12_method_9_code 20 = .ok (.iload_n 1, 1) := by decide +kernel
theorem d_Versions_nearerStop_21 : decode prog_12_method_9_code 21 = .ok (.iaload, 1) := by decide +kernel
theorem d_Versions_nearerStop_22 : decode prog_12_method_9_code 22 = .ok (.iconst 1, 1) := by decide +kernel
theorem d_Versions_nearerStop_23 : decode prog_12_method_9_code 23 = .ok (.isub, 1) := by decide +kernel
theorem d_Versions_nearerStop_24 : decode prog_12_method_9_code 24 = .ok (.if_icmp .ne 16, 3) := by decide +kernel
theorem d_Versions_nearerStop_27 : decode prog_12_method_9_code 27 = .ok (.aload_n 0, 1) := by decide +kernel
theorem d_Versions_nearerStop_28 : decode prog_12_method_9_code 28 = .ok (.iload_n 1, 1) := by decide +kernel
theorem d_Versions_nearerStop_29 : decode prog_12_method_9_code 29 = .ok (.iload_n 3, 1) := by decide +kernel
theorem d_Versions_nearerStop_30 : decode prog_12_method_9_code 30 = .ok (.iload_n 2, 1) := by decide +kernel
theorem d_Versions_nearerStop_31 : decode prog_12_method_9_code 31 = .ok (.invokevirtual 65, 3) := by decide +kernel
theorem d_Versions_nearerStop_34 : decode prog_12_method_9_code 34 = .ok (.iconst (-1), 1) := by decide +kernel
theorem d_Versions_nearerStop_35 : decode prog_12_method_9_code 35 = .ok (.if_icmp .eq 5, 3) := by decide +kernel
theorem d_Versions_nearerStop_38 : decode prog_12_method_9_code 38 = .ok (.iload_n 3, 1) := by decide +kernel
theorem d_Versions_nearerStop_39 : decode prog_12_method_9_code 39 = .ok (.ireturn, 1) := by decide +kernel
theorem d_Versions_nearerStop_40 : decode prog_12_method_9_code 40 = .ok (.iinc 3 1, 3) := by decide +kernel
theorem d_Versions_nearerStop_43 : decode prog_12_method_9_code 43 = .ok (.goto (-41), 3) := by decide +kernel
theorem d_Versions_nearerStop_46 : decode prog_12_method_9_code 46 = .ok (.iload_n 1, 1) := by decide +kernel
theorem d_Versions_nearerStop_47 : decode prog_12_method_9_code 47 = .ok (.ireturn, 1) := by decide +kernel
abbrev M_Versions_turnRound : q_M := (⟨"LensPaths$Versions", "turnRound", "(I)V"⟩, prog_12_method_11_code, 5, none, "LensPaths$Versions", [], false, 0, 0)
theorem d_Versions_turnRound_0 : decode prog_12_method_11_code 0 = .ok (.iconst 0, 1) := by decide +kernel
theorem d_Versions_turnRound_1 : decode prog_12_method_11_code 1 = .ok (.istore_n 2, 1) := by decide +kernel
theorem d_Versions_turnRound_2 : decode prog_12_method_11_code 2 = .ok (.iload_n 1, 1) := by decide +kernel
theorem d_Versions_turnRound_3 : decode prog_12_method_11_code 3 = .ok (.istore_n 3, 1) := by decide +kernel
theorem d_Versions_turnRound_4 : decode prog_12_method_11_code 4 = .ok (.iload_n 2, 1) := by decide +kernel
theorem d_Versions_turnRound_5 : decode prog_12_method_11_code 5 = .ok (.iload_n 3, 1) := by decide +kernel
theorem d_Versions_turnRound_6 : decode prog_12_method_11_code 6 = .ok (.if_icmp .ge 40, 3) := by decide +kernel
theorem d_Versions_turnRound_9 : decode prog_12_method_11_code 9 = .ok (.aload_n 0, 1) := by decide +kernel
theorem d_Versions_turnRound_10 : decode prog_12_method_11_code 10 = .ok (.getfield 27, 3) := by decide +kernel
theorem d_Versions_turnRound_13 : decode prog_12_method_11_code 13 = .ok (.iload_n 2, 1) := by decide +kernel
theorem d_Versions_turnRound_14 : decode prog_12_method_11_code 14 = .ok (.iaload, 1) := by decide +kernel
theorem d_Versions_turnRound_15 : decode prog_12_method_11_code 15 = .ok (.istore 4, 2) := by decide +kernel
theorem d_Versions_turnRound_17 : decode prog_12_method_11_code 17 = .ok (.aload_n 0, 1) := by decide +kernel
theorem d_Versions_turnRound_18 : decode prog_12_method_11_code 18 = .ok (.getfield 27, 3) := by decide +kernel
theorem d_Versions_turnRound_21 : decode prog_12_method_11_code 21 = .ok (.iload_n 2, 1) := by decide +kernel
theorem d_Versions_turnRound_22 : decode prog_12_method_11_code 22 = .ok (.aload_n 0, 1) := by decide +kernel
theorem d_Versions_turnRound_23 : decode prog_12_method_11_code 23 = .ok (.getfield 27, 3) := by decide +kernel
theorem d_Versions_turnRound_26 : decode prog_12_method_11_code 26 = .ok (.iload_n 3, 1) := by decide +kernel
theorem d_Versions_turnRound_27 : decode prog_12_method_11_code 27 = .ok (.iaload, 1) := by decide +kernel
theorem d_Versions_turnRound_28 : decode prog_12_method_11_code 28 = .ok (.iastore, 1) := by decide +kernel
theorem d_Versions_turnRound_29 : decode prog_12_method_11_code 29 = .ok (.aload_n 0, 1) := by decide +kernel
theorem d_Versions_turnRound_30 : decode prog_12_method_11_code 30 = .ok (.getfield 27, 3) := by decide +kernel
theorem d_Versions_turnRound_33 : decode prog_12_method_11_code 33 = .ok (.iload_n 3, 1) := by decide +kernel
theorem d_Versions_turnRound_34 : decode prog_12_method_11_code 34 = .ok (.iload 4, 2) := by decide +kernel
theorem d_Versions_turnRound_36 : decode prog_12_method_11_code 36 = .ok (.iastore, 1) := by decide +kernel
theorem d_Versions_turnRound_37 : decode prog_12_method_11_code 37 = .ok (.iinc 2 1, 3) := by decide +kernel
theorem d_Versions_turnRound_40 : decode prog_12_method_11_code 40 = .ok (.iinc 3 (-1), 3) := by decide +kernel
theorem d_Versions_turnRound_43 : decode prog_12_method_11_code 43 = .ok (.goto (-39), 3) := by decide +kernel
theorem d_Versions_turnRound_46 : decode prog_12_method_11_code 46 = .ok (.return_, 1) := by decide +kernel
abbrev M_Versions_findWay : q_M := (⟨"LensPaths$Versions", "findWay", "(III)I"⟩, prog_12_method_6_code, 7, (some .int), "LensPaths$Versions", [], false, 2, 48)
theorem d_Versions_findWay_0 : decode prog_12_method_6_code 0 = .ok (.iload_n 1, 1) := by decide +kernel
theorem d_Versions_findWay_1 : decode prog_12_method_6_code 1 = .ok (.iload_n 2, 1) := by decide +kernel
theorem d_Versions_findWay_2 : decode prog_12_method_6_code 2 = .ok (.invokestatic 45, 3) := by decide +kernel
theorem d_Versions_findWay_5 : decode prog_12_method_6_code 5 = .ok (.istore 4, 2) := by decide +kernel
theorem d_Versions_findWay_7 : decode prog_12_method_6_code 7 = .ok (.aload_n 0, 1) := by decide +kernel
theorem d_Versions_findWay_8 : decode prog_12_method_6_code 8 = .ok (.iload_n 1, 1) := by decide +kernel
theorem d_Versions_findWay_9 : decode prog_12_method_6_code 9 = .ok (.iload_n 2, 1) := by decide +kernel
theorem d_Versions_findWay_10 : decode prog_12_method_6_code 10 = .ok (.invokestatic 51, 3) := by decide +kernel
theorem d_Versions_findWay_13 : decode prog_12_method_6_code 13 = .ok (.iload_n 3, 1) := by decide +kernel
theorem d_Versions_findWay_14 : decode prog_12_method_6_code 14 = .ok (.invokevirtual 54, 3) := by decide +kernel
theorem d_Versions_findWay_17 : decode prog_12_method_6_code 17 = .ok (.aload_n 0, 1) := by decide +kernel
theorem d_Versions_findWay_18 : decode prog_12_method_6_code 18 = .ok (.getfield 31, 3) := by decide +kernel
theorem d_Versions_findWay_21 : decode prog_12_method_6_code 21 = .ok (.iload 4, 2) := by decide +kernel
theorem d_Versions_findWay_23 : decode prog_12_method_6_code 23 = .ok (.iaload, 1) := by decide +kernel
theorem d_Versions_findWay_24 : decode prog_12_method_6_code 24 = .ok (.istore 5, 2) := by decide +kernel
theorem d_Versions_findWay_26 : decode prog_12_method_6_code 26 = .ok (.iload 5, 2) := by decide +kernel
theorem d_Versions_findWay_28 : decode prog_12_method_6_code 28 = .ok (.bipush 8, 2) := by decide +kernel
theorem d_Versions_findWay_30 : decode prog_12_method_6_code 30 = .ok (.if_icmp .ne 5, 3) := by decide +kernel
theorem d_Versions_findWay_33 : decode prog_12_method_6_code 33 = .ok (.iconst (-1), 1) := by decide +kernel
theorem d_Versions_findWay_34 : decode prog_12_method_6_code 34 = .ok (.ireturn, 1) := by decide +kernel
theorem d_Versions_findWay_35 : decode prog_12_method_6_code 35 = .ok (.aload_n 0, 1) := by decide +kernel
theorem d_Versions_findWay_36 : decode prog_12_method_6_code 36 = .ok (.getfield 27, 3) := by decide +kernel
theorem d_Versions_findWay_39 : decode prog_12_method_6_code 39 = .ok (.iconst 0, 1) := by decide +kernel
theorem d_Versions_findWay_40 : decode prog_12_method_6_code 40 = .ok (.iload 4, 2) := by decide +kernel
theorem d_Versions_findWay_42 : decode prog_12_method_6_code 42 = .ok (.iastore, 1) := by decide +kernel
theorem d_Versions_findWay_43 : decode prog_12_method_6_code 43 = .ok (.iconst 1, 1) := by decide +kernel
theorem d_Versions_findWay_44 : decode prog_12_method_6_code 44 = .ok (.istore 6, 2) := by decide +kernel
theorem d_Versions_findWay_46 : decode prog_12_method_6_code 46 = .ok (.iload 6, 2) := by decide +kernel
theorem d_Versions_findWay_48 : decode prog_12_method_6_code 48 = .ok (.iload 5, 2) := by decide +kernel
theorem d_Versions_findWay_50 : decode prog_12_method_6_code 50 = .ok (.if_icmp .gt 30, 3) := by decide +kernel
theorem d_Versions_findWay_53 : decode prog_12_method_6_code 53 = .ok (.aload_n 0, 1) := by decide +kernel
theorem d_Versions_findWay_54 : decode prog_12_method_6_code 54 = .ok (.getfield 27, 3) := by decide +kernel
theorem d_Versions_findWay_57 : decode prog_12_method_6_code 57 = .ok (.iload 6, 2) := by decide +kernel
theorem d_Versions_findWay_59 : decode prog_12_method_6_code 59 = .ok (.aload_n 0, 1) := by decide +kernel
theorem d_Versions_findWay_60 : decode prog_12_method_6_code 60 = .ok (.aload_n 0, 1) := by decide +kernel
theorem d_Versions_findWay_61 : decode prog_12_method_6_code 61 = .ok (.getfield 27, 3) := by decide +kernel
theorem d_Versions_findWay_64 : decode prog_12_method_6_code 64 = .ok (.iload 6, 2) := by decide +kernel
theorem d_Versions_findWay_66 : decode prog_12_method_6_code 66 = .ok (.iconst 1, 1) := by decide +kernel
theorem d_Versions_findWay_67 : decode prog_12_method_6_code 67 = .ok (.isub, 1) := by decide +kernel
theorem d_Versions_findWay_68 : decode prog_12_method_6_code 68 = .ok (.iaload, 1) := by decide +kernel
theorem d_Versions_findWay_69 : decode prog_12_method_6_code 69 = .ok (.iload_n 3, 1) := by decide +kernel
theorem d_Versions_findWay_70 : decode prog_12_method_6_code 70 = .ok (.invokevirtual 58, 3) := by decide +kernel
theorem d_Versions_findWay_73 : decode prog_12_method_6_code 73 = .ok (.iastore, 1) := by decide +kernel
theorem d_Versions_findWay_74 : decode prog_12_method_6_code 74 = .ok (.iinc 6 1, 3) := by decide +kernel
theorem d_Versions_findWay_77 : decode prog_12_method_6_code 77 = .ok (.goto (-31), 3) := by decide +kernel
theorem d_Versions_findWay_80 : decode prog_12_method_6_code 80 = .ok (.iload_n 1, 1) := by decide +kernel
theorem d_Versions_findWay_81 : decode prog_12_method_6_code 81 = .ok (.iload_n 2, 1) := by decide +kernel
theorem d_Versions_findWay_82 : decode prog_12_method_6_code 82 = .ok (.if_icmp .le 9, 3) := by decide +kernel
theorem d_Versions_findWay_85 : decode prog_12_method_6_code 85 = .ok (.aload_n 0, 1) := by decide +kernel
theorem d_Versions_findWay_86 : decode prog_12_method_6_code 86 = .ok (.iload 5, 2) := by decide +kernel
theorem d_Versions_findWay_88 : decode prog_12_method_6_code 88 = .ok (.invokevirtual 61, 3) := by decide +kernel
theorem d_Versions_findWay_91 : decode prog_12_method_6_code 91 = .ok (.iload 5, 2) := by decide +kernel
theorem d_Versions_findWay_93 : decode prog_12_method_6_code 93 = .ok (.ireturn, 1) := by decide +kernel
section CWays
variable {g : q_G} {sz x : Nat} {T : q_T} {I : q_I} {R : q_R} {J : q_J} {S : KA}
/-- does the step join the two -/
def k_jn (ss : List KS) (wo : Int32) (u v s : Nat) : Bool := (match ss[s]? with
  | none => false
  | some st => decide ((st.fr = u ∧ st.to = v) ∨ (st.fr = v ∧ st.to = u))) && decide (nI s ≠ wo)
def k_fst (ss : List KS) (wo : Int32) (u v : Nat) : Option Nat := k_lst (k_jn ss wo u v) 0 ss.length
def k_A (ss : List KS) (wo : Int32) (u v : Nat) : Bool := (k_fst ss wo u v).isSome
theorem k_fst_lt {ss : List KS} {wo : Int32} {u v s : Nat} (h : k_fst ss wo u v = some s) : s < ss.length := by
  have := (k_lst_some h).2.1
  omega
theorem k_A_of {ss : List KS} {wo : Int32} {u v s : Nat} {st : KS} (hs : ss[s]? = some st) (hw : nI s ≠ wo) (h : (st.fr = u ∧ st.to = v) ∨ (st.fr = v ∧ st.to = u)) : k_A ss wo u v = true := by
  unfold k_A
  have hb : k_jn ss wo u v s = true := by
    unfold k_jn
    rw [hs, decide_eq_true hw, Bool.and_true]
    exact decide_eq_true h
  cases hf : k_fst ss wo u v with
  | some q => rfl
  | none =>
    have hl := (List.getElem?_eq_some_iff.mp hs).1
    rw [k_lst_none hf s (by omega) (by omega)] at hb
    cases hb
theorem k_A_inv {ss : List KS} {wo : Int32} {u v : Nat} (h : k_A ss wo u v = true) : ∃ s st, ss[s]? = some st ∧ nI s ≠ wo ∧ ((st.fr = u ∧ st.to = v) ∨ (st.fr = v ∧ st.to = u)) := by
  unfold k_A at h
  cases hf : k_fst ss wo u v with
  | none => rw [hf] at h; cases h
  | some s =>
    have hb := (k_lst_some hf).2.2.1
    unfold k_jn at hb
    cases hs : ss[s]? with
    | none => rw [hs] at hb; cases hb
    | some st =>
      rw [hs, Bool.and_eq_true, decide_eq_true_iff] at hb
      exact ⟨s, st, hs, of_decide_eq_true hb.2, hb.1⟩
/-- the steps, as ways need them -/
def k_ssv (a : Nat) (ss : List KS) (T : q_T) (I : q_I) (R : q_R) : Prop := I a (nI 3) = nI ss.length ∧ ss.length ≤ 16 ∧ ∀ i st, ss[i]? = some st → st.fr < 8 ∧ st.to < 8 ∧ ∃ t, R (a + 2) (nI i) = some t ∧ T t = some (107, 0) ∧ I t (nI 1) = nI st.fr ∧ I t (nI 2) = nI st.to ∧ t ≠ a + 3 ∧ t ≠ a + 4
theorem relC.ssv (hw : wf S) (h : relC S x sz T I R) : k_ssv (x + 1) S.ss T I R := by
  refine ⟨h.2.2.1.1, hw.2.1.1, fun i st hi => ?_⟩
  obtain ⟨t, a1, a2⟩ := h.2.2.1.2 i st hi
  obtain ⟨w1, w2, -⟩ := hw.2.1.2 st (List.mem_of_getElem? hi)
  have := hw.1.2.1
  have := a2.1
  exact ⟨by omega, by omega, t, a1, a2.2.1, a2.2.2.2.1, a2.2.2.2.2.1, by omega, by omega⟩
theorem k_ssv.cong {a : Nat} {ss : List KS} {I2 : q_I} (h : k_ssv a ss T I R) (hI : ∀ b, b ≠ a + 3 → b ≠ a + 4 → I2 b = I b) : k_ssv a ss T I2 R := by
  refine ⟨by rw [hI a (by omega) (by omega)]; exact h.1, h.2.1, fun i st hi => ?_⟩
  obtain ⟨b1, b2, t, b3, b4, b5, b6, b7, b8⟩ := h.2.2 i st hi
  exact ⟨b1, b2, t, b3, b4, by rw [hI t b7 b8]; exact b5, by rw [hI t b7 b8]; exact b6, b7, b8⟩
theorem c_Versions_firstStep {a : Nat} {ss : List KS} (hL : q_L 9 t_Versions a T R) (hS : k_ssv a ss T I R) {u v : Nat} (hu : u < 8) (hv : v < 8) (wo : Int32) : q_Ci g M_Versions_firstStep [.ref a, .int (nI u), .int (nI v), .int wo] (sz, T, I, R, J) 0 0 (fun r h' => r = p_idx (k_fst ss wo u v) ∧ h' = (sz, T, I, R, J)) := by
  have h16 := hS.2.1
  have loop : ∀ (j i : Nat), i + j = ss.length → k_fst ss wo u v = k_lst (k_jn ss wo u v) i j → ∀ l5, q_V g M_Versions_firstStep 0 0 0 0 (sz, T, I, R, J) (fun o h' => ∃ r : Int32, o = .inl (some (.int r)) ∧ (r = p_idx (k_fst ss wo u v) ∧ h' = (sz, T, I, R, J))) 3 [some (.ref a), some (.int (nI u)), some (.int (nI v)), some (.int wo), some (.int (nI i)), l5] [] := by
    intro j
    induction j with
    | zero =>
      intro i hij he l5
      refine q_iload d_Versions_firstStep_3 rfl ?_
      refine q_aload_n d_Versions_firstStep_5 rfl rfl ?_
      refine q_getI (ci := 9) (fk := 3) d_Versions_firstStep_6 rfl (Nat.le_of_ble_eq_true rfl) w_115 (fun _ _ => rfl) hL.1 ?_
      rw [hS.1]
      refine q_icmp_ge (tgt := 95) d_Versions_firstStep_9 rfl (fun hc => ?_) (fun hc => ?_)
      · refine q_iconst (v := (-1)) d_Versions_firstStep_95 (by decide) ?_
        refine q_iret d_Versions_firstStep_96 rfl (by omega) (by omega) ?_
        exact ⟨_, rfl, by rw [he]; rfl, rfl⟩
      · exact absurd (by rw [nI_leI (by omega) (by omega)]; omega) hc
    | succ j ih =>
      intro i hij he l5
      obtain ⟨st, hst⟩ : ∃ st, ss[i]? = some st := ⟨_, List.getElem?_eq_getElem (by omega)⟩
      obtain ⟨b1, b2, t, b3, b4, b5, b6, b7, b8⟩ := hS.2.2 i st hst
      rw [k_lst] at he
      have next : k_jn ss wo u v i = false → ∀ l5, q_V g M_Versions_firstStep 0 0 0 0 (sz, T, I, R, J) (fun o h' => ∃ r : Int32, o = .inl (some (.int r)) ∧ (r = p_idx (k_fst ss wo u v) ∧ h' = (sz, T, I, R, J))) 89 [some (.ref a), some (.int (nI u)), some (.int (nI v)), some (.int wo), some (.int (nI i)), l5] [] := by
        intro hj l5
        rw [hj, if_neg (by decide)] at he
        first | refine q_iincN d_Versions_firstStep_89 rfl (Nat.le_of_ble_eq_true rfl) (by first | exact q_ok0 | exact q_okI rfl | exact q_okR rfl | exact q_okN rfl) rfl ?_ | refine q_iinc d_Versions_firstStep_89 rfl rfl (Nat.le_of_ble_eq_true rfl) (by first | exact q_ok0 | exact q_okI rfl | exact q_okR rfl | exact q_okN rfl) rfl ?_
        refine q_goto (tgt := 3) d_Versions_firstStep_92 rfl ?_
        exact ih (i + 1) (by omega) he l5
      have no : ¬ ((st.fr = u ∧ st.to = v) ∨ (st.fr = v ∧ st.to = u)) → ∀ l5, q_V g M_Versions_firstStep 0 0 0 0 (sz, T, I, R, J) (fun o h' => ∃ r : Int32, o = .inl (some (.int r)) ∧ (r = p_idx (k_fst ss wo u v) ∧ h' = (sz, T, I, R, J))) 72 [some (.ref a), some (.int (nI u)), some (.int (nI v)), some (.int wo), some (.int (nI i)), l5] [] := by
        intro hno l5
        refine q_iconst (v := nI 0) d_Versions_firstStep_72 (by decide) ?_
        refine q_istore d_Versions_firstStep_73 (Nat.le_of_ble_eq_true rfl) (by first | exact q_ok0 | exact q_okI rfl | exact q_okR rfl | exact q_okN rfl) rfl ?_
        refine q_iload d_Versions_firstStep_75 rfl ?_
        refine q_if_eq (tgt := 89) d_Versions_firstStep_77 rfl (fun hc => ?_) (fun hc => ?_)
        rotate_left
        · exact absurd rfl hc
        exact next (by unfold k_jn; rw [hst]; simp only [decide_eq_false hno, Bool.false_and]) _
      have yes : ((st.fr = u ∧ st.to = v) ∨ (st.fr = v ∧ st.to = u)) → ∀ l5, q_V g M_Versions_firstStep 0 0 0 0 (sz, T, I, R, J) (fun o h' => ∃ r : Int32, o = .inl (some (.int r)) ∧ (r = p_idx (k_fst ss wo u v) ∧ h' = (sz, T, I, R, J))) 68 [some (.ref a), some (.int (nI u)), some (.int (nI v)), some (.int wo), some (.int (nI i)), l5] [] := by
        intro hy l5
        refine q_iconst (v := nI 1) d_Versions_firstStep_68 (by decide) ?_
        refine q_goto (tgt := 73) d_Versions_firstStep_69 rfl ?_
        refine q_istore d_Versions_firstStep_73 (Nat.le_of_ble_eq_true rfl) (by first | exact q_ok0 | exact q_okI rfl | exact q_okR rfl | exact q_okN rfl) rfl ?_
        refine q_iload d_Versions_firstStep_75 rfl ?_
        refine q_if_eq (tgt := 89) d_Versions_firstStep_77 rfl (fun hc => ?_) (fun hc => ?_)
        · exact absurd hc (by decide)
        refine q_iload d_Versions_firstStep_80 rfl ?_
        refine q_iload_n d_Versions_firstStep_82 rfl rfl ?_
        refine q_icmp_eq (tgt := 89) d_Versions_firstStep_83 rfl (fun hc => ?_) (fun hc => ?_)
        · have hwo : nI i = wo := hc
          exact next (by unfold k_jn; rw [decide_eq_false (fun z => z hwo), Bool.and_false]) _
        · have hwo : ¬ nI i = wo := hc
          have hj : k_jn ss wo u v i = true := by unfold k_jn; rw [hst]; simp only [decide_eq_true hy, Bool.true_and]; exact decide_eq_true hwo
          rw [hj, if_pos rfl] at he
          refine q_iload d_Versions_firstStep_86 rfl ?_
          refine q_iret d_Versions_firstStep_88 rfl (by omega) (by omega) ?_
          exact ⟨_, rfl, by rw [he]; rfl, rfl⟩
      have second : ¬ (st.fr = u ∧ st.to = v) → ∀ l5, q_V g M_Versions_firstStep 0 0 0 0 (sz, T, I, R, J) (fun o h' => ∃ r : Int32, o = .inl (some (.int r)) ∧ (r = p_idx (k_fst ss wo u v) ∧ h' = (sz, T, I, R, J))) 40 [some (.ref a), some (.int (nI u)), some (.int (nI v)), some (.int wo), some (.int (nI i)), l5] [] := by
        intro hn l5
        refine q_aload_n d_Versions_firstStep_40 rfl rfl ?_
        refine q_getR (ci := 9) (fk := 2) d_Versions_firstStep_41 rfl (Nat.le_of_ble_eq_true rfl) w_113 (fun _ _ => rfl) hL.1 (hL.2 2 _ _ _ rfl).1 ?_
        refine q_iload d_Versions_firstStep_44 rfl ?_
        refine q_aaldR (kd := _) d_Versions_firstStep_46 rfl (Nat.le_of_ble_eq_true rfl) (Nat.le_of_ble_eq_true rfl) (hL.2 2 _ _ _ rfl).2 (by first | assumption | exact vp_in_nI (by omega) (by omega)) (by first | assumption | rfl | (simp (disch := omega) only [q_upT_self, q_upT_ne, q_upR_self, q_upR_nea, q_upR_nk, q_upT_at, *]; done) | (simp (disch := omega) only [q_upT_self, q_upT_ne, q_upR_self, q_upR_nea, q_upR_nk, q_upT_at, *]; rfl)) ?_
        refine q_getI (ci := 7) (fk := 1) d_Versions_firstStep_47 rfl (Nat.le_of_ble_eq_true rfl) w_646 (fun _ _ => rfl) (by first | assumption | rfl | (simp (disch := omega) only [q_upT_self, q_upT_ne, q_upR_self, q_upR_nea, q_upR_nk, q_upT_at, *]; done) | (simp (disch := omega) only [q_upT_self, q_upT_ne, q_upR_self, q_upR_nea, q_upR_nk, q_upT_at, *]; rfl)) ?_
        rw [b5]
        refine q_iload_n d_Versions_firstStep_50 rfl rfl ?_
        refine q_icmp_ne (tgt := 72) d_Versions_firstStep_51 rfl (fun hc => ?_) (fun hc => ?_)
        · have h1 : ¬ st.fr = v := fun z => hc (by rw [z])
          exact no (fun z => by rcases z with z | z; exact hn z; exact h1 z.1) _
        have h1 : st.fr = v := (nI_eq (by omega) (by omega)).mp (by have := hc; exact this)
        refine q_aload_n d_Versions_firstStep_54 rfl rfl ?_
        refine q_getR (ci := 9) (fk := 2) d_Versions_firstStep_55 rfl (Nat.le_of_ble_eq_true rfl) w_113 (fun _ _ => rfl) hL.1 (hL.2 2 _ _ _ rfl).1 ?_
        refine q_iload d_Versions_firstStep_58 rfl ?_
        refine q_aaldR (kd := _) d_Versions_firstStep_60 rfl (Nat.le_of_ble_eq_true rfl) (Nat.le_of_ble_eq_true rfl) (hL.2 2 _ _ _ rfl).2 (by first | assumption | exact vp_in_nI (by omega) (by omega)) (by first | assumption | rfl | (simp (disch := omega) only [q_upT_self, q_upT_ne, q_upR_self, q_upR_nea, q_upR_nk, q_upT_at, *]; done) | (simp (disch := omega) only [q_upT_self, q_upT_ne, q_upR_self, q_upR_nea, q_upR_nk, q_upT_at, *]; rfl)) ?_
        refine q_getI (ci := 7) (fk := 2) d_Versions_firstStep_61 rfl (Nat.le_of_ble_eq_true rfl) w_650 (fun _ _ => rfl) (by first | assumption | rfl | (simp (disch := omega) only [q_upT_self, q_upT_ne, q_upR_self, q_upR_nea, q_upR_nk, q_upT_at, *]; done) | (simp (disch := omega) only [q_upT_self, q_upT_ne, q_upR_self, q_upR_nea, q_upR_nk, q_upT_at, *]; rfl)) ?_
        rw [b6]
        refine q_iload_n d_Versions_firstStep_64 rfl rfl ?_
        refine q_icmp_ne (tgt := 72) d_Versions_firstStep_65 rfl (fun hc => ?_) (fun hc => ?_)
        · have h2 : ¬ st.to = u := fun z => hc (by rw [z])
          exact no (fun z => by rcases z with z | z; exact hn z; exact h2 z.2) _
        · have h2 : st.to = u := (nI_eq (by omega) (by omega)).mp (by have := hc; exact this)
          exact yes (Or.inr ⟨h1, h2⟩) _
      refine q_iload d_Versions_firstStep_3 rfl ?_
      refine q_aload_n d_Versions_firstStep_5 rfl rfl ?_
      refine q_getI (ci := 9) (fk := 3) d_Versions_firstStep_6 rfl (Nat.le_of_ble_eq_true rfl) w_115 (fun _ _ => rfl) hL.1 ?_
      rw [hS.1]
      refine q_icmp_ge (tgt := 95) d_Versions_firstStep_9 rfl (fun hc => ?_) (fun hc => ?_)
      · rw [nI_leI (by omega) (by omega)] at hc
        omega
      refine q_aload_n d_Versions_firstStep_12 rfl rfl ?_
      refine q_getR (ci := 9) (fk := 2) d_Versions_firstStep_13 rfl (Nat.le_of_ble_eq_true rfl) w_113 (fun _ _ => rfl) hL.1 (hL.2 2 _ _ _ rfl).1 ?_
      refine q_iload d_Versions_firstStep_16 rfl ?_
      refine q_aaldR (kd := _) d_Versions_firstStep_18 rfl (Nat.le_of_ble_eq_true rfl) (Nat.le_of_ble_eq_true rfl) (hL.2 2 _ _ _ rfl).2 (by first | assumption | exact vp_in_nI (by omega) (by omega)) (by first | assumption | rfl | (simp (disch := omega) only [q_upT_self, q_upT_ne, q_upR_self, q_upR_nea, q_upR_nk, q_upT_at, *]; done) | (simp (disch := omega) only [q_upT_self, q_upT_ne, q_upR_self, q_upR_nea, q_upR_nk, q_upT_at, *]; rfl)) ?_
      refine q_getI (ci := 7) (fk := 1) d_Versions_firstStep_19 rfl (Nat.le_of_ble_eq_true rfl) w_646 (fun _ _ => rfl) (by first | assumption | rfl | (simp (disch := omega) only [q_upT_self, q_upT_ne, q_upR_self, q_upR_nea, q_upR_nk, q_upT_at, *]; done) | (simp (disch := omega) only [q_upT_self, q_upT_ne, q_upR_self, q_upR_nea, q_upR_nk, q_upT_at, *]; rfl)) ?_
      rw [b5]
      refine q_iload_n d_Versions_firstStep_22 rfl rfl ?_
      refine q_icmp_ne (tgt := 40) d_Versions_firstStep_23 rfl (fun hc => ?_) (fun hc => ?_)
      · have h1 : ¬ st.fr = u := fun z => hc (by rw [z])
        exact second (fun z => h1 z.1) _
      have h1 : st.fr = u := (nI_eq (by omega) (by omega)).mp (by have := hc; exact this)
      refine q_aload_n d_Versions_firstStep_26 rfl rfl ?_
      refine q_getR (ci := 9) (fk := 2) d_Versions_firstStep_27 rfl (Nat.le_of_ble_eq_true rfl) w_113 (fun _ _ => rfl) hL.1 (hL.2 2 _ _ _ rfl).1 ?_
      refine q_iload d_Versions_firstStep_30 rfl ?_
      refine q_aaldR (kd := _) d_Versions_firstStep_32 rfl (Nat.le_of_ble_eq_true rfl) (Nat.le_of_ble_eq_true rfl) (hL.2 2 _ _ _ rfl).2 (by first | assumption | exact vp_in_nI (by omega) (by omega)) (by first | assumption | rfl | (simp (disch := omega) only [q_upT_self, q_upT_ne, q_upR_self, q_upR_nea, q_upR_nk, q_upT_at, *]; done) | (simp (disch := omega) only [q_upT_self, q_upT_ne, q_upR_self, q_upR_nea, q_upR_nk, q_upT_at, *]; rfl)) ?_
      refine q_getI (ci := 7) (fk := 2) d_Versions_firstStep_33 rfl (Nat.le_of_ble_eq_true rfl) w_650 (fun _ _ => rfl) (by first | assumption | rfl | (simp (disch := omega) only [q_upT_self, q_upT_ne, q_upR_self, q_upR_nea, q_upR_nk, q_upT_at, *]; done) | (simp (disch := omega) only [q_upT_self, q_upT_ne, q_upR_self, q_upR_nea, q_upR_nk, q_upT_at, *]; rfl)) ?_
      rw [b6]
      refine q_iload_n d_Versions_firstStep_36 rfl rfl ?_
      refine q_icmp_eq (tgt := 68) d_Versions_firstStep_37 rfl (fun hc => ?_) (fun hc => ?_)
      · have h2 : st.to = v := (nI_eq (by omega) (by omega)).mp hc
        exact yes (Or.inl ⟨h1, h2⟩) _
      · have h2 : ¬ st.to = v := fun z => hc (by rw [z])
        exact second (fun z => h2 z.2) _
  refine q_C.of (ls0 := [some (.ref a), some (.int (nI u)), some (.int (nI v)), some (.int wo), none, none]) (by decide) rfl (by decide) (Nat.le_of_ble_eq_true rfl) rfl ?_
  refine q_iconst (v := nI 0) d_Versions_firstStep_0 (by decide) ?_
  refine q_istore d_Versions_firstStep_1 (Nat.le_of_ble_eq_true rfl) (by first | exact q_ok0 | exact q_okI rfl | exact q_okR rfl | exact q_okN rfl) rfl ?_
  exact loop ss.length 0 (by omega) rfl none
end CWays
