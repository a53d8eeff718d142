/-! ways, the reference's side -/
abbrev M_Model_between : q_M := (⟨"LensPathsModel", "between", "(III)I"⟩, prog_14_method_71_code, 6, (some .int), "LensPathsModel", [], false, 0, 0)
theorem d_Model_between_0 : decode prog_14_method_71_code 0 = .ok (.iconst 0, 1) := by decide +kernel
theorem d_Model_between_1 : decode prog_14_method_71_code 1 = .ok (.istore 4, 2) := by decide +kernel
theorem d_Model_between_3 : decode prog_14_method_71_code 3 = .ok (.iload 4, 2) := by decide +kernel
theorem d_Model_between_5 : decode prog_14_method_71_code 5 = .ok (.aload_n 0, 1) := by decide +kernel
theorem d_Model_between_6 : decode prog_14_method_71_code 6 = .ok (.getfield 260, 3) := by decide +kernel
theorem d_Model_between_9 : decode prog_14_method_71_code 9 = .ok (.if_icmp .ge 74, 3) := by decide +kernel
theorem d_Model_between_12 : decode prog_14_method_71_code 12 = .ok (.aload_n 0, 1) := by decide +kernel
theorem d_Model_between_13 : decode prog_14_method_71_code 13 = .ok (.getfield 29, 3) := by decide +kernel
theorem d_Model_between_16 : decode prog_14_method_71_code 16 = .ok (.iload 4, 2) := by decide +kernel
theorem d_Model_between_18 : decode prog_14_method_71_code 18 = .ok (.iaload, 1) := by decide +kernel
theorem d_Model_between_19 : decode prog_14_method_71_code 19 = .ok (.iload_n 1, 1) := by decide +kernel
theorem d_Model_between_20 : decode prog_14_method_71_code 20 = .ok (.if_icmp .ne 14, 3) := by decide +kernel
theorem d_Model_between_23 : decode prog_14_method_71_code 23 = .ok (.aload_n 0, 1) := by decide +kernel
theorem d_Model_between_24 : decode prog_14_method_71_code 24 = .ok (.getfield 32, 3) := by decide +kernel
theorem d_Model_between_27 : decode prog_14_method_71_code 27 = .ok (.iload 4, 2) := by decide +kernel
theorem d_Model_between_29 : decode prog_14_method_71_code 29 = .ok (.iaload, 1) := by decide +kernel
theorem d_Model_between_30 : decode prog_14_method_71_code 30 = .ok (.iload_n 2, 1) := by decide +kernel
theorem d_Model_between_31 : decode prog_14_method_71_code 31 = .ok (.if_icmp .eq 25, 3) := by decide +kernel
theorem d_Model_between_34 : decode prog_14_method_71_code 34 = .ok (.aload_n 0, 1) := by decide +kernel
theorem d_Model_between_35 : decode prog_14_method_71_code 35 = .ok (.getfield 29, 3) := by decide +kernel
theorem d_Model_between_38 : decode prog_14_method_71_code 38 = .ok (.iload 4, 2) := by decide +kernel
theorem d_Model_between_40 : decode prog_14_method_71_code 40 = .ok (.iaload, 1) := by decide +kernel
theorem d_Model_between_41 : decode prog_14_method_71_code 41 = .ok (.iload_n 2, 1) := by decide +kernel
theorem d_Model_between_42 : decode prog_14_method_71_code 42 = .ok (.if_icmp .ne 18, 3) := by decide +kernel
theorem d_Model_between_45 : decode prog_14_method_71_code 45 = .ok (.aload_n 0, 1) := by decide +kernel
theorem d_Model_between_46 : decode prog_14_method_71_code 46 = .ok (.getfield 32, 3) := by decide +kernel
theorem d_Model_between_49 : decode prog_14_method_71_code 49 = .ok (.iload 4, 2) := by decide +kernel
theorem d_Model_between_51 : decode prog_14_method_71_code 51 = .ok (.iaload, 1) := by decide +kernel
theorem d_Model_between_52 : decode prog_14_method_71_code 52 = .ok (.iload_n 1, 1) := by decide +kernel
theorem d_Model_between_53 : decode prog_14_method_71_code 53 = .ok (.if_icmp .ne 7, 3) := by decide +kernel
theorem d_Model_between_56 : decode prog_14_method_71_code 56 = .ok (.iconst 1, 1) := by decide +kernel
theorem d_Model_between_57 : decode prog_14_method_71_code 57 = .ok (.goto 4, 3) := by decide +kernel
theorem d_Model_between_60 : decode prog_14_method_71_code 60 = .ok (.iconst 0, 1) := by decide +kernel
theorem d_Model_between_61 : decode prog_14_method_71_code 61 = .ok (.istore 5, 2) := by decide +kernel
theorem d_Model_between_63 : decode prog_14_method_71_code 63 = .ok (.iload 5, 2) := by decide +kernel
theorem d_Model_between_65 : decode prog_14_method_71_code 65 = .ok (.ifCond .eq 12, 3) := by decide +kernel
theorem d_Model_between_68 : decode prog_14_method_71_code 68 = .ok (.iload 4, 2) := by decide +kernel
theorem d_Model_between_70 : decode prog_14_method_71_code 70 = .ok (.iload_n 3, 1) := by decide +kernel
theorem d_Model_between_71 : decode prog_14_method_71_code 71 = .ok (.if_icmp .eq 6, 3) := by decide +kernel
theorem d_Model_between_74 : decode prog_14_method_71_code 74 = .ok (.iload 4, 2) := by decide +kernel
theorem d_Model_between_76 : decode prog_14_method_71_code 76 = .ok (.ireturn, 1) := by decide +kernel
theorem d_Model_between_77 : decode prog_14_method_71_code 77 = .ok (.iinc 4 1, 3) := by decide +kernel
theorem d_Model_between_80 : decode prog_14_method_71_code 80 = .ok (.goto (-77), 3) := by decide +kernel
theorem d_Model_between_83 : decode prog_14_method_71_code 83 = .ok (.iconst (-1), 1) := by decide +kernel
theorem d_Model_between_84 : decode prog_14_method_71_code 84 = .ok (.ireturn, 1) := by decide +kernel
abbrev M_Model_turnRoute : q_M := (⟨"LensPathsModel", "turnRoute", "()V"⟩, prog_14_method_73_code, 3, none, "LensPathsModel", [], false, 0, 0)
theorem d_Model_turnRoute_0 : decode prog_14_method_73_code 0 = .ok (.iconst 0, 1) := by decide +kernel
theorem d_Model_turnRoute_1 : decode prog_14_method_73_code 1 = .ok (.istore_n 1, 1) := by decide +kernel
theorem d_Model_turnRoute_2 : decode prog_14_method_73_code 2 = .ok (.iload_n 1, 1) := by decide +kernel
theorem d_Model_turnRoute_3 : decode prog_14_method_73_code 3 = .ok (.aload_n 0, 1) := by decide +kernel
theorem d_Model_turnRoute_4 : decode prog_14_method_73_code 4 = .ok (.getfield 299, 3) := by decide +kernel
theorem d_Model_turnRoute_7 : decode prog_14_method_73_code 7 = .ok (.iconst 2, 1) := by decide +kernel
theorem d_Model_turnRoute_8 : decode prog_14_method_73_code 8 = .ok (.idiv, 1) := by decide +kernel
theorem d_Model_turnRoute_9 : decode prog_14_method_73_code 9 = .ok (.if_icmp .ge 49, 3) := by decide +kernel
theorem d_Model_turnRoute_12 : decode prog_14_method_73_code 12 = .ok (.aload_n 0, 1) := by decide +kernel
theorem d_Model_turnRoute_13 : decode prog_14_method_73_code 13 = .ok (.getfield 86, 3) := by decide +kernel
theorem d_Model_turnRoute_16 : decode prog_14_method_73_code 16 = .ok (.iload_n 1, 1) := by decide +kernel
theorem d_Model_turnRoute_17 : decode prog_14_method_73_code 17 = .ok (.iaload, 1) := by decide +kernel
theorem d_Model_turnRoute_18 : decode prog_14_method_73_code 18 = .ok (.istore_n 2, 1) := by decide +kernel
theorem d_Model_turnRoute_19 : decode prog_14_method_73_code 19 = .ok (.aload_n 0, 1) := by decide +kernel
theorem d_Model_turnRoute_20 : decode prog_14_method_73_code 20 = .ok (.getfield 86, 3) := by decide +kernel
theorem d_Model_turnRoute_23 : decode prog_14_method_73_code 23 = .ok (.iload_n 1, 1) := by decide +kernel
theorem d_Model_turnRoute_24 : decode prog_14_method_73_code 24 = .ok (.aload_n 0, 1) := by decide +kernel
theorem d_Model_turnRoute_25 : decode prog_14_method_73_code 25 = .ok (.getfield 86, 3) := by decide +kernel
theorem d_Model_turnRoute_28 : decode prog_14_method_73_code 28 = .ok (.aload_n 0, 1) := by decide +kernel
theorem d_Model_turnRoute_29 : decode prog_14_method_73_code 29 = .ok (.getfield 299, 3) := by decide +kernel
theorem d_Model_turnRoute_32 : decode prog_14_method_73_code 32 = .ok (.iconst 1, 1) := by decide +kernel
theorem d_Model_turnRoute_33 : decode prog_14_method_73_code 33 = .ok (.isub, 1) := by decide +kernel
theorem d_Model_turnRoute_34 : decode prog_14_method_73_code 34 = .ok (.iload_n 1, 1) := by decide +kernel
theorem d_Model_turnRoute_35 : decode prog_14_method_73_code 35 = .ok (.isub, 1) := by decide +kernel
theorem d_Model_turnRoute_36 : decode prog_14_method_73_code 36 = .ok (.iaload, 1) := by decide +kernel
theorem d_Model_turnRoute_37 : decode prog_14_method_73_code 37 = .ok (.iastore, 1) := by decide +kernel
theorem d_Model_turnRoute_38 : decode prog_14_method_73_code 38 = .ok (.aload_n 0, 1) := by decide +kernel
theorem d_Model_turnRoute_39 : decode prog_14_method_73_code 39 = .ok (.getfield 86, 3) := by decide +kernel
theorem d_Model_turnRoute_42 : decode prog_14_method_73_code 42 = .ok (.aload_n 0, 1) := by decide +kernel
theorem d_Model_turnRoute_43 : decode prog_14_method_73_code 43 = .ok (.getfield 299, 3) := by decide +kernel
theorem d_Model_turnRoute_46 : decode prog_14_method_73_code 46 = .ok (.iconst 1, 1) := by decide +kernel
theorem d_Model_turnRoute_47 : decode prog_14_method_73_code 47 = .ok (.isub, 1) := by decide +kernel
theorem d_Model_turnRoute_48 : decode prog_14_method_73_code 48 = .ok (.iload_n 1, 1) := by decide +kernel
theorem d_Model_turnRoute_49 : decode prog_14_method_73_code 49 = .ok (.isub, 1) := by decide +kernel
theorem d_Model_turnRoute_50 : decode prog_14_method_73_code 50 = .ok (.iload_n 2, 1) := by decide +kernel
theorem d_Model_turnRoute_51 : decode prog_14_method_73_code 51 = .ok (.iastore, 1) := by decide +kernel
theorem d_Model_turnRoute_52 : decode prog_14_method_73_code 52 = .ok (.iinc 1 1, 3) := by decide +kernel
theorem d_Model_turnRoute_55 : decode prog_14_method_73_code 55 = .ok (.goto (-53), 3) := by decide +kernel
theorem d_Model_turnRoute_58 : decode prog_14_method_73_code 58 = .ok (.iconst 0, 1) := by decide +kernel
theorem d_Model_turnRoute_59 : decode prog_14_method_73_code 59 = .ok (.istore_n 1, 1) := by decide +kernel
theorem d_Model_turnRoute_60 : decode prog_14_method_73_code 60 = .ok (.iload_n 1, 1) := by decide +kernel
theorem d_Model_turnRoute_61 : decode prog_14_method_73_code 61 = .ok (.aload_n 0, 1) := by decide +kernel
theorem d_Model_turnRoute_62 : decode prog_14_method_73_code 62 = .ok (.getfield 299, 3) := by decide +kernel
theorem d_Model_turnRoute_65 : decode prog_14_method_73_code 65 = .ok (.iconst 1, 1) := by decide +kernel
theorem d_Model_turnRoute_66 : decode prog_14_method_73_code 66 = .ok (.isub, 1) := by decide +kernel
theorem d_Model_turnRoute_67 : decode prog_14_method_73_code 67 = .ok (.iconst 2, 1) := by decide +kernel
theorem d_Model_turnRoute_68 : decode prog_14_method_73_code 68 = .ok (.idiv, 1) := by decide +kernel
theorem d_Model_turnRoute_69 : decode prog_14_method_73_code 69 = .ok (.if_icmp .ge 49, 3) := by decide +kernel
theorem d_Model_turnRoute_72 : decode prog_14_method_73_code 72 = .ok (.aload_n 0, 1) := by decide +kernel
theorem d_Model_turnRoute_73 : decode prog_14_method_73_code 73 = .ok (.getfield 89, 3) := by decide +kernel
theorem d_Model_turnRoute_76 : decode prog_14_method_73_code 76 = .ok (.iload_n 1, 1) := by decide +kernel
theorem d_Model_turnRoute_77 : decode prog_14_method_73_code 77 = .ok (.iaload, 1) := by decide +kernel
theorem d_Model_turnRoute_78 : decode prog_14_method_73_code 78 = .ok (.istore_n 2, 1) := by decide +kernel
theorem d_Model_turnRoute_79 : decode prog_14_method_73_code 79 = .ok (.aload_n 0, 1) := by decide +kernel
theorem d_Model_turnRoute_80 : decode prog_14_method_73_code 80 = .ok (.getfield 89, 3) := by decide +kernel
theorem d_Model_turnRoute_83 : decode prog_14_method_73_code 83 = .ok (.iload_n 1, 1) := by decide +kernel
theorem d_Model_turnRoute_84 : decode prog_14_method_73_code 84 = .ok (.aload_n 0, 1) := by decide +kernel
theorem d_Model_turnRoute_85 : decode prog_14_method_73_code 85 = .ok (.getfield 89, 3) := by decide +kernel
theorem d_Model_turnRoute_88 : decode prog_14_method_73_code 88 = .ok (.aload_n 0, 1) := by decide +kernel
theorem d_Model_turnRoute_89 : decode prog_14_method_73_code 89 = .ok (.getfield 299, 3) := by decide +kernel
theorem d_Model_turnRoute_92 : decode prog_14_method_73_code 92 = .ok (.iconst 2, 1) := by decide +kernel
theorem d_Model_turnRoute_93 : decode prog_14_method_73_code 93 = .ok (.isub, 1) := by decide +kernel
theorem d_Model_turnRoute_94 : decode prog_14_method_73_code 94 = .ok (.iload_n 1, 1) := by decide +kernel
theorem d_Model_turnRoute_95 : decode prog_14_method_73_code 95 = .ok (.isub, 1) := by decide +kernel
theorem d_Model_turnRoute_96 : decode prog_14_method_73_code 96 = .ok (.iaload, 1) := by decide +kernel
theorem d_Model_turnRoute_97 : decode prog_14_method_73_code 97 = .ok (.iastore, 1) := by decide +kernel
theorem d_Model_turnRoute_98 : decode prog_14_method_73_code 98 = .ok (.aload_n 0, 1) := by decide +kernel
theorem d_Model_turnRoute_99 : decode prog_14_method_73_code 99 = .ok (.getfield 89, 3) := by decide +kernel
theorem d_Model_turnRoute_102 : decode prog_14_method_73_code 102 = .ok (.aload_n 0, 1) := by decide +kernel
theorem d_Model_turnRoute_103 : decode prog_14_method_73_code 103 = .ok (.getfield 299, 3) := by decide +kernel
theorem d_Model_turnRoute_106 : decode prog_14_method_73_code 106 = .ok (.iconst 2, 1) := by decide +kernel
theorem d_Model_turnRoute_107 : decode prog_14_method_73_code 107 = .ok (.isub, 1) := by decide +kernel
theorem d_Model_turnRoute_108 : decode prog_14_method_73_code 108 = .ok (.iload_n 1, 1) := by decide +kernel
theorem d_Model_turnRoute_109 : decode prog_14_method_73_code 109 = .ok (.isub, 1) := by decide +kernel
theorem d_Model_turnRoute_110 : decode prog_14_method_73_code 110 = .ok (.iload_n 2, 1) := by decide +kernel
theorem d_Model_turnRoute_111 : decode prog_14_method_73_code 111 = .ok (.iastore, 1) := by decide +kernel
theorem d_Model_turnRoute_112 : decode prog_14_method_73_code 112 = .ok (.iinc 1 1, 3) := by decide +kernel
theorem d_Model_turnRoute_115 : decode prog_14_method_73_code 115 = .ok (.goto (-55), 3) := by decide +kernel
theorem d_Model_turnRoute_118 : decode prog_14_method_73_code 118 = .ok (.return_, 1) := by decide +kernel
abbrev M_Model_findRoute : q_M := (⟨"LensPathsModel", "findRoute", "(III)Z"⟩, prog_14_method_72_code, 9, (some .boolean), "LensPathsModel", [], false, 1, 25)
theorem d_Model_findRoute_0 : decode prog_14_method_72_code 0 = .ok (.iload_n 1, 1) := by decide +kernel
theorem d_Model_findRoute_1 : decode prog_14_method_72_code 1 = .ok (.iload_n 2, 1) := by decide +kernel
theorem d_Model_findRoute_2 : decode prog_14_method_72_code 2 = .ok (.if_icmp .ge 7, 3) := by decide +kernel
theorem d_Model_findRoute_5 : decode prog_14_method_72_code 5 = .ok (.iload_n 1, 1) := by decide +kernel
theorem d_Model_findRoute_6 : decode prog_14_method_72_code 6 = .ok (.goto 4, 3) := by decide +kernel
theorem d_Model_findRoute_9 : decode prog_14_method_72_code 9 = .ok (.iload_n 2, 1) := by decide +kernel
theorem d_Model_findRoute_10 : decode prog_14_method_72_code 10 = .ok (.istore 4, 2) := by decide +kernel
theorem d_Model_findRoute_12 : decode prog_14_method_72_code 12 = .ok (.iload_n 1, 1) := by decide +kernel
theorem d_Model_findRoute_13 : decode prog_14_method_72_code 13 = .ok (.iload_n 2, 1) := by decide +kernel
theorem d_Model_findRoute_14 : decode prog_14_method_72_code 14 = .ok (.if_icmp .ge 7, 3) := by decide +kernel
theorem d_Model_findRoute_17 : decode prog_14_method_72_code 17 = .ok (.iload_n 2, 1) := by decide +kernel
theorem d_Model_findRoute_18 : decode prog_14_method_72_code 18 = .ok (.goto 4, 3) := by decide +kernel
theorem d_Model_findRoute_21 : decode prog_14_method_72_code 21 = .ok (.iload_n 1, 1) := by decide +kernel
theorem d_Model_findRoute_22 : decode prog_14_method_72_code 22 = .ok (.istore 5, 2) := by decide +kernel
theorem d_Model_findRoute_24 : decode prog_14_method_72_code 24 = .ok (.iconst 0, 1) := by decide +kernel
theorem d_Model_findRoute_25 : decode prog_14_method_72_code 25 = .ok (.istore 6, 2) := by decide +kernel
theorem d_Model_findRoute_27 : decode prog_14_method_72_code 27 = .ok (.iload 6, 2) := by decide +kernel
theorem d_Model_findRoute_29 : decode prog_14_method_72_code 29 = .ok (.aload_n 0, 1) := by decide +kernel
theorem d_Model_findRoute_30 : decode prog_14_method_72_code 30 = .ok (.getfield 7, 3) := by decide +kernel
theorem d_Model_findRoute_33 : decode prog_14_method_72_code 33 = .ok (.if_icmp .ge 29, 3) := by decide +kernel
theorem d_Model_findRoute_36 : decode prog_14_method_72_code 36 = .ok (.aload_n 0, 1) := by decide +kernel
theorem d_Model_findRoute_37 : decode prog_14_method_72_code 37 = .ok (.getfield 92, 3) := by decide +kernel
theorem d_Model_findRoute_40 : decode prog_14_method_72_code 40 = .ok (.iload 6, 2) := by decide +kernel
theorem d_Model_findRoute_42 : decode prog_14_method_72_code 42 = .ok (.iload 6, 2) := by decide +kernel
theorem d_Model_findRoute_44 : decode prog_14_method_72_code 44 = .ok (.iload 5, 2) := by decide +kernel
theorem d_Model_findRoute_46 : decode prog_14_method_72_code 46 = .ok (.if_icmp .ne 7, 3) := by decide +kernel
theorem d_Model_findRoute_49 : decode prog_14_method_72_code 49 = .ok (.iconst 0, 1) := by decide +kernel
theorem d_Model_findRoute_50 : decode prog_14_method_72_code 50 = .ok (.goto 5, 3) := by decide +kernel
theorem d_Model_findRoute_53 : decode prog_14_method_72_code 53 = .ok (.bipush 100, 2) := by decide +kernel
theorem d_Model_findRoute_55 : decode prog_14_method_72_code 55 = .ok (.iastore, 1) := by decide +kernel
theorem d_Model_findRoute_56 : decode prog_14_method_72_code 56 = .ok (.iinc 6 1, 3) := by decide +kernel
theorem d_Model_findRoute_59 : decode prog_14_method_72_code 59 = .ok (.goto (-32), 3) := by decide +kernel
theorem d_Model_findRoute_62 : decode prog_14_method_72_code 62 = .ok (.iconst 0, 1) := by decide +kernel
theorem d_Model_findRoute_63 : decode prog_14_method_72_code 63 = .ok (.istore 6, 2) := by decide +kernel
theorem d_Model_findRoute_65 : decode prog_14_method_72_code 65 = .ok (.iload 6, 2) := by decide +kernel
theorem d_Model_findRoute_67 : decode prog_14_method_72_code 67 = .ok (.aload_n 0, 1) := by decide +kernel
theorem d_Model_findRoute_68 : decode prog_14_method_72_code 68 = .ok (.getfield 7, 3) := by decide +kernel
theorem d_Model_findRoute_71 : decode prog_14_method_72_code 71 = .ok (.if_icmp .ge 92, 3) := by decide +kernel
theorem d_Model_findRoute_74 : decode prog_14_method_72_code 74 = .ok (.iconst 0, 1) := by decide +kernel
theorem d_Model_findRoute_75 : decode prog_14_method_72_code 75 = .ok (.istore 7, 2) := by decide +kernel
theorem d_Model_findRoute_77 : decode prog_14_method_72_code 77 = .ok (.iload 7, 2) := by decide +kernel
theorem d_Model_findRoute_79 : decode prog_14_method_72_code 79 = .ok (.aload_n 0, 1) := by decide +kernel
theorem d_Model_findRoute_80 : decode prog_14_method_72_code 80 = .ok (.getfield 7, 3) := by decide +kernel
theorem d_Model_findRoute_83 : decode prog_14_method_72_code 83 = .ok (.if_icmp .ge 74, 3) := by decide +kernel
theorem d_Model_findRoute_86 : decode prog_14_method_72_code 86 = .ok (.iconst 0, 1) := by decide +kernel
theorem d_Model_findRoute_87 : decode prog_14_method_72_code 87 = .ok (.istore 8, 2) := by decide +kernel
theorem d_Model_findRoute_89 : decode prog_14_method_72_code 89 = .ok (.iload 8, 2) := by decide +kernel
theorem d_Model_findRoute_91 : decode prog_14_method_72_code 91 = .ok (.aload_n 0, 1) := by decide +kernel
theorem d_Model_findRoute_92 : decode prog_14_method_72_code 92 = .ok (.getfield 7, 3) := by decide +kernel
theorem d_Model_findRoute_95 : decode prog_14_method_72_code 95 = .ok (.if_icmp .ge 56, 3) := by decide +kernel
theorem d_Model_findRoute_98 : decode prog_14_method_72_code 98 = .ok (.aload_n 0, 1) := by decide +kernel
theorem d_Model_findRoute_99 : decode prog_14_method_72_code 99 = .ok (.iload 7, 2) := by decide +kernel
theorem d_Model_findRoute_101 : decode prog_14_method_72_code 101 = .ok (.iload 8, 2) := by decide +kernel
theorem d_Model_findRoute_103 : decode prog_14_method_72_code 103 = .ok (.iload_n 3, 1) := by decide +kernel
theorem d_Model_findRoute_104 : decode prog_14_method_72_code 104 = .ok (.invokevirtual 296, 3) := by decide +kernel
theorem d_Model_findRoute_107 : decode prog_14_method_72_code 107 = .ok (.ifCond .lt 38, 3) := by decide +kernel
theorem d_Model_findRoute_110 : decode prog_14_method_72_code 110 = .ok (.aload_n 0, 1) := by decide +kernel
theorem d_Model_findRoute_111 : decode prog_14_method_72_code 111 = .ok (.getfield 92, 3) := by decide +kernel
theorem d_Model_findRoute_114 : decode prog_14_method_72_code 114 = .ok (.iload 8, 2) := by decide +kernel
theorem d_Model_findRoute_116 : decode prog_14_method_72_code 116 = .ok (.iaload, 1) := by decide +kernel
theorem d_Model_findRoute_117 : decode prog_14_method_72_code 117 = .ok (.iconst 1, 1) := by decide +kernel
theorem d_Model_findRoute_118 : decode prog_14_method_72_code 118 = .ok (.iadd, 1) := by decide +kernel
theorem d_Model_findRoute_119 : decode prog_14_method_72_code 119 = .ok (.aload_n 0, 1) := by decide +kernel
theorem d_Model_findRoute_120 : decode prog_14_method_72_code 120 = .ok (.getfield 92, 3) := by decide +kernel
theorem d_Model_findRoute_123 : decode prog_14_method_72_code 123 = .ok (.iload 7, 2) := by decide +kernel
theorem d_Model_findRoute_125 : decode prog_14_method_72_code 125 = .ok (.iaload, 1) := by decide +kernel
theorem d_Model_findRoute_126 : decode prog_14_method_72_code 126 = .ok (.if_icmp .ge 19, 3) := by decide +kernel
theorem d_Model_findRoute_129 : decode prog_14_method_72_code 129 = .ok (.aload_n 0, 1) := by decide +kernel
theorem d_Model_findRoute_130 : decode prog_14_method_72_code 130 = .ok (.getfield 92, 3) := by decide +kernel
theorem d_Model_findRoute_133 : decode prog_14_method_72_code 133 = .ok (.iload 7, 2) := by decide +kernel
theorem d_Model_findRoute_135 : decode prog_14_method_72_code 135 = .ok (.aload_n 0, 1) := by decide +kernel
theorem d_Model_findRoute_136 : decode prog_14_method_72_code 136 = .ok (.getfield 92, 3) := by decide +kernel
theorem d_Model_findRoute_139 : decode prog_14_method_72_code 139 = .ok (.iload 8, 2) := by decide +kernel
theorem d_Model_findRoute_141 : decode prog_14_method_72_code 141 = .ok (.iaload, 1) := by decide +kernel
theorem d_Model_findRoute_142 : decode prog_14_method_72_code 142 = .ok (.iconst 1, 1) := by decide +kernel
theorem d_Model_findRoute_143 : decode prog_14_method_72_code 143 = .ok (.iadd, 1) := by decide +kernel
theorem d_Model_findRoute_144 : decode prog_14_method_72_code 144 = .ok (.iastore, 1) := by decide +kernel
theorem d_Model_findRoute_145 : decode prog_14_method_72_code 145 = .ok (.iinc 8 1, 3) := by decide +kernel
theorem d_Model_findRoute_148 : decode prog_14_method_72_code 148 = .ok (.goto (-59), 3) := by decide +kernel
theorem d_Model_findRoute_151 : decode prog_14_method_72_code 151 = .ok (.iinc 7 1, 3) := by decide +kernel
theorem d_Model_findRoute_154 : decode prog_14_method_72_code 154 = .ok (.goto (-77), 3) := by decide +kernel
theorem d_Model_findRoute_157 : decode prog_14_method_72_code 157 = .ok (.iinc 6 1, 3) := by decide +kernel
theorem d_Model_findRoute_160 : decode prog_14_method_72_code 160 = .ok (.goto (-95), 3) := by decide +kernel
theorem d_Model_findRoute_163 : decode prog_14_method_72_code 163 = .ok (.aload_n 0, 1) := by decide +kernel
theorem d_Model_findRoute_164 : decode prog_14_method_72_code 164 = .ok (.getfield 92, 3) := by decide +kernel
theorem d_Model_findRoute_167 : decode prog_14_method_72_code 167 = .ok (.iload 4, 2) := by decide +kernel
theorem d_Model_findRoute_169 : decode prog_14_method_72_code 169 = .ok (.iaload, 1) := by decide +kernel
theorem d_Model_findRoute_170 : decode prog_14_method_72_code 170 = .ok (.bipush 100, 2) := by decide +kernel
theorem d_Model_findRoute_172 : decode prog_14_method_72_code 172 = .ok (.if_icmp .lt 5, 3) := by decide +kernel
theorem d_Model_findRoute_175 : decode prog_14_method_72_code 175 = .ok (.iconst 0, 1) := by decide +kernel
theorem d_Model_findRoute_176 : decode prog_14_method_72_code 176 = .ok (.ireturn, 1) := by decide +kernel
theorem d_Model_findRoute_177 : decode prog_14_method_72_code 177 = .ok (.aload_n 0, 1) := by decide +kernel
theorem d_Model_findRoute_178 : decode prog_14_method_72_code 178 = .ok (.iconst 1, 1) := by decide +kernel
theorem d_Model_findRoute_179 : decode prog_14_method_72_code 179 = .ok (.putfield 299, 3) := by decide +kernel
theorem d_Model_findRoute_182 : decode prog_14_method_72_code 182 = .ok (.aload_n 0, 1) := by decide +kernel
theorem d_Model_findRoute_183 : decode prog_14_method_72_code 183 = .ok (.getfield 86, 3) := by decide +kernel
theorem d_Model_findRoute_186 : decode prog_14_method_72_code 186 = .ok (.iconst 0, 1) := by decide +kernel
theorem d_Model_findRoute_187 : decode prog_14_method_72_code 187 = .ok (.iload 4, 2) := by decide +kernel
theorem d_Model_findRoute_189 : decode prog_14_method_72_code 189 = .ok (.iastore, 1) := by decide +kernel
theorem d_Model_findRoute_190 : decode prog_14_method_72_code 190 = .ok (.aload_n 0, 1) := by decide +kernel
theorem d_Model_findRoute_191 : decode prog_14_method_72_code 191 = .ok (.getfield 86, 3) := by decide +kernel
theorem d_Model_findRoute_194 : decode prog_14_method_72_code 194 = .ok (.aload_n 0, 1) := by decide +kernel
theorem d_Model_findRoute_195 : decode prog_14_method_72_code 195 = .ok (.getfield 299, 3) := by decide +kernel
theorem d_Model_findRoute_198 : decode prog_14_method_72_code 198 = .ok (.iconst 1, 1) := by decide +kernel
theorem d_Model_findRoute_199 : decode prog_14_method_72_code 199 = .ok (.isub, 1) := by decide +kernel
theorem d_Model_findRoute_200 : decode prog_14_method_72_code 200 = .ok (.iaload, 1) := by decide +kernel
theorem d_Model_findRoute_201 : decode prog_14_method_72_code 201 = .ok (.iload 5, 2) := by decide +kernel
theorem d_Model_findRoute_203 : decode prog_14_method_72_code 203 = .ok (.if_icmp .eq 100, 3) := by decide +kernel
theorem d_Model_findRoute_206 : decode prog_14_method_72_code 206 = .ok (.aload_n 0, 1) := by decide +kernel
theorem d_Model_findRoute_207 : decode prog_14_method_72_code 207 = .ok (.getfield 86, 3) := by decide +kernel
theorem d_Model_findRoute_210 : decode prog_14_method_72_code 210 = .ok (.aload_n 0, 1) := by decide +kernel
theorem d_Model_findRoute_211 : decode prog_14_method_72_code 211 = .ok (.getfield 299, 3) := by decide +kernel
theorem d_Model_findRoute_214 : decode prog_14_method_72_code 214 = .ok (.iconst 1, 1) := by decide +kernel
theorem d_Model_findRoute_215 : decode prog_14_method_72_code 215 = .ok (.isub, 1) := by decide +kernel
theorem d_Model_findRoute_216 : decode prog_14_method_72_code 216 = .ok (.iaload, 1) := by decide +kernel
theorem d_Model_findRoute_217 : decode prog_14_method_72_code 217 = .ok (.istore 6, 2) := by decide +kernel
theorem d_Model_findRoute_219 : decode prog_14_method_72_code 219 = .ok (.iconst 0, 1) := by decide +kernel
theorem d_Model_findRoute_220 : decode prog_14_method_72_code 220 = .ok (.istore 7, 2) := by decide +kernel
theorem d_Model_findRoute_222 : decode prog_14_method_72_code 222 = .ok (.aload_n 0, 1) := by decide +kernel
theorem d_Model_findRoute_223 : decode prog_14_method_72_code 223 = .ok (.iload 6, 2) := by decide +kernel
theorem d_Model_findRoute_225 : decode prog_14_method_72_code 225 = .ok (.iload 7, 2) := by decide +kernel
theorem d_Model_findRoute_227 : decode prog_14_method_72_code 227 = .ok (.iload_n 3, 1) := by decide +kernel
theorem d_Model_findRoute_228 : decode prog_14_method_72_code 228 = .ok (.invokevirtual 296, 3) := by decide +kernel
theorem d_Model_findRoute_231 : decode prog_14_method_72_code 231 = .ok (.ifCond .lt 22, 3) := by decide +kernel
theorem d_Model_findRoute_234 : decode prog_14_method_72_code 234 = .ok (.aload_n 0, 1) := by decide +kernel
theorem d_Model_findRoute_235 : decode prog_14_method_72_code 235 = .ok (.getfield 92, 3) := by decide +kernel
theorem d_Model_findRoute_238 : decode prog_14_method_72_code 238 = .ok (.iload 7, 2) := by decide +kernel
theorem d_Model_findRoute_240 : decode prog_14_method_72_code 240 = .ok (.iaload, 1) := by decide +kernel
theorem d_Model_findRoute_241 : decode prog_14_method_72_code 241 = .ok (.aload_n 0, 1) := by decide +kernel
theorem d_Model_findRoute_242 : decode prog_14_method_72_code 242 = .ok (.getfield 92, 3) := by decide +kernel
theorem d_Model_findRoute_245 : decode prog_14_method_72_code 245 = .ok (.iload 6, 2) := by decide +kernel
theorem d_Model_findRoute_247 : decode prog_14_method_72_code 247 = .ok (.iaload, 1) := by decide +kernel
theorem d_Model_findRoute_248 : decode prog_14_method_72_code 248 = .ok (.iconst 1, 1) := by decide +kernel
theorem d_Model_findRoute_249 : decode prog_14_method_72_code 249 = .ok (.isub, 1) := by decide +kernel
theorem d_Model_findRoute_250 : decode prog_14_method_72_code 250 = .ok (.if_icmp .eq 9, 3) := by decide +kernel
theorem d_Model_findRoute_253 : decode prog_14_method_72_code 253 = .ok (.iinc 7 1, 3) := by decide +kernel
theorem d_Model_findRoute_256 : decode prog_14_method_72_code 256 = .ok (.goto (-34), 3) := by decide +kernel
theorem d_Model_findRoute_259 : decode prog_14_method_72_code 259 = .ok (.aload_n 0, 1) := by decide +kernel
theorem d_Model_findRoute_260 : decode prog_14_method_72_code 260 = .ok (.getfield 89, 3) := by decide +kernel
theorem d_Model_findRoute_263 : decode prog_14_method_72_code 263 = .ok (.aload_n 0, 1) := by decide +kernel
theorem d_Model_findRoute_264 : decode prog_14_method_72_code 264 = .ok (.getfield 299, 3) := by decide +kernel
theorem d_Model_findRoute_267 : decode prog_14_method_72_code 267 = .ok (.iconst 1, 1) := by decide +kernel
theorem d_Model_findRoute_268 : decode prog_14_method_72_code 268 = .ok (.isub, 1) := by decide +kernel
theorem d_Model_findRoute_269 : decode prog_14_method_72_code 269 = .ok (.aload_n 0, 1) := by decide +kernel
theorem d_Model_findRoute_270 : decode prog_14_method_72_code 270 = .ok (.iload 6, 2) := by decide +kernel
theorem d_Model_findRoute_272 : decode prog_14_method_72_code 272 = .ok (.iload 7, 2) := by decide +kernel
theorem d_Model_findRoute_274 : decode prog_14_method_72_code 274 = .ok (.iload_n 3, 1) := by decide +kernel
theorem d_Model_findRoute_275 : decode prog_14_method_72_code 275 = .ok (.invokevirtual 296, 3) := by decide +kernel
theorem d_Model_findRoute_278 : decode prog_14_method_72_code 278 = .ok (.iastore, 1) := by decide +kernel
theorem d_Model_findRoute_279 : decode prog_14_method_72_code 279 = .ok (.aload_n 0, 1) := by decide +kernel
theorem d_Model_findRoute_280 : decode prog_14_method_72_code 280 = .ok (.getfield 86, 3) := by decide +kernel
theorem d_Model_findRoute_283 : decode prog_14_method_72_code 283 = .ok (.aload_n 0, 1) := by decide +kernel
theorem d_Model_findRoute_284 : decode prog_14_method_72_code 284 = .ok (.getfield 299, 3) := by decide +kernel
theorem d_Model_findRoute_287 : decode prog_14_method_72_code 287 = .ok (.iload 7, 2) := by decide +kernel
theorem d_Model_findRoute_289 : decode prog_14_method_72_code 289 = .ok (.iastore, 1) := by decide +kernel
theorem d_Model_findRoute_290 : decode prog_14_method_72_code 290 = .ok (.aload_n 0, 1) := by decide +kernel
theorem d_Model_findRoute_291 : decode prog_14_method_72_code 291 = .ok (.dup, 1) := by decide +kernel
theorem d_Model_findRoute_292 : decode prog_14_method_72_code 292 = .ok (.getfield 299, 3) := by decide +kernel
theorem d_Model_findRoute_295 : decode prog_14_method_72_code 295 = .ok (.iconst 1, 1) := by decide +kernel
theorem d_Model_findRoute_296 : decode prog_14_method_72_code 296 = .ok (.iadd, 1) := by decide +kernel
theorem d_Model_findRoute_297 : decode prog_14_method_72_code 297 = .ok (.putfield 299, 3) := by decide +kernel
theorem d_Model_findRoute_300 : decode prog_14_method_72_code 300 = .ok (.goto (-110), 3) := by decide +kernel
theorem d_Model_findRoute_303 : decode prog_14_method_72_code 303 = .ok (.iload_n 1, 1) := by decide +kernel
theorem d_Model_findRoute_304 : decode prog_14_method_72_code 304 = .ok (.iload_n 2, 1) := by decide +kernel
theorem d_Model_findRoute_305 : decode prog_14_method_72_code 305 = .ok (.if_icmp .le 7, 3) := by decide +kernel
theorem d_Model_findRoute_308 : decode prog_14_method_72_code 308 = .ok (.aload_n 0, 1) := by decide +kernel
theorem d_Model_findRoute_309 : decode prog_14_method_72_code 309 = .ok (.invokevirtual 302, 3) := by decide +kernel
theorem d_Model_findRoute_312 : decode prog_14_method_72_code 312 = .ok (.iconst 1, 1) := by decide +kernel
theorem d_Model_findRoute_313 : decode prog_14_method_72_code 313 = .ok (.ireturn, 1) := by decide +kernel
section MWays
variable {g : q_G} {sz m : Nat} {T : q_T} {I : q_I} {R : q_R} {J : q_J} {S : KA}
def m_ssv (m : Nat) (ss : List KS) (I : q_I) : Prop := I m (nI 8) = nI ss.length ∧ ss.length ≤ 16 ∧ ∀ i st, ss[i]? = some st → st.fr < 8 ∧ st.to < 8 ∧ I (m + 6) (nI i) = nI st.fr ∧ I (m + 7) (nI i) = nI st.to
theorem relM.ssv (hw : wf S) (h : relM S m T I R) : m_ssv m S.ss I := by
  refine ⟨h.2.2.1.1, hw.2.1.1, fun i st hi => ?_⟩
  obtain ⟨w1, w2, -⟩ := hw.2.1.2 st (List.mem_of_getElem? hi)
  have := hw.1.2.1
  obtain ⟨a1, a2, -⟩ := h.2.2.1.2.1 i st hi
  exact ⟨by omega, by omega, a1, a2⟩
theorem m_ssv.cong {ss : List KS} {I2 : q_I} (h : m_ssv m ss I) (h8 : I2 m (nI 8) = I m (nI 8)) (h6 : I2 (m + 6) = I (m + 6)) (h7 : I2 (m + 7) = I (m + 7)) : m_ssv m ss I2 := by
  unfold m_ssv
  rw [h8, h6, h7]
  exact h
theorem k_jn_sym (ss : List KS) (wo : Int32) (u v s : Nat) : k_jn ss wo u v s = k_jn ss wo v u s := by
  unfold k_jn
  cases ss[s]? with
  | none => rfl
  | some st => simp only [decide_eq_decide.mpr (Or.comm (a := st.fr = u ∧ st.to = v) (b := st.fr = v ∧ st.to = u))]
theorem k_fst_sym (ss : List KS) (wo : Int32) (u v : Nat) : k_fst ss wo u v = k_fst ss wo v u := by
  unfold k_fst
  rw [show k_jn ss wo u v = k_jn ss wo v u from funext (k_jn_sym ss wo u v)]
theorem c_Model_between {ss : List KS} (hL : q_L 11 t_Model m T R) (hS : m_ssv m ss I) {u v : Nat} (hu : u < 8) (hv : v < 8) (wo : Int32) : q_Ci g M_Model_between [.ref m, .int (nI u), .int (nI v), .int wo] (sz, T, I, R, J) 0 0 (fun r h' => r = p_idx (k_fst ss wo u v) ∧ h' = (sz, T, I, R, J)) := by
  have h16 := hS.2.1
  have loop : ∀ (j i : Nat), i + j = ss.length → k_fst ss wo u v = k_lst (k_jn ss wo u v) i j → ∀ l5, q_V g M_Model_between 0 0 0 0 (sz, T, I, R, J) (fun o h' => ∃ r : Int32, o = .inl (some (.int r)) ∧ (r = p_idx (k_fst ss wo u v) ∧ h' = (sz, T, I, R, J))) 3 [some (.ref m), some (.int (nI u)), some (.int (nI v)), some (.int wo), some (.int (nI i)), l5] [] := by
    intro j
    induction j with
    | zero =>
      intro i hij he l5
      refine q_iload d_Model_between_3 rfl ?_
      refine q_aload_n d_Model_between_5 rfl rfl ?_
      refine q_getI (ci := 11) (fk := 8) d_Model_between_6 rfl (Nat.le_of_ble_eq_true rfl) w_1112 (fun _ _ => rfl) hL.1 ?_
      rw [hS.1]
      refine q_icmp_ge (tgt := 83) d_Model_between_9 rfl (fun hc => ?_) (fun hc => ?_)
      · refine q_iconst (v := (-1)) d_Model_between_83 (by decide) ?_
        refine q_iret d_Model_between_84 rfl (by omega) (by omega) ?_
        exact ⟨_, rfl, by rw [he]; rfl, rfl⟩
      · exact absurd (by rw [nI_leI (by omega) (by omega)]; omega) hc
    | succ j ih =>
      intro i hij he l5
      obtain ⟨st, hst⟩ : ∃ st, ss[i]? = some st := ⟨_, List.getElem?_eq_getElem (by omega)⟩
      obtain ⟨b1, b2, b5, b6⟩ := hS.2.2 i st hst
      rw [k_lst] at he
      have next : k_jn ss wo u v i = false → ∀ l5, q_V g M_Model_between 0 0 0 0 (sz, T, I, R, J) (fun o h' => ∃ r : Int32, o = .inl (some (.int r)) ∧ (r = p_idx (k_fst ss wo u v) ∧ h' = (sz, T, I, R, J))) 77 [some (.ref m), some (.int (nI u)), some (.int (nI v)), some (.int wo), some (.int (nI i)), l5] [] := by
        intro hj l5
        rw [hj, if_neg (by decide)] at he
        first | refine q_iincN d_Model_between_77 rfl (Nat.le_of_ble_eq_true rfl) (by first | exact q_ok0 | exact q_okI rfl | exact q_okR rfl | exact q_okN rfl) rfl ?_ | refine q_iinc d_Model_between_77 rfl rfl (Nat.le_of_ble_eq_true rfl) (by first | exact q_ok0 | exact q_okI rfl | exact q_okR rfl | exact q_okN rfl) rfl ?_
        refine q_goto (tgt := 3) d_Model_between_80 rfl ?_
        exact ih (i + 1) (by omega) he l5
      have no : ¬ ((st.fr = u ∧ st.to = v) ∨ (st.fr = v ∧ st.to = u)) → ∀ l5, q_V g M_Model_between 0 0 0 0 (sz, T, I, R, J) (fun o h' => ∃ r : Int32, o = .inl (some (.int r)) ∧ (r = p_idx (k_fst ss wo u v) ∧ h' = (sz, T, I, R, J))) 60 [some (.ref m), some (.int (nI u)), some (.int (nI v)), some (.int wo), some (.int (nI i)), l5] [] := by
        intro hno l5
        refine q_iconst (v := nI 0) d_Model_between_60 (by decide) ?_
        refine q_istore d_Model_between_61 (Nat.le_of_ble_eq_true rfl) (by first | exact q_ok0 | exact q_okI rfl | exact q_okR rfl | exact q_okN rfl) rfl ?_
        refine q_iload d_Model_between_63 rfl ?_
        refine q_if_eq (tgt := 77) d_Model_between_65 rfl (fun hc => ?_) (fun hc => ?_)
        rotate_left
        · exact absurd rfl hc
        exact next (by unfold k_jn; rw [hst]; simp only [decide_eq_false hno, Bool.false_and]) _
      have yes : ((st.fr = u ∧ st.to = v) ∨ (st.fr = v ∧ st.to = u)) → ∀ l5, q_V g M_Model_between 0 0 0 0 (sz, T, I, R, J) (fun o h' => ∃ r : Int32, o = .inl (some (.int r)) ∧ (r = p_idx (k_fst ss wo u v) ∧ h' = (sz, T, I, R, J))) 56 [some (.ref m), some (.int (nI u)), some (.int (nI v)), some (.int wo), some (.int (nI i)), l5] [] := by
        intro hy l5
        refine q_iconst (v := nI 1) d_Model_between_56 (by decide) ?_
        refine q_goto (tgt := 61) d_Model_between_57 rfl ?_
        refine q_istore d_Model_between_61 (Nat.le_of_ble_eq_true rfl) (by first | exact q_ok0 | exact q_okI rfl | exact q_okR rfl | exact q_okN rfl) rfl ?_
        refine q_iload d_Model_between_63 rfl ?_
        refine q_if_eq (tgt := 77) d_Model_between_65 rfl (fun hc => ?_) (fun hc => ?_)
        · exact absurd hc (by decide)
        refine q_iload d_Model_between_68 rfl ?_
        refine q_iload_n d_Model_between_70 rfl rfl ?_
        refine q_icmp_eq (tgt := 77) d_Model_between_71 rfl (fun hc => ?_) (fun hc => ?_)
        · have hwo : nI i = wo := hc
          exact next (by unfold k_jn; rw [decide_eq_false (fun z => z hwo), Bool.and_false]) _
        · have hwo : ¬ nI i = wo := hc
          have hj : k_jn ss wo u v i = true := by unfold k_jn; rw [hst]; simp only [decide_eq_true hy, Bool.true_and]; exact decide_eq_true hwo
          rw [hj, if_pos rfl] at he
          refine q_iload d_Model_between_74 rfl ?_
          refine q_iret d_Model_between_76 rfl (by omega) (by omega) ?_
          exact ⟨_, rfl, by rw [he]; rfl, rfl⟩
      have second : ¬ (st.fr = u ∧ st.to = v) → ∀ l5, q_V g M_Model_between 0 0 0 0 (sz, T, I, R, J) (fun o h' => ∃ r : Int32, o = .inl (some (.int r)) ∧ (r = p_idx (k_fst ss wo u v) ∧ h' = (sz, T, I, R, J))) 34 [some (.ref m), some (.int (nI u)), some (.int (nI v)), some (.int wo), some (.int (nI i)), l5] [] := by
        intro hn l5
        refine q_aload_n d_Model_between_34 rfl rfl ?_
        refine q_getR (ci := 11) (fk := 9) d_Model_between_35 rfl (Nat.le_of_ble_eq_true rfl) w_1113 (fun _ _ => rfl) hL.1 (hL.2 9 _ _ _ rfl).1 ?_
        refine q_iload d_Model_between_38 rfl ?_
        refine q_iald d_Model_between_40 (hL.2 9 _ _ _ rfl).2 (by first | assumption | exact vp_in_nI (by omega) (by omega)) ?_
        rw [b5]
        refine q_iload_n d_Model_between_41 rfl rfl ?_
        refine q_icmp_ne (tgt := 60) d_Model_between_42 rfl (fun hc => ?_) (fun hc => ?_)
        · have h1 : ¬ st.fr = v := fun z => hc (by rw [z])
          exact no (fun z => by rcases z with z | z; exact hn z; exact h1 z.1) _
        have h1 : st.fr = v := (nI_eq (by omega) (by omega)).mp (by have := hc; exact this)
        refine q_aload_n d_Model_between_45 rfl rfl ?_
        refine q_getR (ci := 11) (fk := 10) d_Model_between_46 rfl (Nat.le_of_ble_eq_true rfl) w_1114 (fun _ _ => rfl) hL.1 (hL.2 10 _ _ _ rfl).1 ?_
        refine q_iload d_Model_between_49 rfl ?_
        refine q_iald d_Model_between_51 (hL.2 10 _ _ _ rfl).2 (by first | assumption | exact vp_in_nI (by omega) (by omega)) ?_
        rw [b6]
        refine q_iload_n d_Model_between_52 rfl rfl ?_
        refine q_icmp_ne (tgt := 60) d_Model_between_53 rfl (fun hc => ?_) (fun hc => ?_)
        · have h2 : ¬ st.to = u := fun z => hc (by rw [z])
          exact no (fun z => by rcases z with z | z; exact hn z; exact h2 z.2) _
        · have h2 : st.to = u := (nI_eq (by omega) (by omega)).mp (by have := hc; exact this)
          exact yes (Or.inr ⟨h1, h2⟩) _
      refine q_iload d_Model_between_3 rfl ?_
      refine q_aload_n d_Model_between_5 rfl rfl ?_
      refine q_getI (ci := 11) (fk := 8) d_Model_between_6 rfl (Nat.le_of_ble_eq_true rfl) w_1112 (fun _ _ => rfl) hL.1 ?_
      rw [hS.1]
      refine q_icmp_ge (tgt := 83) d_Model_between_9 rfl (fun hc => ?_) (fun hc => ?_)
      · rw [nI_leI (by omega) (by omega)] at hc
        omega
      refine q_aload_n d_Model_between_12 rfl rfl ?_
      refine q_getR (ci := 11) (fk := 9) d_Model_between_13 rfl (Nat.le_of_ble_eq_true rfl) w_1113 (fun _ _ => rfl) hL.1 (hL.2 9 _ _ _ rfl).1 ?_
      refine q_iload d_Model_between_16 rfl ?_
      refine q_iald d_Model_between_18 (hL.2 9 _ _ _ rfl).2 (by first | assumption | exact vp_in_nI (by omega) (by omega)) ?_
      rw [b5]
      refine q_iload_n d_Model_between_19 rfl rfl ?_
      refine q_icmp_ne (tgt := 34) d_Model_between_20 rfl (fun hc => ?_) (fun hc => ?_)
      · have h1 : ¬ st.fr = u := fun z => hc (by rw [z])
        exact second (fun z => h1 z.1) _
      have h1 : st.fr = u := (nI_eq (by omega) (by omega)).mp (by have := hc; exact this)
      refine q_aload_n d_Model_between_23 rfl rfl ?_
      refine q_getR (ci := 11) (fk := 10) d_Model_between_24 rfl (Nat.le_of_ble_eq_true rfl) w_1114 (fun _ _ => rfl) hL.1 (hL.2 10 _ _ _ rfl).1 ?_
      refine q_iload d_Model_between_27 rfl ?_
      refine q_iald d_Model_between_29 (hL.2 10 _ _ _ rfl).2 (by first | assumption | exact vp_in_nI (by omega) (by omega)) ?_
      rw [b6]
      refine q_iload_n d_Model_between_30 rfl rfl ?_
      refine q_icmp_eq (tgt := 56) d_Model_between_31 rfl (fun hc => ?_) (fun hc => ?_)
      · have h2 : st.to = v := (nI_eq (by omega) (by omega)).mp hc
        exact yes (Or.inl ⟨h1, h2⟩) _
      · have h2 : ¬ st.to = v := fun z => hc (by rw [z])
        exact second (fun z => h2 z.2) _
  refine q_C.of (ls0 := [some (.ref m), some (.int (nI u)), some (.int (nI v)), some (.int wo), none, none]) (by decide) rfl (by decide) (Nat.le_of_ble_eq_true rfl) rfl ?_
  refine q_iconst (v := nI 0) d_Model_between_0 (by decide) ?_
  refine q_istore d_Model_between_1 (Nat.le_of_ble_eq_true rfl) (by first | exact q_ok0 | exact q_okI rfl | exact q_okR rfl | exact q_okN rfl) rfl ?_
  exact loop ss.length 0 (by omega) rfl none
theorem nI_div {a b : Nat} (ha : a < 2 ^ 31) (hb : 0 < b) (hb2 : b < 2 ^ 31) : nI a / nI b = nI (a / b) := by
  have h1 : (nI b).toInt = b := nI_toInt hb2
  have h2 := (k_q32 (a := nI a) (b := nI b) (by rw [h1]; omega)).1
  have h3 : a / b ≤ a := Nat.div_le_self _ _
  rw [← Int32.toInt_inj, h2, h1, nI_toInt ha, nI_toInt (by omega)]
  rfl
/-- a list is turned round in an array, from outside in -/
def k_swp (f : Int32 → Int32) (l : List Nat) (k : Nat) : Prop := ∀ q, q < l.length → f (nI q) = nI (if q < k ∨ l.length - 1 - k < q then l.getD (l.length - 1 - q) 0 else l.getD q 0)
theorem k_swp_end {f : Int32 → Int32} {l : List Nat} (h : k_swp f l (l.length / 2)) : k_ar f l.reverse := by
  intro q v hq
  have hql := (List.getElem?_eq_some_iff.mp hq).1
  rw [List.length_reverse] at hql
  rw [List.getElem?_reverse hql] at hq
  have h1 := h q hql
  have at9 : l[l.length - 1 - q]? = some (l.getD (l.length - 1 - q) 0) := by
    rw [List.getD_eq_getElem?_getD, List.getElem?_eq_getElem (by omega)]; rfl
  rw [at9] at hq
  rw [h1, ← Option.some.inj hq]
  by_cases hqi : q < l.length / 2 ∨ l.length - 1 - l.length / 2 < q
  · rw [if_pos hqi]
  · rw [if_neg hqi, show l.length - 1 - q = q by omega]
theorem k_swp_start {f : Int32 → Int32} {l : List Nat} (h : k_ar f l) : k_swp f l 0 := by
  intro q hq
  rw [if_neg (by omega)]
  exact h q _ (by rw [List.getD_eq_getElem?_getD, List.getElem?_eq_getElem hq]; rfl)
theorem k_swp_next {a k : Nat} {l : List Nat} (h : k_swp (I a) l k) (hk : k < l.length / 2) (h8 : l.length ≤ 9) : k_swp (q_upI (q_upI I a (nI k) (nI (l.getD (l.length - 1 - k) 0))) a (nI (l.length - 1 - k)) (nI (l.getD k 0)) a) l (k + 1) := by
  intro q hq
  by_cases h1 : q = l.length - 1 - k
  · rw [h1, q_upI_self, if_pos (by omega), show l.length - 1 - (l.length - 1 - k) = k by omega]
  · rw [q_upI_nk (by omega)]
    by_cases h2 : q = k
    · rw [h2, q_upI_self, if_pos (by omega)]
    · rw [q_upI_nk (by omega), h q hq]
      by_cases h3 : q < k ∨ l.length - 1 - k < q
      · rw [if_pos h3, if_pos (by omega)]
      · rw [if_neg h3, if_neg (by omega)]
set_option maxHeartbeats 1000000 in
theorem c_Model_turnRoute {l r : List Nat} (hL : q_L 11 t_Model m T R) (hn : I m (nI 33) = nI l.length) (hr : r.length + 1 = l.length) (h9 : l.length ≤ 8) (hl : k_ar (I (m + 25)) l) (hr2 : k_ar (I (m + 26)) r) : q_Cv g M_Model_turnRoute [.ref m] (sz, T, I, R, J) 0 0 (fun h' => ∃ I' : q_I, h' = (sz, T, I', R, J) ∧ (∀ b, b ≠ m + 25 → b ≠ m + 26 → I' b = I b) ∧ k_ar (I' (m + 25)) l.reverse ∧ k_ar (I' (m + 26)) r.reverse) := by
  have n2 : ¬ nI 2 = 0 := by decide
  obtain ⟨n, hn2⟩ : ∃ n, n = r.length := ⟨_, rfl⟩
  have hl2 : l.length = n + 1 := by omega
  have loop2 : ∀ (j k : Nat) (I2 : q_I), k + j = r.length / 2 → (∀ b, b ≠ m + 25 → b ≠ m + 26 → I2 b = I b) → k_ar (I2 (m + 25)) l.reverse → k_swp (I2 (m + 26)) r k → ∀ l2, q_V g M_Model_turnRoute 0 0 0 0 (sz, T, I2, R, J) (fun o h' => o = .inl none ∧ ∃ I' : q_I, h' = (sz, T, I', R, J) ∧ (∀ b, b ≠ m + 25 → b ≠ m + 26 → I' b = I b) ∧ k_ar (I' (m + 25)) l.reverse ∧ k_ar (I' (m + 26)) r.reverse) 60 [some (.ref m), some (.int (nI k)), l2] [] := by
    intro j
    induction j with
    | zero =>
      intro k I2 hk p1 p2 p3 l2
      obtain rfl : k = r.length / 2 := by omega
      refine q_iload_n d_Model_turnRoute_60 rfl rfl ?_
      refine q_aload_n d_Model_turnRoute_61 rfl rfl ?_
      refine q_getI (ci := 11) (fk := 33) d_Model_turnRoute_62 rfl (Nat.le_of_ble_eq_true rfl) w_1137 (fun _ _ => rfl) hL.1 ?_
      rw [p1 m (by omega) (by omega), hn, hl2]
      refine q_iconst (v := nI 1) d_Model_turnRoute_65 (by decide) ?_
      refine q_isub d_Model_turnRoute_66 ?_
      rw [nI_sb n 1]
      refine q_iconst (v := nI 2) d_Model_turnRoute_67 (by decide) ?_
      refine q_idiv d_Model_turnRoute_68 (by assumption) ?_
      rw [nI_div (by omega) (by omega) (by omega), hn2]
      refine q_icmp_ge (tgt := 118) d_Model_turnRoute_69 rfl (fun hc => ?_) (fun hc => ?_)
      · refine q_vret d_Model_turnRoute_118 rfl (by omega) (by omega) ?_
        exact ⟨rfl, I2, rfl, p1, p2, k_swp_end p3⟩
      · exact absurd (Int32.le_refl _) hc
    | succ j ih =>
      intro k I2 hk p1 p2 p3 l2
      have hkr : k < r.length / 2 := by omega
      refine q_iload_n d_Model_turnRoute_60 rfl rfl ?_
      refine q_aload_n d_Model_turnRoute_61 rfl rfl ?_
      refine q_getI (ci := 11) (fk := 33) d_Model_turnRoute_62 rfl (Nat.le_of_ble_eq_true rfl) w_1137 (fun _ _ => rfl) hL.1 ?_
      rw [p1 m (by omega) (by omega), hn, hl2]
      refine q_iconst (v := nI 1) d_Model_turnRoute_65 (by decide) ?_
      refine q_isub d_Model_turnRoute_66 ?_
      rw [nI_sb n 1]
      refine q_iconst (v := nI 2) d_Model_turnRoute_67 (by decide) ?_
      refine q_idiv d_Model_turnRoute_68 (by assumption) ?_
      rw [nI_div (by omega) (by omega) (by omega), hn2]
      refine q_icmp_ge (tgt := 118) d_Model_turnRoute_69 rfl (fun hc => ?_) (fun hc => ?_)
      · rw [nI_leI (by omega) (by omega)] at hc
        omega
      have e1 : nI (n + 1) - nI 2 - nI k = nI (r.length - 1 - k) := by
        rw [show nI (n + 1) = nI (n - 1 + 2) by congr 1; omega, nI_sb, show nI (n - 1) = nI (r.length - 1 - k + k) by congr 1; omega, nI_sb]
      refine q_aload_n d_Model_turnRoute_72 rfl rfl ?_
      refine q_getR (ci := 11) (fk := 35) d_Model_turnRoute_73 rfl (Nat.le_of_ble_eq_true rfl) w_1139 (fun _ _ => rfl) hL.1 (hL.2 35 _ _ _ rfl).1 ?_
      refine q_iload_n d_Model_turnRoute_76 rfl rfl ?_
      refine q_iald d_Model_turnRoute_77 (hL.2 35 _ _ _ rfl).2 (by first | assumption | exact vp_in_nI (by omega) (by omega)) ?_
      rw [p3 k (by omega), if_neg (by omega)]
      refine q_istore_n d_Model_turnRoute_78 rfl (Nat.le_of_ble_eq_true rfl) (by first | exact q_ok0 | exact q_okI rfl | exact q_okR rfl | exact q_okN rfl) rfl ?_
      refine q_aload_n d_Model_turnRoute_79 rfl rfl ?_
      refine q_getR (ci := 11) (fk := 35) d_Model_turnRoute_80 rfl (Nat.le_of_ble_eq_true rfl) w_1139 (fun _ _ => rfl) hL.1 (hL.2 35 _ _ _ rfl).1 ?_
      refine q_iload_n d_Model_turnRoute_83 rfl rfl ?_
      refine q_aload_n d_Model_turnRoute_84 rfl rfl ?_
      refine q_getR (ci := 11) (fk := 35) d_Model_turnRoute_85 rfl (Nat.le_of_ble_eq_true rfl) w_1139 (fun _ _ => rfl) hL.1 (hL.2 35 _ _ _ rfl).1 ?_
      refine q_aload_n d_Model_turnRoute_88 rfl rfl ?_
      refine q_getI (ci := 11) (fk := 33) d_Model_turnRoute_89 rfl (Nat.le_of_ble_eq_true rfl) w_1137 (fun _ _ => rfl) hL.1 ?_
      rw [p1 m (by omega) (by omega), hn, hl2]
      refine q_iconst (v := nI 2) d_Model_turnRoute_92 (by decide) ?_
      refine q_isub d_Model_turnRoute_93 ?_
      refine q_iload_n d_Model_turnRoute_94 rfl rfl ?_
      refine q_isub d_Model_turnRoute_95 ?_
      rw [e1]
      refine q_iald d_Model_turnRoute_96 (hL.2 35 _ _ _ rfl).2 (by first | assumption | exact vp_in_nI (by omega) (by omega)) ?_
      rw [p3 (r.length - 1 - k) (by omega), if_neg (by omega)]
      refine q_iast d_Model_turnRoute_97 (hL.2 35 _ _ _ rfl).2 (by first | assumption | exact vp_in_nI (by omega) (by omega)) ?_
      refine q_aload_n d_Model_turnRoute_98 rfl rfl ?_
      refine q_getR (ci := 11) (fk := 35) d_Model_turnRoute_99 rfl (Nat.le_of_ble_eq_true rfl) w_1139 (fun _ _ => rfl) hL.1 (hL.2 35 _ _ _ rfl).1 ?_
      refine q_aload_n d_Model_turnRoute_102 rfl rfl ?_
      refine q_getI (ci := 11) (fk := 33) d_Model_turnRoute_103 rfl (Nat.le_of_ble_eq_true rfl) w_1137 (fun _ _ => rfl) hL.1 ?_
      rw [q_upI_nea (by omega), p1 m (by omega) (by omega), hn, hl2]
      refine q_iconst (v := nI 2) d_Model_turnRoute_106 (by decide) ?_
      refine q_isub d_Model_turnRoute_107 ?_
      refine q_iload_n d_Model_turnRoute_108 rfl rfl ?_
      refine q_isub d_Model_turnRoute_109 ?_
      rw [e1]
      refine q_iload_n d_Model_turnRoute_110 rfl rfl ?_
      refine q_iast d_Model_turnRoute_111 (hL.2 35 _ _ _ rfl).2 (by first | assumption | exact vp_in_nI (by omega) (by omega)) ?_
      first | refine q_iincN d_Model_turnRoute_112 rfl (Nat.le_of_ble_eq_true rfl) (by first | exact q_ok0 | exact q_okI rfl | exact q_okR rfl | exact q_okN rfl) rfl ?_ | refine q_iinc d_Model_turnRoute_112 rfl rfl (Nat.le_of_ble_eq_true rfl) (by first | exact q_ok0 | exact q_okI rfl | exact q_okR rfl | exact q_okN rfl) rfl ?_
      refine q_goto (tgt := 60) d_Model_turnRoute_115 rfl ?_
      refine ih (k + 1) _ (by omega) (fun b b1 b2 => by funext q; rw [q_upI_nea b2, q_upI_nea b2, p1 b b1 b2]) (fun i v hv => by rw [q_upI_nea (by omega), q_upI_nea (by omega)]; exact p2 i v hv) ?_ _
      exact k_swp_next p3 hkr (by omega)
  have loop1 : ∀ (j k : Nat) (I2 : q_I), k + j = l.length / 2 → (∀ b, b ≠ m + 25 → I2 b = I b) → k_swp (I2 (m + 25)) l k → ∀ l2, q_V g M_Model_turnRoute 0 0 0 0 (sz, T, I2, R, J) (fun o h' => o = .inl none ∧ ∃ I' : q_I, h' = (sz, T, I', R, J) ∧ (∀ b, b ≠ m + 25 → b ≠ m + 26 → I' b = I b) ∧ k_ar (I' (m + 25)) l.reverse ∧ k_ar (I' (m + 26)) r.reverse) 2 [some (.ref m), some (.int (nI k)), l2] [] := by
    intro j
    induction j with
    | zero =>
      intro k I2 hk p1 p3 l2
      obtain rfl : k = l.length / 2 := by omega
      refine q_iload_n d_Model_turnRoute_2 rfl rfl ?_
      refine q_aload_n d_Model_turnRoute_3 rfl rfl ?_
      refine q_getI (ci := 11) (fk := 33) d_Model_turnRoute_4 rfl (Nat.le_of_ble_eq_true rfl) w_1137 (fun _ _ => rfl) hL.1 ?_
      rw [p1 m (by omega), hn]
      refine q_iconst (v := nI 2) d_Model_turnRoute_7 (by decide) ?_
      refine q_idiv d_Model_turnRoute_8 (by assumption) ?_
      rw [nI_div (by omega) (by omega) (by omega)]
      refine q_icmp_ge (tgt := 58) d_Model_turnRoute_9 rfl (fun hc => ?_) (fun hc => ?_)
      · refine q_iconst (v := nI 0) d_Model_turnRoute_58 (by decide) ?_
        refine q_istore_n d_Model_turnRoute_59 rfl (Nat.le_of_ble_eq_true rfl) (by first | exact q_ok0 | exact q_okI rfl | exact q_okR rfl | exact q_okN rfl) rfl ?_
        exact loop2 (r.length / 2) 0 I2 (by omega) (fun b b1 b2 => p1 b b1) (k_swp_end p3) (k_swp_start (by rw [p1 (m + 26) (by omega)]; exact hr2)) _
      · exact absurd (Int32.le_refl _) hc
    | succ j ih =>
      intro k I2 hk p1 p3 l2
      have hkl : k < l.length / 2 := by omega
      refine q_iload_n d_Model_turnRoute_2 rfl rfl ?_
      refine q_aload_n d_Model_turnRoute_3 rfl rfl ?_
      refine q_getI (ci := 11) (fk := 33) d_Model_turnRoute_4 rfl (Nat.le_of_ble_eq_true rfl) w_1137 (fun _ _ => rfl) hL.1 ?_
      rw [p1 m (by omega), hn]
      refine q_iconst (v := nI 2) d_Model_turnRoute_7 (by decide) ?_
      refine q_idiv d_Model_turnRoute_8 (by assumption) ?_
      rw [nI_div (by omega) (by omega) (by omega)]
      refine q_icmp_ge (tgt := 58) d_Model_turnRoute_9 rfl (fun hc => ?_) (fun hc => ?_)
      · rw [nI_leI (by omega) (by omega)] at hc
        omega
      have e1 : nI l.length - nI 1 - nI k = nI (l.length - 1 - k) := by
        rw [show nI l.length = nI (l.length - 1 + 1) by congr 1; omega, nI_sb, show nI (l.length - 1) = nI (l.length - 1 - k + k) by congr 1; omega, nI_sb]
      refine q_aload_n d_Model_turnRoute_12 rfl rfl ?_
      refine q_getR (ci := 11) (fk := 34) d_Model_turnRoute_13 rfl (Nat.le_of_ble_eq_true rfl) w_1138 (fun _ _ => rfl) hL.1 (hL.2 34 _ _ _ rfl).1 ?_
      refine q_iload_n d_Model_turnRoute_16 rfl rfl ?_
      refine q_iald d_Model_turnRoute_17 (hL.2 34 _ _ _ rfl).2 (by first | assumption | exact vp_in_nI (by omega) (by omega)) ?_
      rw [p3 k (by omega), if_neg (by omega)]
      refine q_istore_n d_Model_turnRoute_18 rfl (Nat.le_of_ble_eq_true rfl) (by first | exact q_ok0 | exact q_okI rfl | exact q_okR rfl | exact q_okN rfl) rfl ?_
      refine q_aload_n d_Model_turnRoute_19 rfl rfl ?_
      refine q_getR (ci := 11) (fk := 34) d_Model_turnRoute_20 rfl (Nat.le_of_ble_eq_true rfl) w_1138 (fun _ _ => rfl) hL.1 (hL.2 34 _ _ _ rfl).1 ?_
      refine q_iload_n d_Model_turnRoute_23 rfl rfl ?_
      refine q_aload_n d_Model_turnRoute_24 rfl rfl ?_
      refine q_getR (ci := 11) (fk := 34) d_Model_turnRoute_25 rfl (Nat.le_of_ble_eq_true rfl) w_1138 (fun _ _ => rfl) hL.1 (hL.2 34 _ _ _ rfl).1 ?_
      refine q_aload_n d_Model_turnRoute_28 rfl rfl ?_
      refine q_getI (ci := 11) (fk := 33) d_Model_turnRoute_29 rfl (Nat.le_of_ble_eq_true rfl) w_1137 (fun _ _ => rfl) hL.1 ?_
      rw [p1 m (by omega), hn]
      refine q_iconst (v := nI 1) d_Model_turnRoute_32 (by decide) ?_
      refine q_isub d_Model_turnRoute_33 ?_
      refine q_iload_n d_Model_turnRoute_34 rfl rfl ?_
      refine q_isub d_Model_turnRoute_35 ?_
      rw [e1]
      refine q_iald d_Model_turnRoute_36 (hL.2 34 _ _ _ rfl).2 (by first | assumption | exact vp_in_nI (by omega) (by omega)) ?_
      rw [p3 (l.length - 1 - k) (by omega), if_neg (by omega)]
      refine q_iast d_Model_turnRoute_37 (hL.2 34 _ _ _ rfl).2 (by first | assumption | exact vp_in_nI (by omega) (by omega)) ?_
      refine q_aload_n d_Model_turnRoute_38 rfl rfl ?_
      refine q_getR (ci := 11) (fk := 34) d_Model_turnRoute_39 rfl (Nat.le_of_ble_eq_true rfl) w_1138 (fun _ _ => rfl) hL.1 (hL.2 34 _ _ _ rfl).1 ?_
      refine q_aload_n d_Model_turnRoute_42 rfl rfl ?_
      refine q_getI (ci := 11) (fk := 33) d_Model_turnRoute_43 rfl (Nat.le_of_ble_eq_true rfl) w_1137 (fun _ _ => rfl) hL.1 ?_
      rw [q_upI_nea (by omega), p1 m (by omega), hn]
      refine q_iconst (v := nI 1) d_Model_turnRoute_46 (by decide) ?_
      refine q_isub d_Model_turnRoute_47 ?_
      refine q_iload_n d_Model_turnRoute_48 rfl rfl ?_
      refine q_isub d_Model_turnRoute_49 ?_
      rw [e1]
      refine q_iload_n d_Model_turnRoute_50 rfl rfl ?_
      refine q_iast d_Model_turnRoute_51 (hL.2 34 _ _ _ rfl).2 (by first | assumption | exact vp_in_nI (by omega) (by omega)) ?_
      first | refine q_iincN d_Model_turnRoute_52 rfl (Nat.le_of_ble_eq_true rfl) (by first | exact q_ok0 | exact q_okI rfl | exact q_okR rfl | exact q_okN rfl) rfl ?_ | refine q_iinc d_Model_turnRoute_52 rfl rfl (Nat.le_of_ble_eq_true rfl) (by first | exact q_ok0 | exact q_okI rfl | exact q_okR rfl | exact q_okN rfl) rfl ?_
      refine q_goto (tgt := 2) d_Model_turnRoute_55 rfl ?_
      refine ih (k + 1) _ (by omega) (fun b b1 => by funext q; rw [q_upI_nea b1, q_upI_nea b1, p1 b b1]) ?_ _
      exact k_swp_next p3 hkl (by omega)
  refine q_C.of (ls0 := [some (.ref m), none, none]) (by decide) rfl (by decide) (Nat.le_of_ble_eq_true rfl) rfl ?_
  refine q_iconst (v := nI 0) d_Model_turnRoute_0 (by decide) ?_
  refine q_istore_n d_Model_turnRoute_1 rfl (Nat.le_of_ble_eq_true rfl) (by first | exact q_ok0 | exact q_okI rfl | exact q_okR rfl | exact q_okN rfl) rfl ?_
  exact loop1 (l.length / 2) 0 I (by omega) (fun b hb => rfl) (k_swp_start hl) _
end MWays
