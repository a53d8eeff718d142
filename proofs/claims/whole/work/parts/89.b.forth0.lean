/-! the reference goes forth, fields alone (mode 0) -/
abbrev M_Model_arrive : q_M := (⟨"LensPathsModel", "arrive", "(II)V"⟩, prog_14_method_30_code, 4, none, "LensPathsModel", [], false, 3, 75)
theorem d_Model_arrive_0 : decode prog_14_method_30_code 0 = .ok (.aload_n 0, 1) := by decide +kernel
theorem d_Model_arrive_1 : decode prog_14_method_30_code 1 = .ok (.aload_n 0, 1) := by decide +kernel
theorem d_Model_arrive_2 : decode prog_14_method_30_code 2 = .ok (.getfield 38, 3) := by decide +kernel
theorem d_Model_arrive_5 : decode prog_14_method_30_code 5 = .ok (.iload_n 1, 1) := by decide +kernel
theorem d_Model_arrive_6 : decode prog_14_method_30_code 6 = .ok (.iconst 1, 1) := by decide +kernel
theorem d_Model_arrive_7 : decode prog_14_method_30_code 7 = .ok (.iadd, 1) := by decide +kernel
theorem d_Model_arrive_8 : decode prog_14_method_30_code 8 = .ok (.iaload, 1) := by decide +kernel
theorem d_Model_arrive_9 : decode prog_14_method_30_code 9 = .ok (.aload_n 0, 1) := by decide +kernel
theorem d_Model_arrive_10 : decode prog_14_method_30_code 10 = .ok (.getfield 38, 3) := by decide +kernel
theorem d_Model_arrive_13 : decode prog_14_method_30_code 13 = .ok (.iload_n 1, 1) := by decide +kernel
theorem d_Model_arrive_14 : decode prog_14_method_30_code 14 = .ok (.iconst 5, 1) := by decide +kernel
theorem d_Model_arrive_15 : decode prog_14_method_30_code 15 = .ok (.iadd, 1) := by decide +kernel
theorem d_Model_arrive_16 : decode prog_14_method_30_code 16 = .ok (.iaload, 1) := by decide +kernel
theorem d_Model_arrive_17 : decode prog_14_method_30_code 17 = .ok (.aload_n 0, 1) := by decide +kernel
theorem d_Model_arrive_18 : decode prog_14_method_30_code 18 = .ok (.getfield 38, 3) := by decide +kernel
theorem d_Model_arrive_21 : decode prog_14_method_30_code 21 = .ok (.iload_n 1, 1) := by decide +kernel
theorem d_Model_arrive_22 : decode prog_14_method_30_code 22 = .ok (.bipush 6, 2) := by decide +kernel
theorem d_Model_arrive_24 : decode prog_14_method_30_code 24 = .ok (.iadd, 1) := by decide +kernel
theorem d_Model_arrive_25 : decode prog_14_method_30_code 25 = .ok (.iaload, 1) := by decide +kernel
theorem d_Model_arrive_26 : decode prog_14_method_30_code 26 = .ok (.aload_n 0, 1) := by decide +kernel
theorem d_Model_arrive_27 : decode prog_14_method_30_code 27 = .ok (.getfield 38, 3) := by decide +kernel
theorem d_Model_arrive_30 : decode prog_14_method_30_code 30 = .ok (.iload_n 1, 1) := by decide +kernel
theorem d_Model_arrive_31 : decode prog_14_method_30_code 31 = .ok (.bipush 7, 2) := by decide +kernel
theorem d_Model_arrive_33 : decode prog_14_method_30_code 33 = .ok (.iadd, 1) := by decide +kernel
theorem d_Model_arrive_34 : decode prog_14_method_30_code 34 = .ok (.iaload, 1) := by decide +kernel
theorem d_Model_arrive_35 : decode prog_14_method_30_code 35 = .ok (.invokevirtual 139, 3) := by decide +kernel
theorem d_Model_arrive_38 : decode prog_14_method_30_code 38 = .ok (.istore_n 3, 1) := by decide +kernel
theorem d_Model_arrive_39 : decode prog_14_method_30_code 39 = .ok (.aload_n 0, 1) := by decide +kernel
theorem d_Model_arrive_40 : decode prog_14_method_30_code 40 = .ok (.getfield 118, 3) := by decide +kernel
theorem d_Model_arrive_43 : decode prog_14_method_30_code 43 = .ok (.iconst 1, 1) := by decide +kernel
theorem d_Model_arrive_44 : decode prog_14_method_30_code 44 = .ok (.if_icmp .ne 39, 3) := by decide +kernel
theorem d_Model_arrive_47 : decode prog_14_method_30_code 47 = .ok (.aload_n 0, 1) := by decide +kernel
theorem d_Model_arrive_48 : decode prog_14_method_30_code 48 = .ok (.getfield 71, 3) := by decide +kernel
theorem d_Model_arrive_51 : decode prog_14_method_30_code 51 = .ok (.iload_n 2, 1) := by decide +kernel
theorem d_Model_arrive_52 : decode prog_14_method_30_code 52 = .ok (.iaload, 1) := by decide +kernel
theorem d_Model_arrive_53 : decode prog_14_method_30_code 53 = .ok (.iconst 1, 1) := by decide +kernel
theorem d_Model_arrive_54 : decode prog_14_method_30_code 54 = .ok (.if_icmp .ne 22, 3) := by decide +kernel
theorem d_Model_arrive_57 : decode prog_14_method_30_code 57 = .ok (.aload_n 0, 1) := by decide +kernel
theorem d_Model_arrive_58 : decode prog_14_method_30_code 58 = .ok (.getfield 74, 3) := by decide +kernel
theorem d_Model_arrive_61 : decode prog_14_method_30_code 61 = .ok (.bipush 14, 2) := by decide +kernel
theorem d_Model_arrive_63 : decode prog_14_method_30_code 63 = .ok (.iload_n 2, 1) := by decide +kernel
theorem d_Model_arrive_64 : decode prog_14_method_30_code 64 = .ok (.imul, 1) := by decide +kernel
theorem d_Model_arrive_65 : decode prog_14_method_30_code 65 = .ok (.aload_n 0, 1) := by decide +kernel
theorem d_Model_arrive_66 : decode prog_14_method_30_code 66 = .ok (.getfield 65, 3) := by decide +kernel
theorem d_Model_arrive_69 : decode prog_14_method_30_code 69 = .ok (.bipush 7, 2) := by decide +kernel
theorem d_Model_arrive_71 : decode prog_14_method_30_code 71 = .ok (.iload_n 3, 1) := by decide +kernel
theorem d_Model_arrive_72 : decode prog_14_method_30_code 72 = .ok (.imul, 1) := by decide +kernel
theorem d_Model_arrive_73 : decode prog_14_method_30_code 73 = .ok (.invokestatic 128, 3) := by decide +kernel
theorem d_Model_arrive_76 : decode prog_14_method_30_code 76 = .ok (.aload_n 0, 1) := by decide +kernel
theorem d_Model_arrive_77 : decode prog_14_method_30_code 77 = .ok (.getfield 71, 3) := by decide +kernel
theorem d_Model_arrive_80 : decode prog_14_method_30_code 80 = .ok (.iload_n 2, 1) := by decide +kernel
theorem d_Model_arrive_81 : decode prog_14_method_30_code 81 = .ok (.iconst 0, 1) := by decide +kernel
theorem d_Model_arrive_82 : decode prog_14_method_30_code 82 = .ok (.iastore, 1) := by decide +kernel
theorem d_Model_arrive_83 : decode prog_14_method_30_code 83 = .ok (.return_, 1) := by decide +kernel
abbrev M_Model_depart : q_M := (⟨"LensPathsModel", "depart", "(II)V"⟩, prog_14_method_31_code, 5, none, "LensPathsModel", [], false, 2, 46)
theorem d_Model_depart_0 : decode prog_14_method_31_code 0 = .ok (.aload_n 0, 1) := by decide +kernel
theorem d_Model_depart_1 : decode prog_14_method_31_code 1 = .ok (.iload_n 1, 1) := by decide +kernel
theorem d_Model_depart_2 : decode prog_14_method_31_code 2 = .ok (.invokevirtual 111, 3) := by decide +kernel
theorem d_Model_depart_5 : decode prog_14_method_31_code 5 = .ok (.istore_n 3, 1) := by decide +kernel
theorem d_Model_depart_6 : decode prog_14_method_31_code 6 = .ok (.aload_n 0, 1) := by decide +kernel
theorem d_Model_depart_7 : decode prog_14_method_31_code 7 = .ok (.getfield 118, 3) := by decide +kernel
theorem d_Model_depart_10 : decode prog_14_method_31_code 10 = .ok (.iconst 1, 1) := by decide +kernel
theorem d_Model_depart_11 : decode prog_14_method_31_code 11 = .ok (.if_icmp .ne 92, 3) := by decide +kernel
theorem d_Model_depart_14 : decode prog_14_method_31_code 14 = .ok (.aload_n 0, 1) := by decide +kernel
theorem d_Model_depart_15 : decode prog_14_method_31_code 15 = .ok (.getfield 71, 3) := by decide +kernel
theorem d_Model_depart_18 : decode prog_14_method_31_code 18 = .ok (.iload_n 2, 1) := by decide +kernel
theorem d_Model_depart_19 : decode prog_14_method_31_code 19 = .ok (.iconst 0, 1) := by decide +kernel
theorem d_Model_depart_20 : decode prog_14_method_31_code 20 = .ok (.iastore, 1) := by decide +kernel
theorem d_Model_depart_21 : decode prog_14_method_31_code 21 = .ok (.aload_n 0, 1) := by decide +kernel
theorem d_Model_depart_22 : decode prog_14_method_31_code 22 = .ok (.getfield 56, 3) := by decide +kernel
theorem d_Model_depart_25 : decode prog_14_method_31_code 25 = .ok (.iload_n 3, 1) := by decide +kernel
theorem d_Model_depart_26 : decode prog_14_method_31_code 26 = .ok (.iaload, 1) := by decide +kernel
theorem d_Model_depart_27 : decode prog_14_method_31_code 27 = .ok (.iconst 2, 1) := by decide +kernel
theorem d_Model_depart_28 : decode prog_14_method_31_code 28 = .ok (.if_icmp .eq 57, 3) := by decide +kernel
theorem d_Model_depart_31 : decode prog_14_method_31_code 31 = .ok (.aload_n 0, 1) := by decide +kernel
theorem d_Model_depart_32 : decode prog_14_method_31_code 32 = .ok (.getfield 56, 3) := by decide +kernel
theorem d_Model_depart_35 : decode prog_14_method_31_code 35 = .ok (.iload_n 3, 1) := by decide +kernel
theorem d_Model_depart_36 : decode prog_14_method_31_code 36 = .ok (.iaload, 1) := by decide +kernel
theorem d_Model_depart_37 : decode prog_14_method_31_code 37 = .ok (.iconst 1, 1) := by decide +kernel
theorem d_Model_depart_38 : decode prog_14_method_31_code 38 = .ok (.if_icmp .ne 18, 3) := by decide +kernel
theorem d_Model_depart_41 : decode prog_14_method_31_code 41 = .ok (.aload_n 0, 1) := by decide +kernel
theorem d_Model_depart_42 : decode prog_14_method_31_code 42 = .ok (.getfield 65, 3) := by decide +kernel
theorem d_Model_depart_45 : decode prog_14_method_31_code 45 = .ok (.bipush 7, 2) := by decide +kernel
theorem d_Model_depart_47 : decode prog_14_method_31_code 47 = .ok (.iload_n 3, 1) := by decide +kernel
theorem d_Model_depart_48 : decode prog_14_method_31_code 48 = .ok (.imul, 1) := by decide +kernel
theorem d_Model_depart_49 : decode prog_14_method_31_code 49 = .ok (.iaload, 1) := by decide +kernel
theorem d_Model_depart_50 : decode prog_14_method_31_code 50 = .ok (.ifCond .ne 39, 3) := by decide +kernel
theorem d_Model_depart_53 : decode prog_14_method_31_code 53 = .ok (.goto 32, 3) := by decide +kernel
theorem d_Model_depart_56 : decode prog_14_method_31_code 56 = .ok (.aload_n 0, 1) := by decide +kernel
theorem d_Model_depart_57 : decode prog_14_method_31_code 57 = .ok (.getfield 65, 3) := by decide +kernel
theorem d_Model_depart_60 : decode prog_14_method_31_code 60 = .ok (.bipush 7, 2) := by decide +kernel
theorem d_Model_depart_62 : decode prog_14_method_31_code 62 = .ok (.iload_n 3, 1) := by decide +kernel
theorem d_Model_depart_63 : decode prog_14_method_31_code 63 = .ok (.imul, 1) := by decide +kernel
theorem d_Model_depart_64 : decode prog_14_method_31_code 64 = .ok (.iconst 1, 1) := by decide +kernel
theorem d_Model_depart_65 : decode prog_14_method_31_code 65 = .ok (.iadd, 1) := by decide +kernel
theorem d_Model_depart_66 : decode prog_14_method_31_code 66 = .ok (.iaload, 1) := by decide +kernel
theorem d_Model_depart_67 : decode prog_14_method_31_code 67 = .ok (.aload_n 0, 1) := by decide +kernel
theorem d_Model_depart_68 : decode prog_14_method_31_code 68 = .ok (.getfield 59, 3) := by decide +kernel
theorem d_Model_depart_71 : decode prog_14_method_31_code 71 = .ok (.iload_n 3, 1) := by decide +kernel
theorem d_Model_depart_72 : decode prog_14_method_31_code 72 = .ok (.iaload, 1) := by decide +kernel
theorem d_Model_depart_73 : decode prog_14_method_31_code 73 = .ok (.aload_n 0, 1) := by decide +kernel
theorem d_Model_depart_74 : decode prog_14_method_31_code 74 = .ok (.getfield 62, 3) := by decide +kernel
theorem d_Model_depart_77 : decode prog_14_method_31_code 77 = .ok (.iload_n 3, 1) := by decide +kernel
theorem d_Model_depart_78 : decode prog_14_method_31_code 78 = .ok (.iaload, 1) := by decide +kernel
theorem d_Model_depart_79 : decode prog_14_method_31_code 79 = .ok (.invokestatic 115, 3) := by decide +kernel
theorem d_Model_depart_82 : decode prog_14_method_31_code 82 = .ok (.if_icmp .ne 7, 3) := by decide +kernel
theorem d_Model_depart_85 : decode prog_14_method_31_code 85 = .ok (.iconst 1, 1) := by decide +kernel
theorem d_Model_depart_86 : decode prog_14_method_31_code 86 = .ok (.goto 4, 3) := by decide +kernel
theorem d_Model_depart_89 : decode prog_14_method_31_code 89 = .ok (.iconst 0, 1) := by decide +kernel
theorem d_Model_depart_90 : decode prog_14_method_31_code 90 = .ok (.istore 4, 2) := by decide +kernel
theorem d_Model_depart_92 : decode prog_14_method_31_code 92 = .ok (.iload 4, 2) := by decide +kernel
theorem d_Model_depart_94 : decode prog_14_method_31_code 94 = .ok (.ifCond .ne 9, 3) := by decide +kernel
theorem d_Model_depart_97 : decode prog_14_method_31_code 97 = .ok (.aload_n 0, 1) := by decide +kernel
theorem d_Model_depart_98 : decode prog_14_method_31_code 98 = .ok (.iload_n 2, 1) := by decide +kernel
theorem d_Model_depart_99 : decode prog_14_method_31_code 99 = .ok (.iload_n 3, 1) := by decide +kernel
theorem d_Model_depart_100 : decode prog_14_method_31_code 100 = .ok (.invokevirtual 200, 3) := by decide +kernel
theorem d_Model_depart_103 : decode prog_14_method_31_code 103 = .ok (.aload_n 0, 1) := by decide +kernel
theorem d_Model_depart_104 : decode prog_14_method_31_code 104 = .ok (.iload_n 3, 1) := by decide +kernel
theorem d_Model_depart_105 : decode prog_14_method_31_code 105 = .ok (.invokevirtual 203, 3) := by decide +kernel
theorem d_Model_depart_108 : decode prog_14_method_31_code 108 = .ok (.return_, 1) := by decide +kernel
abbrev M_Model_split : q_M := (⟨"LensPathsModel", "split", "(IIII)V"⟩, prog_14_method_36_code, 10, none, "LensPathsModel", [], false, 3, 75)
theorem d_Model_split_0 : decode prog_14_method_36_code 0 = .ok (.aload_n 0, 1) := by decide +kernel
theorem d_Model_split_1 : decode prog_14_method_36_code 1 = .ok (.getfield 65, 3) := by decide +kernel
theorem d_Model_split_4 : decode prog_14_method_36_code 4 = .ok (.bipush 7, 2) := by decide +kernel
theorem d_Model_split_6 : decode prog_14_method_36_code 6 = .ok (.iload_n 1, 1) := by decide +kernel
theorem d_Model_split_7 : decode prog_14_method_36_code 7 = .ok (.imul, 1) := by decide +kernel
theorem d_Model_split_8 : decode prog_14_method_36_code 8 = .ok (.iconst 1, 1) := by decide +kernel
theorem d_Model_split_9 : decode prog_14_method_36_code 9 = .ok (.iadd, 1) := by decide +kernel
theorem d_Model_split_10 : decode prog_14_method_36_code 10 = .ok (.iaload, 1) := by decide +kernel
theorem d_Model_split_11 : decode prog_14_method_36_code 11 = .ok (.istore 5, 2) := by decide +kernel
theorem d_Model_split_13 : decode prog_14_method_36_code 13 = .ok (.aload_n 0, 1) := by decide +kernel
theorem d_Model_split_14 : decode prog_14_method_36_code 14 = .ok (.getfield 68, 3) := by decide +kernel
theorem d_Model_split_17 : decode prog_14_method_36_code 17 = .ok (.iload_n 1, 1) := by decide +kernel
theorem d_Model_split_18 : decode prog_14_method_36_code 18 = .ok (.iaload, 1) := by decide +kernel
theorem d_Model_split_19 : decode prog_14_method_36_code 19 = .ok (.istore 6, 2) := by decide +kernel
theorem d_Model_split_21 : decode prog_14_method_36_code 21 = .ok (.aload_n 0, 1) := by decide +kernel
theorem d_Model_split_22 : decode prog_14_method_36_code 22 = .ok (.getfield 59, 3) := by decide +kernel
theorem d_Model_split_25 : decode prog_14_method_36_code 25 = .ok (.iload_n 1, 1) := by decide +kernel
theorem d_Model_split_26 : decode prog_14_method_36_code 26 = .ok (.aload_n 0, 1) := by decide +kernel
theorem d_Model_split_27 : decode prog_14_method_36_code 27 = .ok (.getfield 59, 3) := by decide +kernel
theorem d_Model_split_30 : decode prog_14_method_36_code 30 = .ok (.iload_n 1, 1) := by decide +kernel
theorem d_Model_split_31 : decode prog_14_method_36_code 31 = .ok (.iaload, 1) := by decide +kernel
theorem d_Model_split_32 : decode prog_14_method_36_code 32 = .ok (.i2l, 1) := by decide +kernel
theorem d_Model_split_33 : decode prog_14_method_36_code 33 = .ok (.iload_n 3, 1) := by decide +kernel
theorem d_Model_split_34 : decode prog_14_method_36_code 34 = .ok (.i2l, 1) := by decide +kernel
theorem d_Model_split_35 : decode prog_14_method_36_code 35 = .ok (.invokestatic 184, 3) := by decide +kernel
theorem d_Model_split_38 : decode prog_14_method_36_code 38 = .ok (.l2i, 1) := by decide +kernel
theorem d_Model_split_39 : decode prog_14_method_36_code 39 = .ok (.iastore, 1) := by decide +kernel
theorem d_Model_split_40 : decode prog_14_method_36_code 40 = .ok (.aload_n 0, 1) := by decide +kernel
theorem d_Model_split_41 : decode prog_14_method_36_code 41 = .ok (.getfield 62, 3) := by decide +kernel
theorem d_Model_split_44 : decode prog_14_method_36_code 44 = .ok (.iload_n 1, 1) := by decide +kernel
theorem d_Model_split_45 : decode prog_14_method_36_code 45 = .ok (.aload_n 0, 1) := by decide +kernel
theorem d_Model_split_46 : decode prog_14_method_36_code 46 = .ok (.getfield 62, 3) := by decide +kernel
theorem d_Model_split_49 : decode prog_14_method_36_code 49 = .ok (.iload_n 1, 1) := by decide +kernel
theorem d_Model_split_50 : decode prog_14_method_36_code 50 = .ok (.iaload, 1) := by decide +kernel
theorem d_Model_split_51 : decode prog_14_method_36_code 51 = .ok (.i2l, 1) := by decide +kernel
theorem d_Model_split_52 : decode prog_14_method_36_code 52 = .ok (.iload_n 3, 1) := by decide +kernel
theorem d_Model_split_53 : decode prog_14_method_36_code 53 = .ok (.i2l, 1) := by decide +kernel
theorem d_Model_split_54 : decode prog_14_method_36_code 54 = .ok (.invokestatic 184, 3) := by decide +kernel
theorem d_Model_split_57 : decode prog_14_method_36_code 57 = .ok (.l2i, 1) := by decide +kernel
theorem d_Model_split_58 : decode prog_14_method_36_code 58 = .ok (.iastore, 1) := by decide +kernel
theorem d_Model_split_59 : decode prog_14_method_36_code 59 = .ok (.aload_n 0, 1) := by decide +kernel
theorem d_Model_split_60 : decode prog_14_method_36_code 60 = .ok (.iload_n 2, 1) := by decide +kernel
theorem d_Model_split_61 : decode prog_14_method_36_code 61 = .ok (.iload 4, 2) := by decide +kernel
theorem d_Model_split_63 : decode prog_14_method_36_code 63 = .ok (.invokestatic 194, 3) := by decide +kernel
theorem d_Model_split_66 : decode prog_14_method_36_code 66 = .ok (.iconst 0, 1) := by decide +kernel
theorem d_Model_split_67 : decode prog_14_method_36_code 67 = .ok (.iconst 0, 1) := by decide +kernel
theorem d_Model_split_68 : decode prog_14_method_36_code 68 = .ok (.iload_n 3, 1) := by decide +kernel
theorem d_Model_split_69 : decode prog_14_method_36_code 69 = .ok (.iconst 1, 1) := by decide +kernel
theorem d_Model_split_70 : decode prog_14_method_36_code 70 = .ok (.isub, 1) := by decide +kernel
theorem d_Model_split_71 : decode prog_14_method_36_code 71 = .ok (.invokevirtual 139, 3) := by decide +kernel
theorem d_Model_split_74 : decode prog_14_method_36_code 74 = .ok (.istore 7, 2) := by decide +kernel
theorem d_Model_split_76 : decode prog_14_method_36_code 76 = .ok (.aload_n 0, 1) := by decide +kernel
theorem d_Model_split_77 : decode prog_14_method_36_code 77 = .ok (.getfield 118, 3) := by decide +kernel
theorem d_Model_split_80 : decode prog_14_method_36_code 80 = .ok (.iconst 1, 1) := by decide +kernel
theorem d_Model_split_81 : decode prog_14_method_36_code 81 = .ok (.if_icmp .ne 51, 3) := by decide +kernel
theorem d_Model_split_84 : decode prog_14_method_36_code 84 = .ok (.aload_n 0, 1) := by decide +kernel
theorem d_Model_split_85 : decode prog_14_method_36_code 85 = .ok (.getfield 65, 3) := by decide +kernel
theorem d_Model_split_88 : decode prog_14_method_36_code 88 = .ok (.bipush 7, 2) := by decide +kernel
theorem d_Model_split_90 : decode prog_14_method_36_code 90 = .ok (.iload_n 1, 1) := by decide +kernel
theorem d_Model_split_91 : decode prog_14_method_36_code 91 = .ok (.imul, 1) := by decide +kernel
theorem d_Model_split_92 : decode prog_14_method_36_code 92 = .ok (.iconst 1, 1) := by decide +kernel
theorem d_Model_split_93 : decode prog_14_method_36_code 93 = .ok (.iadd, 1) := by decide +kernel
theorem d_Model_split_94 : decode prog_14_method_36_code 94 = .ok (.iload 5, 2) := by decide +kernel
theorem d_Model_split_96 : decode prog_14_method_36_code 96 = .ok (.i2l, 1) := by decide +kernel
theorem d_Model_split_97 : decode prog_14_method_36_code 97 = .ok (.iload_n 3, 1) := by decide +kernel
theorem d_Model_split_98 : decode prog_14_method_36_code 98 = .ok (.i2l, 1) := by decide +kernel
theorem d_Model_split_99 : decode prog_14_method_36_code 99 = .ok (.invokestatic 184, 3) := by decide +kernel
theorem d_Model_split_102 : decode prog_14_method_36_code 102 = .ok (.l2i, 1) := by decide +kernel
theorem d_Model_split_103 : decode prog_14_method_36_code 103 = .ok (.iastore, 1) := by decide +kernel
theorem d_Model_split_104 : decode prog_14_method_36_code 104 = .ok (.aload_n 0, 1) := by decide +kernel
theorem d_Model_split_105 : decode prog_14_method_36_code 105 = .ok (.getfield 65, 3) := by decide +kernel
theorem d_Model_split_108 : decode prog_14_method_36_code 108 = .ok (.bipush 7, 2) := by decide +kernel
theorem d_Model_split_110 : decode prog_14_method_36_code 110 = .ok (.iload 7, 2) := by decide +kernel
theorem d_Model_split_112 : decode prog_14_method_36_code 112 = .ok (.imul, 1) := by decide +kernel
theorem d_Model_split_113 : decode prog_14_method_36_code 113 = .ok (.iconst 1, 1) := by decide +kernel
theorem d_Model_split_114 : decode prog_14_method_36_code 114 = .ok (.iadd, 1) := by decide +kernel
theorem d_Model_split_115 : decode prog_14_method_36_code 115 = .ok (.iload 5, 2) := by decide +kernel
theorem d_Model_split_117 : decode prog_14_method_36_code 117 = .ok (.i2l, 1) := by decide +kernel
theorem d_Model_split_118 : decode prog_14_method_36_code 118 = .ok (.iload_n 3, 1) := by decide +kernel
theorem d_Model_split_119 : decode prog_14_method_36_code 119 = .ok (.i2l, 1) := by decide +kernel
theorem d_Model_split_120 : decode prog_14_method_36_code 120 = .ok (.iload 5, 2) := by decide +kernel
theorem d_Model_split_122 : decode prog_14_method_36_code 122 = .ok (.i2l, 1) := by decide +kernel
theorem d_Model_split_123 : decode prog_14_method_36_code 123 = .ok (.iload_n 3, 1) := by decide +kernel
theorem d_Model_split_124 : decode prog_14_method_36_code 124 = .ok (.i2l, 1) := by decide +kernel
theorem d_Model_split_125 : decode prog_14_method_36_code 125 = .ok (.invokestatic 184, 3) := by decide +kernel
theorem d_Model_split_128 : decode prog_14_method_36_code 128 = .ok (.lmul, 1) := by decide +kernel
theorem d_Model_split_129 : decode prog_14_method_36_code 129 = .ok (.lsub, 1) := by decide +kernel
theorem d_Model_split_130 : decode prog_14_method_36_code 130 = .ok (.l2i, 1) := by decide +kernel
theorem d_Model_split_131 : decode prog_14_method_36_code 131 = .ok (.iastore, 1) := by decide +kernel
theorem d_Model_split_132 : decode prog_14_method_36_code 132 = .ok (.aload_n 0, 1) := by decide +kernel
theorem d_Model_split_133 : decode prog_14_method_36_code 133 = .ok (.getfield 118, 3) := by decide +kernel
theorem d_Model_split_136 : decode prog_14_method_36_code 136 = .ok (.iconst 2, 1) := by decide +kernel
theorem d_Model_split_137 : decode prog_14_method_36_code 137 = .ok (.if_icmp .eq 4, 3) := by decide +kernel
theorem d_Model_split_140 : decode prog_14_method_36_code 140 = .ok (.return_, 1) := by decide +kernel
theorem d_Model_split_141 : decode prog_14_method_36_code 141 = .ok (.aload_n 0, 1) := by decide +kernel
theorem d_Model_split_142 : decode prog_14_method_36_code 142 = .ok (.iload 6, 2) := by decide +kernel
theorem d_Model_split_144 : decode prog_14_method_36_code 144 = .ok (.invokevirtual 210, 3) := by decide +kernel
theorem d_Model_split_147 : decode prog_14_method_36_code 147 = .ok (.ifCond .eq 59, 3) := by decide +kernel
theorem d_Model_split_150 : decode prog_14_method_36_code 150 = .ok (.aload_n 0, 1) := by decide +kernel
theorem d_Model_split_151 : decode prog_14_method_36_code 151 = .ok (.iload 6, 2) := by decide +kernel
theorem d_Model_split_153 : decode prog_14_method_36_code 153 = .ok (.iconst 0, 1) := by decide +kernel
theorem d_Model_split_154 : decode prog_14_method_36_code 154 = .ok (.invokevirtual 207, 3) := by decide +kernel
theorem d_Model_split_157 : decode prog_14_method_36_code 157 = .ok (.i2l, 1) := by decide +kernel
theorem d_Model_split_158 : decode prog_14_method_36_code 158 = .ok (.lstore 8, 2) := by decide +kernel
theorem d_Model_split_160 : decode prog_14_method_36_code 160 = .ok (.aload_n 0, 1) := by decide +kernel
theorem d_Model_split_161 : decode prog_14_method_36_code 161 = .ok (.getfield 68, 3) := by decide +kernel
theorem d_Model_split_164 : decode prog_14_method_36_code 164 = .ok (.iload_n 1, 1) := by decide +kernel
theorem d_Model_split_165 : decode prog_14_method_36_code 165 = .ok (.aload_n 0, 1) := by decide +kernel
theorem d_Model_split_166 : decode prog_14_method_36_code 166 = .ok (.lload 8, 2) := by decide +kernel
theorem d_Model_split_168 : decode prog_14_method_36_code 168 = .ok (.iload_n 3, 1) := by decide +kernel
theorem d_Model_split_169 : decode prog_14_method_36_code 169 = .ok (.i2l, 1) := by decide +kernel
theorem d_Model_split_170 : decode prog_14_method_36_code 170 = .ok (.invokestatic 184, 3) := by decide +kernel
theorem d_Model_split_173 : decode prog_14_method_36_code 173 = .ok (.l2i, 1) := by decide +kernel
theorem d_Model_split_174 : decode prog_14_method_36_code 174 = .ok (.invokevirtual 121, 3) := by decide +kernel
theorem d_Model_split_177 : decode prog_14_method_36_code 177 = .ok (.iastore, 1) := by decide +kernel
theorem d_Model_split_178 : decode prog_14_method_36_code 178 = .ok (.aload_n 0, 1) := by decide +kernel
theorem d_Model_split_179 : decode prog_14_method_36_code 179 = .ok (.getfield 68, 3) := by decide +kernel
theorem d_Model_split_182 : decode prog_14_method_36_code 182 = .ok (.iload 7, 2) := by decide +kernel
theorem d_Model_split_184 : decode prog_14_method_36_code 184 = .ok (.aload_n 0, 1) := by decide +kernel
theorem d_Model_split_185 : decode prog_14_method_36_code 185 = .ok (.lload 8, 2) := by decide +kernel
theorem d_Model_split_187 : decode prog_14_method_36_code 187 = .ok (.iload_n 3, 1) := by decide +kernel
theorem d_Model_split_188 : decode prog_14_method_36_code 188 = .ok (.i2l, 1) := by decide +kernel
theorem d_Model_split_189 : decode prog_14_method_36_code 189 = .ok (.lload 8, 2) := by decide +kernel
theorem d_Model_split_191 : decode prog_14_method_36_code 191 = .ok (.iload_n 3, 1) := by decide +kernel
theorem d_Model_split_192 : decode prog_14_method_36_code 192 = .ok (.i2l, 1) := by decide +kernel
theorem d_Model_split_193 : decode prog_14_method_36_code 193 = .ok (.invokestatic 184, 3) := by decide +kernel
theorem d_Model_split_196 : decode prog_14_method_36_code 196 = .ok (.lmul, 1) := by decide +kernel
theorem d_Model_split_197 : decode prog_14_method_36_code 197 = .ok (.lsub, 1) := by decide +kernel
theorem d_Model_split_198 : decode prog_14_method_36_code 198 = .ok (.l2i, 1) := by decide +kernel
theorem d_Model_split_199 : decode prog_14_method_36_code 199 = .ok (.invokevirtual 121, 3) := by decide +kernel
theorem d_Model_split_202 : decode prog_14_method_36_code 202 = .ok (.iastore, 1) := by decide +kernel
theorem d_Model_split_203 : decode prog_14_method_36_code 203 = .ok (.goto 92, 3) := by decide +kernel
theorem d_Model_split_206 : decode prog_14_method_36_code 206 = .ok (.aload_n 0, 1) := by decide +kernel
theorem d_Model_split_207 : decode prog_14_method_36_code 207 = .ok (.getfield 77, 3) := by decide +kernel
theorem d_Model_split_210 : decode prog_14_method_36_code 210 = .ok (.iload 6, 2) := by decide +kernel
theorem d_Model_split_212 : decode prog_14_method_36_code 212 = .ok (.iaload, 1) := by decide +kernel
theorem d_Model_split_213 : decode prog_14_method_36_code 213 = .ok (.bipush 7, 2) := by decide +kernel
theorem d_Model_split_215 : decode prog_14_method_36_code 215 = .ok (.if_icmp .ne 44, 3) := by decide +kernel
theorem d_Model_split_218 : decode prog_14_method_36_code 218 = .ok (.aload_n 0, 1) := by decide +kernel
theorem d_Model_split_219 : decode prog_14_method_36_code 219 = .ok (.iload 6, 2) := by decide +kernel
theorem d_Model_split_221 : decode prog_14_method_36_code 221 = .ok (.iconst 2, 1) := by decide +kernel
theorem d_Model_split_222 : decode prog_14_method_36_code 222 = .ok (.invokevirtual 207, 3) := by decide +kernel
theorem d_Model_split_225 : decode prog_14_method_36_code 225 = .ok (.iload_n 3, 1) := by decide +kernel
theorem d_Model_split_226 : decode prog_14_method_36_code 226 = .ok (.if_icmp .ne 33, 3) := by decide +kernel
theorem d_Model_split_229 : decode prog_14_method_36_code 229 = .ok (.aload_n 0, 1) := by decide +kernel
theorem d_Model_split_230 : decode prog_14_method_36_code 230 = .ok (.getfield 68, 3) := by decide +kernel
theorem d_Model_split_233 : decode prog_14_method_36_code 233 = .ok (.iload_n 1, 1) := by decide +kernel
theorem d_Model_split_234 : decode prog_14_method_36_code 234 = .ok (.aload_n 0, 1) := by decide +kernel
theorem d_Model_split_235 : decode prog_14_method_36_code 235 = .ok (.iload 6, 2) := by decide +kernel
theorem d_Model_split_237 : decode prog_14_method_36_code 237 = .ok (.iconst 0, 1) := by decide +kernel
theorem d_Model_split_238 : decode prog_14_method_36_code 238 = .ok (.invokevirtual 207, 3) := by decide +kernel
theorem d_Model_split_241 : decode prog_14_method_36_code 241 = .ok (.iastore, 1) := by decide +kernel
theorem d_Model_split_242 : decode prog_14_method_36_code 242 = .ok (.aload_n 0, 1) := by decide +kernel
theorem d_Model_split_243 : decode prog_14_method_36_code 243 = .ok (.getfield 68, 3) := by decide +kernel
theorem d_Model_split_246 : decode prog_14_method_36_code 246 = .ok (.iload 7, 2) := by decide +kernel
theorem d_Model_split_248 : decode prog_14_method_36_code 248 = .ok (.aload_n 0, 1) := by decide +kernel
theorem d_Model_split_249 : decode prog_14_method_36_code 249 = .ok (.iload 6, 2) := by decide +kernel
theorem d_Model_split_251 : decode prog_14_method_36_code 251 = .ok (.iconst 1, 1) := by decide +kernel
theorem d_Model_split_252 : decode prog_14_method_36_code 252 = .ok (.invokevirtual 207, 3) := by decide +kernel
theorem d_Model_split_255 : decode prog_14_method_36_code 255 = .ok (.iastore, 1) := by decide +kernel
theorem d_Model_split_256 : decode prog_14_method_36_code 256 = .ok (.goto 39, 3) := by decide +kernel
theorem d_Model_split_259 : decode prog_14_method_36_code 259 = .ok (.aload_n 0, 1) := by decide +kernel
theorem d_Model_split_260 : decode prog_14_method_36_code 260 = .ok (.getfield 68, 3) := by decide +kernel
theorem d_Model_split_263 : decode prog_14_method_36_code 263 = .ok (.iload_n 1, 1) := by decide +kernel
theorem d_Model_split_264 : decode prog_14_method_36_code 264 = .ok (.aload_n 0, 1) := by decide +kernel
theorem d_Model_split_265 : decode prog_14_method_36_code 265 = .ok (.iconst 5, 1) := by decide +kernel
theorem d_Model_split_266 : decode prog_14_method_36_code 266 = .ok (.iload 6, 2) := by decide +kernel
theorem d_Model_split_268 : decode prog_14_method_36_code 268 = .ok (.iload_n 3, 1) := by decide +kernel
theorem d_Model_split_269 : decode prog_14_method_36_code 269 = .ok (.iconst 0, 1) := by decide +kernel
theorem d_Model_split_270 : decode prog_14_method_36_code 270 = .ok (.iconst 0, 1) := by decide +kernel
theorem d_Model_split_271 : decode prog_14_method_36_code 271 = .ok (.iconst 0, 1) := by decide +kernel
theorem d_Model_split_272 : decode prog_14_method_36_code 272 = .ok (.invokevirtual 124, 3) := by decide +kernel
theorem d_Model_split_275 : decode prog_14_method_36_code 275 = .ok (.iastore, 1) := by decide +kernel
theorem d_Model_split_276 : decode prog_14_method_36_code 276 = .ok (.aload_n 0, 1) := by decide +kernel
theorem d_Model_split_277 : decode prog_14_method_36_code 277 = .ok (.getfield 68, 3) := by decide +kernel
theorem d_Model_split_280 : decode prog_14_method_36_code 280 = .ok (.iload 7, 2) := by decide +kernel
theorem d_Model_split_282 : decode prog_14_method_36_code 282 = .ok (.aload_n 0, 1) := by decide +kernel
theorem d_Model_split_283 : decode prog_14_method_36_code 283 = .ok (.bipush 6, 2) := by decide +kernel
theorem d_Model_split_285 : decode prog_14_method_36_code 285 = .ok (.iload 6, 2) := by decide +kernel
theorem d_Model_split_287 : decode prog_14_method_36_code 287 = .ok (.iload_n 3, 1) := by decide +kernel
theorem d_Model_split_288 : decode prog_14_method_36_code 288 = .ok (.iconst 0, 1) := by decide +kernel
theorem d_Model_split_289 : decode prog_14_method_36_code 289 = .ok (.iconst 0, 1) := by decide +kernel
theorem d_Model_split_290 : decode prog_14_method_36_code 290 = .ok (.iconst 0, 1) := by decide +kernel
theorem d_Model_split_291 : decode prog_14_method_36_code 291 = .ok (.invokevirtual 124, 3) := by decide +kernel
theorem d_Model_split_294 : decode prog_14_method_36_code 294 = .ok (.iastore, 1) := by decide +kernel
theorem d_Model_split_295 : decode prog_14_method_36_code 295 = .ok (.return_, 1) := by decide +kernel
abbrev M_Model_change : q_M := (⟨"LensPathsModel", "change", "(IIIIZII)V"⟩, prog_14_method_39_code, 10, none, "LensPathsModel", [], false, 3, 78)
theorem d_Model_change_0 : decode prog_14_method_39_code 0 = .ok (.aload_n 0, 1) := by decide +kernel
theorem d_Model_change_1 : decode prog_14_method_39_code 1 = .ok (.getfield 118, 3) := by decide +kernel
theorem d_Model_change_4 : decode prog_14_method_39_code 4 = .ok (.iconst 2, 1) := by decide +kernel
theorem d_Model_change_5 : decode prog_14_method_39_code 5 = .ok (.if_icmp .ne 45, 3) := by decide +kernel
theorem d_Model_change_8 : decode prog_14_method_39_code 8 = .ok (.aload_n 0, 1) := by decide +kernel
theorem d_Model_change_9 : decode prog_14_method_39_code 9 = .ok (.getfield 68, 3) := by decide +kernel
theorem d_Model_change_12 : decode prog_14_method_39_code 12 = .ok (.iload_n 1, 1) := by decide +kernel
theorem d_Model_change_13 : decode prog_14_method_39_code 13 = .ok (.aload_n 0, 1) := by decide +kernel
theorem d_Model_change_14 : decode prog_14_method_39_code 14 = .ok (.aload_n 0, 1) := by decide +kernel
theorem d_Model_change_15 : decode prog_14_method_39_code 15 = .ok (.getfield 68, 3) := by decide +kernel
theorem d_Model_change_18 : decode prog_14_method_39_code 18 = .ok (.iload_n 1, 1) := by decide +kernel
theorem d_Model_change_19 : decode prog_14_method_39_code 19 = .ok (.iaload, 1) := by decide +kernel
theorem d_Model_change_20 : decode prog_14_method_39_code 20 = .ok (.iload_n 2, 1) := by decide +kernel
theorem d_Model_change_21 : decode prog_14_method_39_code 21 = .ok (.iload_n 3, 1) := by decide +kernel
theorem d_Model_change_22 : decode prog_14_method_39_code 22 = .ok (.iload 4, 2) := by decide +kernel
theorem d_Model_change_24 : decode prog_14_method_39_code 24 = .ok (.iload 5, 2) := by decide +kernel
theorem d_Model_change_26 : decode prog_14_method_39_code 26 = .ok (.aload_n 0, 1) := by decide +kernel
theorem d_Model_change_27 : decode prog_14_method_39_code 27 = .ok (.getfield 38, 3) := by decide +kernel
theorem d_Model_change_30 : decode prog_14_method_39_code 30 = .ok (.iload 7, 2) := by decide +kernel
theorem d_Model_change_32 : decode prog_14_method_39_code 32 = .ok (.bipush 6, 2) := by decide +kernel
theorem d_Model_change_34 : decode prog_14_method_39_code 34 = .ok (.iadd, 1) := by decide +kernel
theorem d_Model_change_35 : decode prog_14_method_39_code 35 = .ok (.iaload, 1) := by decide +kernel
theorem d_Model_change_36 : decode prog_14_method_39_code 36 = .ok (.aload_n 0, 1) := by decide +kernel
theorem d_Model_change_37 : decode prog_14_method_39_code 37 = .ok (.getfield 38, 3) := by decide +kernel
theorem d_Model_change_40 : decode prog_14_method_39_code 40 = .ok (.iload 7, 2) := by decide +kernel
theorem d_Model_change_42 : decode prog_14_method_39_code 42 = .ok (.bipush 7, 2) := by decide +kernel
theorem d_Model_change_44 : decode prog_14_method_39_code 44 = .ok (.iadd, 1) := by decide +kernel
theorem d_Model_change_45 : decode prog_14_method_39_code 45 = .ok (.iaload, 1) := by decide +kernel
theorem d_Model_change_46 : decode prog_14_method_39_code 46 = .ok (.invokevirtual 222, 3) := by decide +kernel
theorem d_Model_change_49 : decode prog_14_method_39_code 49 = .ok (.iastore, 1) := by decide +kernel
theorem d_Model_change_50 : decode prog_14_method_39_code 50 = .ok (.aload_n 0, 1) := by decide +kernel
theorem d_Model_change_51 : decode prog_14_method_39_code 51 = .ok (.getfield 118, 3) := by decide +kernel
theorem d_Model_change_54 : decode prog_14_method_39_code 54 = .ok (.iconst 1, 1) := by decide +kernel
theorem d_Model_change_55 : decode prog_14_method_39_code 55 = .ok (.if_icmp .eq 4, 3) := by decide +kernel
theorem d_Model_change_58 : decode prog_14_method_39_code 58 = .ok (.return_, 1) := by decide +kernel
theorem d_Model_change_59 : decode prog_14_method_39_code 59 = .ok (.aload_n 0, 1) := by decide +kernel
theorem d_Model_change_60 : decode prog_14_method_39_code 60 = .ok (.getfield 71, 3) := by decide +kernel
theorem d_Model_change_63 : decode prog_14_method_39_code 63 = .ok (.iload 6, 2) := by decide +kernel
theorem d_Model_change_65 : decode prog_14_method_39_code 65 = .ok (.iaload, 1) := by decide +kernel
theorem d_Model_change_66 : decode prog_14_method_39_code 66 = .ok (.istore 8, 2) := by decide +kernel
theorem d_Model_change_68 : decode prog_14_method_39_code 68 = .ok (.bipush 14, 2) := by decide +kernel
theorem d_Model_change_70 : decode prog_14_method_39_code 70 = .ok (.iload 6, 2) := by decide +kernel
theorem d_Model_change_72 : decode prog_14_method_39_code 72 = .ok (.imul, 1) := by decide +kernel
theorem d_Model_change_73 : decode prog_14_method_39_code 73 = .ok (.istore 9, 2) := by decide +kernel
theorem d_Model_change_75 : decode prog_14_method_39_code 75 = .ok (.aload_n 0, 1) := by decide +kernel
theorem d_Model_change_76 : decode prog_14_method_39_code 76 = .ok (.getfield 71, 3) := by decide +kernel
theorem d_Model_change_79 : decode prog_14_method_39_code 79 = .ok (.iload 6, 2) := by decide +kernel
theorem d_Model_change_81 : decode prog_14_method_39_code 81 = .ok (.iconst 0, 1) := by decide +kernel
theorem d_Model_change_82 : decode prog_14_method_39_code 82 = .ok (.iastore, 1) := by decide +kernel
theorem d_Model_change_83 : decode prog_14_method_39_code 83 = .ok (.iload 8, 2) := by decide +kernel
theorem d_Model_change_85 : decode prog_14_method_39_code 85 = .ok (.iload 5, 2) := by decide +kernel
theorem d_Model_change_87 : decode prog_14_method_39_code 87 = .ok (.ifCond .eq 7, 3) := by decide +kernel
theorem d_Model_change_90 : decode prog_14_method_39_code 90 = .ok (.iconst 3, 1) := by decide +kernel
theorem d_Model_change_91 : decode prog_14_method_39_code 91 = .ok (.goto 4, 3) := by decide +kernel
theorem d_Model_change_94 : decode prog_14_method_39_code 94 = .ok (.iconst 2, 1) := by decide +kernel
theorem d_Model_change_95 : decode prog_14_method_39_code 95 = .ok (.if_icmp .ne 44, 3) := by decide +kernel
theorem d_Model_change_98 : decode prog_14_method_39_code 98 = .ok (.aload_n 0, 1) := by decide +kernel
theorem d_Model_change_99 : decode prog_14_method_39_code 99 = .ok (.getfield 65, 3) := by decide +kernel
theorem d_Model_change_102 : decode prog_14_method_39_code 102 = .ok (.bipush 7, 2) := by decide +kernel
theorem d_Model_change_104 : decode prog_14_method_39_code 104 = .ok (.iload_n 1, 1) := by decide +kernel
theorem d_Model_change_105 : decode prog_14_method_39_code 105 = .ok (.imul, 1) := by decide +kernel
theorem d_Model_change_106 : decode prog_14_method_39_code 106 = .ok (.aload_n 0, 1) := by decide +kernel
theorem d_Model_change_107 : decode prog_14_method_39_code 107 = .ok (.getfield 74, 3) := by decide +kernel
theorem d_Model_change_110 : decode prog_14_method_39_code 110 = .ok (.iload 9, 2) := by decide +kernel
theorem d_Model_change_112 : decode prog_14_method_39_code 112 = .ok (.bipush 7, 2) := by decide +kernel
theorem d_Model_change_114 : decode prog_14_method_39_code 114 = .ok (.iadd, 1) := by decide +kernel
theorem d_Model_change_115 : decode prog_14_method_39_code 115 = .ok (.invokestatic 226, 3) := by decide +kernel
theorem d_Model_change_118 : decode prog_14_method_39_code 118 = .ok (.ifCond .eq 21, 3) := by decide +kernel
theorem d_Model_change_121 : decode prog_14_method_39_code 121 = .ok (.aload_n 0, 1) := by decide +kernel
theorem d_Model_change_122 : decode prog_14_method_39_code 122 = .ok (.getfield 74, 3) := by decide +kernel
theorem d_Model_change_125 : decode prog_14_method_39_code 125 = .ok (.iload 9, 2) := by decide +kernel
theorem d_Model_change_127 : decode prog_14_method_39_code 127 = .ok (.aload_n 0, 1) := by decide +kernel
theorem d_Model_change_128 : decode prog_14_method_39_code 128 = .ok (.getfield 65, 3) := by decide +kernel
theorem d_Model_change_131 : decode prog_14_method_39_code 131 = .ok (.bipush 7, 2) := by decide +kernel
theorem d_Model_change_133 : decode prog_14_method_39_code 133 = .ok (.iload_n 1, 1) := by decide +kernel
theorem d_Model_change_134 : decode prog_14_method_39_code 134 = .ok (.imul, 1) := by decide +kernel
theorem d_Model_change_135 : decode prog_14_method_39_code 135 = .ok (.invokestatic 128, 3) := by decide +kernel
theorem d_Model_change_138 : decode prog_14_method_39_code 138 = .ok (.return_, 1) := by decide +kernel
theorem d_Model_change_139 : decode prog_14_method_39_code 139 = .ok (.aload_n 0, 1) := by decide +kernel
theorem d_Model_change_140 : decode prog_14_method_39_code 140 = .ok (.getfield 65, 3) := by decide +kernel
theorem d_Model_change_143 : decode prog_14_method_39_code 143 = .ok (.bipush 7, 2) := by decide +kernel
theorem d_Model_change_145 : decode prog_14_method_39_code 145 = .ok (.iload_n 1, 1) := by decide +kernel
theorem d_Model_change_146 : decode prog_14_method_39_code 146 = .ok (.imul, 1) := by decide +kernel
theorem d_Model_change_147 : decode prog_14_method_39_code 147 = .ok (.iload_n 2, 1) := by decide +kernel
theorem d_Model_change_148 : decode prog_14_method_39_code 148 = .ok (.iload_n 3, 1) := by decide +kernel
theorem d_Model_change_149 : decode prog_14_method_39_code 149 = .ok (.iload 4, 2) := by decide +kernel
theorem d_Model_change_151 : decode prog_14_method_39_code 151 = .ok (.iload 5, 2) := by decide +kernel
theorem d_Model_change_153 : decode prog_14_method_39_code 153 = .ok (.aload_n 0, 1) := by decide +kernel
theorem d_Model_change_154 : decode prog_14_method_39_code 154 = .ok (.getfield 38, 3) := by decide +kernel
theorem d_Model_change_157 : decode prog_14_method_39_code 157 = .ok (.iload 7, 2) := by decide +kernel
theorem d_Model_change_159 : decode prog_14_method_39_code 159 = .ok (.bipush 6, 2) := by decide +kernel
theorem d_Model_change_161 : decode prog_14_method_39_code 161 = .ok (.iadd, 1) := by decide +kernel
theorem d_Model_change_162 : decode prog_14_method_39_code 162 = .ok (.iaload, 1) := by decide +kernel
theorem d_Model_change_163 : decode prog_14_method_39_code 163 = .ok (.aload_n 0, 1) := by decide +kernel
theorem d_Model_change_164 : decode prog_14_method_39_code 164 = .ok (.getfield 38, 3) := by decide +kernel
theorem d_Model_change_167 : decode prog_14_method_39_code 167 = .ok (.iload 7, 2) := by decide +kernel
theorem d_Model_change_169 : decode prog_14_method_39_code 169 = .ok (.bipush 7, 2) := by decide +kernel
theorem d_Model_change_171 : decode prog_14_method_39_code 171 = .ok (.iadd, 1) := by decide +kernel
theorem d_Model_change_172 : decode prog_14_method_39_code 172 = .ok (.iaload, 1) := by decide +kernel
theorem d_Model_change_173 : decode prog_14_method_39_code 173 = .ok (.aload_n 0, 1) := by decide +kernel
theorem d_Model_change_174 : decode prog_14_method_39_code 174 = .ok (.getfield 95, 3) := by decide +kernel
theorem d_Model_change_177 : decode prog_14_method_39_code 177 = .ok (.invokestatic 230, 3) := by decide +kernel
theorem d_Model_change_180 : decode prog_14_method_39_code 180 = .ok (.aload_n 0, 1) := by decide +kernel
theorem d_Model_change_181 : decode prog_14_method_39_code 181 = .ok (.getfield 95, 3) := by decide +kernel
theorem d_Model_change_184 : decode prog_14_method_39_code 184 = .ok (.iconst 0, 1) := by decide +kernel
theorem d_Model_change_185 : decode prog_14_method_39_code 185 = .ok (.iload_n 2, 1) := by decide +kernel
theorem d_Model_change_186 : decode prog_14_method_39_code 186 = .ok (.iload_n 3, 1) := by decide +kernel
theorem d_Model_change_187 : decode prog_14_method_39_code 187 = .ok (.iload 4, 2) := by decide +kernel
theorem d_Model_change_189 : decode prog_14_method_39_code 189 = .ok (.iload 5, 2) := by decide +kernel
theorem d_Model_change_191 : decode prog_14_method_39_code 191 = .ok (.ifCond .ne 7, 3) := by decide +kernel
theorem d_Model_change_194 : decode prog_14_method_39_code 194 = .ok (.iconst 1, 1) := by decide +kernel
theorem d_Model_change_195 : decode prog_14_method_39_code 195 = .ok (.goto 4, 3) := by decide +kernel
theorem d_Model_change_198 : decode prog_14_method_39_code 198 = .ok (.iconst 0, 1) := by decide +kernel
theorem d_Model_change_199 : decode prog_14_method_39_code 199 = .ok (.aload_n 0, 1) := by decide +kernel
theorem d_Model_change_200 : decode prog_14_method_39_code 200 = .ok (.getfield 38, 3) := by decide +kernel
theorem d_Model_change_203 : decode prog_14_method_39_code 203 = .ok (.iload 7, 2) := by decide +kernel
theorem d_Model_change_205 : decode prog_14_method_39_code 205 = .ok (.bipush 6, 2) := by decide +kernel
theorem d_Model_change_207 : decode prog_14_method_39_code 207 = .ok (.iadd, 1) := by decide +kernel
theorem d_Model_change_208 : decode prog_14_method_39_code 208 = .ok (.iaload, 1) := by decide +kernel
theorem d_Model_change_209 : decode prog_14_method_39_code 209 = .ok (.aload_n 0, 1) := by decide +kernel
theorem d_Model_change_210 : decode prog_14_method_39_code 210 = .ok (.getfield 38, 3) := by decide +kernel
theorem d_Model_change_213 : decode prog_14_method_39_code 213 = .ok (.iload 7, 2) := by decide +kernel
theorem d_Model_change_215 : decode prog_14_method_39_code 215 = .ok (.bipush 7, 2) := by decide +kernel
theorem d_Model_change_217 : decode prog_14_method_39_code 217 = .ok (.iadd, 1) := by decide +kernel
theorem d_Model_change_218 : decode prog_14_method_39_code 218 = .ok (.iaload, 1) := by decide +kernel
theorem d_Model_change_219 : decode prog_14_method_39_code 219 = .ok (.aload_n 0, 1) := by decide +kernel
theorem d_Model_change_220 : decode prog_14_method_39_code 220 = .ok (.getfield 98, 3) := by decide +kernel
theorem d_Model_change_223 : decode prog_14_method_39_code 223 = .ok (.invokestatic 230, 3) := by decide +kernel
theorem d_Model_change_226 : decode prog_14_method_39_code 226 = .ok (.aload_n 0, 1) := by decide +kernel
theorem d_Model_change_227 : decode prog_14_method_39_code 227 = .ok (.getfield 98, 3) := by decide +kernel
theorem d_Model_change_230 : decode prog_14_method_39_code 230 = .ok (.iconst 0, 1) := by decide +kernel
theorem d_Model_change_231 : decode prog_14_method_39_code 231 = .ok (.aload_n 0, 1) := by decide +kernel
theorem d_Model_change_232 : decode prog_14_method_39_code 232 = .ok (.getfield 65, 3) := by decide +kernel
theorem d_Model_change_235 : decode prog_14_method_39_code 235 = .ok (.bipush 7, 2) := by decide +kernel
theorem d_Model_change_237 : decode prog_14_method_39_code 237 = .ok (.iload_n 1, 1) := by decide +kernel
theorem d_Model_change_238 : decode prog_14_method_39_code 238 = .ok (.imul, 1) := by decide +kernel
theorem d_Model_change_239 : decode prog_14_method_39_code 239 = .ok (.invokestatic 226, 3) := by decide +kernel
theorem d_Model_change_242 : decode prog_14_method_39_code 242 = .ok (.ifCond .ne 54, 3) := by decide +kernel
theorem d_Model_change_245 : decode prog_14_method_39_code 245 = .ok (.aload_n 0, 1) := by decide +kernel
theorem d_Model_change_246 : decode prog_14_method_39_code 246 = .ok (.getfield 71, 3) := by decide +kernel
theorem d_Model_change_249 : decode prog_14_method_39_code 249 = .ok (.iload 6, 2) := by decide +kernel
theorem d_Model_change_251 : decode prog_14_method_39_code 251 = .ok (.iload 5, 2) := by decide +kernel
theorem d_Model_change_253 : decode prog_14_method_39_code 253 = .ok (.ifCond .eq 7, 3) := by decide +kernel
theorem d_Model_change_256 : decode prog_14_method_39_code 256 = .ok (.iconst 2, 1) := by decide +kernel
theorem d_Model_change_257 : decode prog_14_method_39_code 257 = .ok (.goto 4, 3) := by decide +kernel
theorem d_Model_change_260 : decode prog_14_method_39_code 260 = .ok (.iconst 3, 1) := by decide +kernel
theorem d_Model_change_261 : decode prog_14_method_39_code 261 = .ok (.iastore, 1) := by decide +kernel
theorem d_Model_change_262 : decode prog_14_method_39_code 262 = .ok (.aload_n 0, 1) := by decide +kernel
theorem d_Model_change_263 : decode prog_14_method_39_code 263 = .ok (.getfield 65, 3) := by decide +kernel
theorem d_Model_change_266 : decode prog_14_method_39_code 266 = .ok (.bipush 7, 2) := by decide +kernel
theorem d_Model_change_268 : decode prog_14_method_39_code 268 = .ok (.iload_n 1, 1) := by decide +kernel
theorem d_Model_change_269 : decode prog_14_method_39_code 269 = .ok (.imul, 1) := by decide +kernel
theorem d_Model_change_270 : decode prog_14_method_39_code 270 = .ok (.aload_n 0, 1) := by decide +kernel
theorem d_Model_change_271 : decode prog_14_method_39_code 271 = .ok (.getfield 74, 3) := by decide +kernel
theorem d_Model_change_274 : decode prog_14_method_39_code 274 = .ok (.iload 9, 2) := by decide +kernel
theorem d_Model_change_276 : decode prog_14_method_39_code 276 = .ok (.invokestatic 128, 3) := by decide +kernel
theorem d_Model_change_279 : decode prog_14_method_39_code 279 = .ok (.aload_n 0, 1) := by decide +kernel
theorem d_Model_change_280 : decode prog_14_method_39_code 280 = .ok (.getfield 95, 3) := by decide +kernel
theorem d_Model_change_283 : decode prog_14_method_39_code 283 = .ok (.iconst 0, 1) := by decide +kernel
theorem d_Model_change_284 : decode prog_14_method_39_code 284 = .ok (.aload_n 0, 1) := by decide +kernel
theorem d_Model_change_285 : decode prog_14_method_39_code 285 = .ok (.getfield 74, 3) := by decide +kernel
theorem d_Model_change_288 : decode prog_14_method_39_code 288 = .ok (.iload 9, 2) := by decide +kernel
theorem d_Model_change_290 : decode prog_14_method_39_code 290 = .ok (.bipush 7, 2) := by decide +kernel
theorem d_Model_change_292 : decode prog_14_method_39_code 292 = .ok (.iadd, 1) := by decide +kernel
theorem d_Model_change_293 : decode prog_14_method_39_code 293 = .ok (.invokestatic 128, 3) := by decide +kernel
theorem d_Model_change_296 : decode prog_14_method_39_code 296 = .ok (.aload_n 0, 1) := by decide +kernel
theorem d_Model_change_297 : decode prog_14_method_39_code 297 = .ok (.getfield 95, 3) := by decide +kernel
theorem d_Model_change_300 : decode prog_14_method_39_code 300 = .ok (.iconst 0, 1) := by decide +kernel
theorem d_Model_change_301 : decode prog_14_method_39_code 301 = .ok (.aload_n 0, 1) := by decide +kernel
theorem d_Model_change_302 : decode prog_14_method_39_code 302 = .ok (.getfield 65, 3) := by decide +kernel
theorem d_Model_change_305 : decode prog_14_method_39_code 305 = .ok (.bipush 7, 2) := by decide +kernel
theorem d_Model_change_307 : decode prog_14_method_39_code 307 = .ok (.iload_n 1, 1) := by decide +kernel
theorem d_Model_change_308 : decode prog_14_method_39_code 308 = .ok (.imul, 1) := by decide +kernel
theorem d_Model_change_309 : decode prog_14_method_39_code 309 = .ok (.invokestatic 128, 3) := by decide +kernel
theorem d_Model_change_312 : decode prog_14_method_39_code 312 = .ok (.return_, 1) := by decide +kernel
abbrev M_Model_forth : q_M := (⟨"LensPathsModel", "forth", "(II)V"⟩, prog_14_method_28_code, 10, none, "LensPathsModel", [], false, 4, 107)
theorem d_Model_forth_0 : decode prog_14_method_28_code 0 = .ok (.aload_n 0, 1) := by decide +kernel
theorem d_Model_forth_1 : decode prog_14_method_28_code 1 = .ok (.iload_n 1, 1) := by decide +kernel
theorem d_Model_forth_2 : decode prog_14_method_28_code 2 = .ok (.iload_n 2, 1) := by decide +kernel
theorem d_Model_forth_3 : decode prog_14_method_28_code 3 = .ok (.invokevirtual 157, 3) := by decide +kernel
theorem d_Model_forth_6 : decode prog_14_method_28_code 6 = .ok (.istore_n 3, 1) := by decide +kernel
theorem d_Model_forth_7 : decode prog_14_method_28_code 7 = .ok (.aload_n 0, 1) := by decide +kernel
theorem d_Model_forth_8 : decode prog_14_method_28_code 8 = .ok (.getfield 38, 3) := by decide +kernel
theorem d_Model_forth_11 : decode prog_14_method_28_code 11 = .ok (.iload_n 3, 1) := by decide +kernel
theorem d_Model_forth_12 : decode prog_14_method_28_code 12 = .ok (.iaload, 1) := by decide +kernel
theorem d_Model_forth_13 : decode prog_14_method_28_code 13 = .ok (.istore 4, 2) := by decide +kernel
theorem d_Model_forth_15 : decode prog_14_method_28_code 15 = .ok (.aload_n 0, 1) := by decide +kernel
theorem d_Model_forth_16 : decode prog_14_method_28_code 16 = .ok (.getfield 38, 3) := by decide +kernel
theorem d_Model_forth_19 : decode prog_14_method_28_code 19 = .ok (.iload_n 3, 1) := by decide +kernel
theorem d_Model_forth_20 : decode prog_14_method_28_code 20 = .ok (.iconst 1, 1) := by decide +kernel
theorem d_Model_forth_21 : decode prog_14_method_28_code 21 = .ok (.iadd, 1) := by decide +kernel
theorem d_Model_forth_22 : decode prog_14_method_28_code 22 = .ok (.iaload, 1) := by decide +kernel
theorem d_Model_forth_23 : decode prog_14_method_28_code 23 = .ok (.istore 5, 2) := by decide +kernel
theorem d_Model_forth_25 : decode prog_14_method_28_code 25 = .ok (.aload_n 0, 1) := by decide +kernel
theorem d_Model_forth_26 : decode prog_14_method_28_code 26 = .ok (.getfield 38, 3) := by decide +kernel
theorem d_Model_forth_29 : decode prog_14_method_28_code 29 = .ok (.iload_n 3, 1) := by decide +kernel
theorem d_Model_forth_30 : decode prog_14_method_28_code 30 = .ok (.iconst 2, 1) := by decide +kernel
theorem d_Model_forth_31 : decode prog_14_method_28_code 31 = .ok (.iadd, 1) := by decide +kernel
theorem d_Model_forth_32 : decode prog_14_method_28_code 32 = .ok (.iaload, 1) := by decide +kernel
theorem d_Model_forth_33 : decode prog_14_method_28_code 33 = .ok (.istore 6, 2) := by decide +kernel
theorem d_Model_forth_35 : decode prog_14_method_28_code 35 = .ok (.aload_n 0, 1) := by decide +kernel
theorem d_Model_forth_36 : decode prog_14_method_28_code 36 = .ok (.getfield 38, 3) := by decide +kernel
theorem d_Model_forth_39 : decode prog_14_method_28_code 39 = .ok (.iload_n 3, 1) := by decide +kernel
theorem d_Model_forth_40 : decode prog_14_method_28_code 40 = .ok (.iconst 3, 1) := by decide +kernel
theorem d_Model_forth_41 : decode prog_14_method_28_code 41 = .ok (.iadd, 1) := by decide +kernel
theorem d_Model_forth_42 : decode prog_14_method_28_code 42 = .ok (.iaload, 1) := by decide +kernel
theorem d_Model_forth_43 : decode prog_14_method_28_code 43 = .ok (.istore 7, 2) := by decide +kernel
theorem d_Model_forth_45 : decode prog_14_method_28_code 45 = .ok (.bipush 8, 2) := by decide +kernel
theorem d_Model_forth_47 : decode prog_14_method_28_code 47 = .ok (.iload_n 1, 1) := by decide +kernel
theorem d_Model_forth_48 : decode prog_14_method_28_code 48 = .ok (.imul, 1) := by decide +kernel
theorem d_Model_forth_49 : decode prog_14_method_28_code 49 = .ok (.iload_n 2, 1) := by decide +kernel
theorem d_Model_forth_50 : decode prog_14_method_28_code 50 = .ok (.iadd, 1) := by decide +kernel
theorem d_Model_forth_51 : decode prog_14_method_28_code 51 = .ok (.istore 8, 2) := by decide +kernel
theorem d_Model_forth_53 : decode prog_14_method_28_code 53 = .ok (.aload_n 0, 1) := by decide +kernel
theorem d_Model_forth_54 : decode prog_14_method_28_code 54 = .ok (.iload 5, 2) := by decide +kernel
theorem d_Model_forth_56 : decode prog_14_method_28_code 56 = .ok (.invokevirtual 111, 3) := by decide +kernel
theorem d_Model_forth_59 : decode prog_14_method_28_code 59 = .ok (.istore 9, 2) := by decide +kernel
theorem d_Model_forth_61 : decode prog_14_method_28_code 61 = .ok (.iload 4, 2) := by decide +kernel
theorem d_Model_forth_63 : decode prog_14_method_28_code 63 = .ok (.tableswitch 229 0 6 #[41, 60, 70, 81, 41, 143, 158], 41) := by decide +kernel
theorem d_Model_forth_104 : decode prog_14_method_28_code 104 = .ok (.aload_n 0, 1) := by decide +kernel
theorem d_Model_forth_105 : decode prog_14_method_28_code 105 = .ok (.iload 5, 2) := by decide +kernel
theorem d_Model_forth_107 : decode prog_14_method_28_code 107 = .ok (.aload_n 0, 1) := by decide +kernel
theorem d_Model_forth_108 : decode prog_14_method_28_code 108 = .ok (.iload 4, 2) := by decide +kernel
theorem d_Model_forth_110 : decode prog_14_method_28_code 110 = .ok (.iload 5, 2) := by decide +kernel
theorem d_Model_forth_112 : decode prog_14_method_28_code 112 = .ok (.iload 6, 2) := by decide +kernel
theorem d_Model_forth_114 : decode prog_14_method_28_code 114 = .ok (.invokevirtual 160, 3) := by decide +kernel
theorem d_Model_forth_117 : decode prog_14_method_28_code 117 = .ok (.invokevirtual 163, 3) := by decide +kernel
theorem d_Model_forth_120 : decode prog_14_method_28_code 120 = .ok (.goto 188, 3) := by decide +kernel
theorem d_Model_forth_123 : decode prog_14_method_28_code 123 = .ok (.aload_n 0, 1) := by decide +kernel
theorem d_Model_forth_124 : decode prog_14_method_28_code 124 = .ok (.iload_n 3, 1) := by decide +kernel
theorem d_Model_forth_125 : decode prog_14_method_28_code 125 = .ok (.iload 8, 2) := by decide +kernel
theorem d_Model_forth_127 : decode prog_14_method_28_code 127 = .ok (.invokevirtual 167, 3) := by decide +kernel
theorem d_Model_forth_130 : decode prog_14_method_28_code 130 = .ok (.goto 178, 3) := by decide +kernel
theorem d_Model_forth_133 : decode prog_14_method_28_code 133 = .ok (.aload_n 0, 1) := by decide +kernel
theorem d_Model_forth_134 : decode prog_14_method_28_code 134 = .ok (.iload 5, 2) := by decide +kernel
theorem d_Model_forth_136 : decode prog_14_method_28_code 136 = .ok (.iload 8, 2) := by decide +kernel
theorem d_Model_forth_138 : decode prog_14_method_28_code 138 = .ok (.invokevirtual 170, 3) := by decide +kernel
theorem d_Model_forth_141 : decode prog_14_method_28_code 141 = .ok (.goto 167, 3) := by decide +kernel
theorem d_Model_forth_144 : decode prog_14_method_28_code 144 = .ok (.aload_n 0, 1) := by decide +kernel
theorem d_Model_forth_145 : decode prog_14_method_28_code 145 = .ok (.getfield 56, 3) := by decide +kernel
theorem d_Model_forth_148 : decode prog_14_method_28_code 148 = .ok (.iload 9, 2) := by decide +kernel
theorem d_Model_forth_150 : decode prog_14_method_28_code 150 = .ok (.iconst 1, 1) := by decide +kernel
theorem d_Model_forth_151 : decode prog_14_method_28_code 151 = .ok (.iastore, 1) := by decide +kernel
theorem d_Model_forth_152 : decode prog_14_method_28_code 152 = .ok (.aload_n 0, 1) := by decide +kernel
theorem d_Model_forth_153 : decode prog_14_method_28_code 153 = .ok (.getfield 118, 3) := by decide +kernel
theorem d_Model_forth_156 : decode prog_14_method_28_code 156 = .ok (.iconst 1, 1) := by decide +kernel
theorem d_Model_forth_157 : decode prog_14_method_28_code 157 = .ok (.if_icmp .ne 11, 3) := by decide +kernel
theorem d_Model_forth_160 : decode prog_14_method_28_code 160 = .ok (.aload_n 0, 1) := by decide +kernel
theorem d_Model_forth_161 : decode prog_14_method_28_code 161 = .ok (.iload 9, 2) := by decide +kernel
theorem d_Model_forth_163 : decode prog_14_method_28_code 163 = .ok (.iload 8, 2) := by decide +kernel
theorem d_Model_forth_165 : decode prog_14_method_28_code 165 = .ok (.invokevirtual 173, 3) := by decide +kernel
theorem d_Model_forth_168 : decode prog_14_method_28_code 168 = .ok (.aload_n 0, 1) := by decide +kernel
theorem d_Model_forth_169 : decode prog_14_method_28_code 169 = .ok (.getfield 68, 3) := by decide +kernel
theorem d_Model_forth_172 : decode prog_14_method_28_code 172 = .ok (.iload 9, 2) := by decide +kernel
theorem d_Model_forth_174 : decode prog_14_method_28_code 174 = .ok (.aload_n 0, 1) := by decide +kernel
theorem d_Model_forth_175 : decode prog_14_method_28_code 175 = .ok (.getfield 118, 3) := by decide +kernel
theorem d_Model_forth_178 : decode prog_14_method_28_code 178 = .ok (.iconst 2, 1) := by decide +kernel
theorem d_Model_forth_179 : decode prog_14_method_28_code 179 = .ok (.if_icmp .ne 22, 3) := by decide +kernel
theorem d_Model_forth_182 : decode prog_14_method_28_code 182 = .ok (.aload_n 0, 1) := by decide +kernel
theorem d_Model_forth_183 : decode prog_14_method_28_code 183 = .ok (.iconst 3, 1) := by decide +kernel
theorem d_Model_forth_184 : decode prog_14_method_28_code 184 = .ok (.aload_n 0, 1) := by decide +kernel
theorem d_Model_forth_185 : decode prog_14_method_28_code 185 = .ok (.getfield 68, 3) := by decide +kernel
theorem d_Model_forth_188 : decode prog_14_method_28_code 188 = .ok (.iload 9, 2) := by decide +kernel
theorem d_Model_forth_190 : decode prog_14_method_28_code 190 = .ok (.iaload, 1) := by decide +kernel
theorem d_Model_forth_191 : decode prog_14_method_28_code 191 = .ok (.iconst 0, 1) := by decide +kernel
theorem d_Model_forth_192 : decode prog_14_method_28_code 192 = .ok (.iconst 0, 1) := by decide +kernel
theorem d_Model_forth_193 : decode prog_14_method_28_code 193 = .ok (.iconst 0, 1) := by decide +kernel
theorem d_Model_forth_194 : decode prog_14_method_28_code 194 = .ok (.iconst 0, 1) := by decide +kernel
theorem d_Model_forth_195 : decode prog_14_method_28_code 195 = .ok (.invokevirtual 124, 3) := by decide +kernel
theorem d_Model_forth_198 : decode prog_14_method_28_code 198 = .ok (.goto 4, 3) := by decide +kernel
theorem d_Model_forth_201 : decode prog_14_method_28_code 201 = .ok (.iconst 0, 1) := by decide +kernel
theorem d_Model_forth_202 : decode prog_14_method_28_code 202 = .ok (.iastore, 1) := by decide +kernel
theorem d_Model_forth_203 : decode prog_14_method_28_code 203 = .ok (.goto 105, 3) := by decide +kernel
theorem d_Model_forth_206 : decode prog_14_method_28_code 206 = .ok (.aload_n 0, 1) := by decide +kernel
theorem d_Model_forth_207 : decode prog_14_method_28_code 207 = .ok (.iload 9, 2) := by decide +kernel
theorem d_Model_forth_209 : decode prog_14_method_28_code 209 = .ok (.iload 5, 2) := by decide +kernel
theorem d_Model_forth_211 : decode prog_14_method_28_code 211 = .ok (.iload 6, 2) := by decide +kernel
theorem d_Model_forth_213 : decode prog_14_method_28_code 213 = .ok (.iload 7, 2) := by decide +kernel
theorem d_Model_forth_215 : decode prog_14_method_28_code 215 = .ok (.invokevirtual 176, 3) := by decide +kernel
theorem d_Model_forth_218 : decode prog_14_method_28_code 218 = .ok (.goto 90, 3) := by decide +kernel
theorem d_Model_forth_221 : decode prog_14_method_28_code 221 = .ok (.aload_n 0, 1) := by decide +kernel
theorem d_Model_forth_222 : decode prog_14_method_28_code 222 = .ok (.iload 9, 2) := by decide +kernel
theorem d_Model_forth_224 : decode prog_14_method_28_code 224 = .ok (.iload 4, 2) := by decide +kernel
theorem d_Model_forth_226 : decode prog_14_method_28_code 226 = .ok (.iload 6, 2) := by decide +kernel
theorem d_Model_forth_228 : decode prog_14_method_28_code 228 = .ok (.iload 7, 2) := by decide +kernel
theorem d_Model_forth_230 : decode prog_14_method_28_code 230 = .ok (.iconst 1, 1) := by decide +kernel
theorem d_Model_forth_231 : decode prog_14_method_28_code 231 = .ok (.iload 8, 2) := by decide +kernel
theorem d_Model_forth_233 : decode prog_14_method_28_code 233 = .ok (.iload_n 3, 1) := by decide +kernel
theorem d_Model_forth_234 : decode prog_14_method_28_code 234 = .ok (.invokevirtual 180, 3) := by decide +kernel
theorem d_Model_forth_237 : decode prog_14_method_28_code 237 = .ok (.aload_n 0, 1) := by decide +kernel
theorem d_Model_forth_238 : decode prog_14_method_28_code 238 = .ok (.getfield 59, 3) := by decide +kernel
theorem d_Model_forth_241 : decode prog_14_method_28_code 241 = .ok (.iload 9, 2) := by decide +kernel
theorem d_Model_forth_243 : decode prog_14_method_28_code 243 = .ok (.iload 6, 2) := by decide +kernel
theorem d_Model_forth_245 : decode prog_14_method_28_code 245 = .ok (.i2l, 1) := by decide +kernel
theorem d_Model_forth_246 : decode prog_14_method_28_code 246 = .ok (.aload_n 0, 1) := by decide +kernel
theorem d_Model_forth_247 : decode prog_14_method_28_code 247 = .ok (.getfield 59, 3) := by decide +kernel
theorem d_Model_forth_250 : decode prog_14_method_28_code 250 = .ok (.iload 9, 2) := by decide +kernel
theorem d_Model_forth_252 : decode prog_14_method_28_code 252 = .ok (.iaload, 1) := by decide +kernel
theorem d_Model_forth_253 : decode prog_14_method_28_code 253 = .ok (.i2l, 1) := by decide +kernel
theorem d_Model_forth_254 : decode prog_14_method_28_code 254 = .ok (.lmul, 1) := by decide +kernel
theorem d_Model_forth_255 : decode prog_14_method_28_code 255 = .ok (.iload 7, 2) := by decide +kernel
theorem d_Model_forth_257 : decode prog_14_method_28_code 257 = .ok (.i2l, 1) := by decide +kernel
theorem d_Model_forth_258 : decode prog_14_method_28_code 258 = .ok (.invokestatic 184, 3) := by decide +kernel
theorem d_Model_forth_261 : decode prog_14_method_28_code 261 = .ok (.l2i, 1) := by decide +kernel
theorem d_Model_forth_262 : decode prog_14_method_28_code 262 = .ok (.iastore, 1) := by decide +kernel
theorem d_Model_forth_263 : decode prog_14_method_28_code 263 = .ok (.aload_n 0, 1) := by decide +kernel
theorem d_Model_forth_264 : decode prog_14_method_28_code 264 = .ok (.getfield 62, 3) := by decide +kernel
theorem d_Model_forth_267 : decode prog_14_method_28_code 267 = .ok (.iload 9, 2) := by decide +kernel
theorem d_Model_forth_269 : decode prog_14_method_28_code 269 = .ok (.iload 6, 2) := by decide +kernel
theorem d_Model_forth_271 : decode prog_14_method_28_code 271 = .ok (.i2l, 1) := by decide +kernel
theorem d_Model_forth_272 : decode prog_14_method_28_code 272 = .ok (.aload_n 0, 1) := by decide +kernel
theorem d_Model_forth_273 : decode prog_14_method_28_code 273 = .ok (.getfield 62, 3) := by decide +kernel
theorem d_Model_forth_276 : decode prog_14_method_28_code 276 = .ok (.iload 9, 2) := by decide +kernel
theorem d_Model_forth_278 : decode prog_14_method_28_code 278 = .ok (.iaload, 1) := by decide +kernel
theorem d_Model_forth_279 : decode prog_14_method_28_code 279 = .ok (.i2l, 1) := by decide +kernel
theorem d_Model_forth_280 : decode prog_14_method_28_code 280 = .ok (.lmul, 1) := by decide +kernel
theorem d_Model_forth_281 : decode prog_14_method_28_code 281 = .ok (.iload 7, 2) := by decide +kernel
theorem d_Model_forth_283 : decode prog_14_method_28_code 283 = .ok (.i2l, 1) := by decide +kernel
theorem d_Model_forth_284 : decode prog_14_method_28_code 284 = .ok (.invokestatic 184, 3) := by decide +kernel
theorem d_Model_forth_287 : decode prog_14_method_28_code 287 = .ok (.l2i, 1) := by decide +kernel
theorem d_Model_forth_288 : decode prog_14_method_28_code 288 = .ok (.iastore, 1) := by decide +kernel
theorem d_Model_forth_289 : decode prog_14_method_28_code 289 = .ok (.goto 19, 3) := by decide +kernel
theorem d_Model_forth_292 : decode prog_14_method_28_code 292 = .ok (.aload_n 0, 1) := by decide +kernel
theorem d_Model_forth_293 : decode prog_14_method_28_code 293 = .ok (.iload 9, 2) := by decide +kernel
theorem d_Model_forth_295 : decode prog_14_method_28_code 295 = .ok (.iload 4, 2) := by decide +kernel
theorem d_Model_forth_297 : decode prog_14_method_28_code 297 = .ok (.iload 6, 2) := by decide +kernel
theorem d_Model_forth_299 : decode prog_14_method_28_code 299 = .ok (.iload 7, 2) := by decide +kernel
theorem d_Model_forth_301 : decode prog_14_method_28_code 301 = .ok (.iconst 1, 1) := by decide +kernel
theorem d_Model_forth_302 : decode prog_14_method_28_code 302 = .ok (.iload 8, 2) := by decide +kernel
theorem d_Model_forth_304 : decode prog_14_method_28_code 304 = .ok (.iload_n 3, 1) := by decide +kernel
theorem d_Model_forth_305 : decode prog_14_method_28_code 305 = .ok (.invokevirtual 180, 3) := by decide +kernel
theorem d_Model_forth_308 : decode prog_14_method_28_code 308 = .ok (.return_, 1) := by decide +kernel
abbrev M_Model_keepOne : q_M := (⟨"LensPathsModel", "keepOne", "(II)V"⟩, prog_14_method_32_code, 3, none, "LensPathsModel", [], false, 1, 24)
abbrev M_Model_wrap : q_M := (⟨"LensPathsModel", "wrap", "(II)V"⟩, prog_14_method_33_code, 4, none, "LensPathsModel", [], false, 1, 24)
abbrev M_Model_changed : q_M := (⟨"LensPathsModel", "changed", "(IIIIZII)I"⟩, prog_14_method_40_code, 10, (some .int), "LensPathsModel", [], false, 2, 49)
abbrev M_Model_plain : q_M := (⟨"LensPathsModel", "plain", "([IIIIIZII[I)V"⟩, prog_14_method_38_code, 12, none, "LensPathsModel", [], false, 1, 25)
section Forth0
variable {g : q_G} {sz m : Nat} {T : q_T} {I : q_I} {R : q_R} {J : q_J}
theorem k_mw.set {k : Nat} {M : List KF} {f f' : KF} {I2 : q_I} (h : k_mw m M I) (hf : M[k]? = some f) (h18 : I2 m (nI 18) = I m (nI 18)) (hk : I2 (m + 14) (nI k) = nI (k_path f'.1) ∧ I2 (m + 15) (nI k) = f'.2.1 ∧ I2 (m + 16) (nI k) = f'.2.2.1 ∧ I2 (m + 17) (nI k) = f'.2.2.2.1) (ho : ∀ j i, 14 ≤ j → j ≤ 17 → i < 26 → i ≠ k → I2 (m + j) (nI i) = I (m + j) (nI i)) : k_mw m (M.set k f') I2 := by
  have hkl := (List.getElem?_eq_some_iff.mp hf).1
  have h26 := h.2.1
  refine ⟨by rw [h18, List.length_set]; exact h.1, by rw [List.length_set]; exact h26, fun i e he => ?_⟩
  rw [List.getElem?_set] at he
  by_cases hik : k = i
  · rw [if_pos hik, if_pos hkl] at he
    cases he
    subst hik
    exact hk
  · rw [if_neg hik] at he
    have hi := (List.getElem?_eq_some_iff.mp he).1
    rw [ho 14 i (by omega) (by omega) (by omega) (fun z => hik z.symm), ho 15 i (by omega) (by omega) (by omega) (fun z => hik z.symm), ho 16 i (by omega) (by omega) (by omega) (fun z => hik z.symm), ho 17 i (by omega) (by omega) (by omega) (fun z => hik z.symm)]
    exact h.2.2 i e he
theorem k_mp.cong {q : Nat} {p : KP} {I2 : q_I} (h : k_mp m q p I) (hI : I2 (m + 9) = I (m + 9)) : k_mp m q p I2 := by
  unfold k_mp
  rw [hI]
  exact h
theorem c_Model_arrive0 {q s : Nat} {M : List KF} {p : KP} (hL : q_L 11 t_Model m T R) (hM : k_mw m M I) (hlt : M.length < 26) (hmd : I m (nI 27) = nI 0) (hp : k_mp m q p I) (hq : q + 7 < 1088) : q_Cv g M_Model_arrive [.ref m, .int (nI q), .int (nI s)] (sz, T, I, R, J) 0 0 (fun h' => ∃ I' : q_I, h' = (sz, T, I', R, J) ∧ m_wk m I I' ∧ k_mw m (M ++ [p.f]) I') := by
  obtain ⟨p0, p1, p2, p3, p5, p6, p7⟩ := hp
  refine q_C.of (ls0 := [some (.ref m), some (.int (nI q)), some (.int (nI s)), none]) (by decide) rfl (by decide) (Nat.le_of_ble_eq_true rfl) rfl ?_
  refine q_aload_n d_Model_arrive_0 rfl rfl ?_
  refine q_aload_n d_Model_arrive_1 rfl rfl ?_
  refine q_getR (ci := 11) (fk := 12) d_Model_arrive_2 rfl (Nat.le_of_ble_eq_true rfl) w_1116 (fun _ _ => rfl) hL.1 (hL.2 12 _ _ _ rfl).1 ?_
  refine q_iload_n d_Model_arrive_5 rfl rfl ?_
  refine q_iconst (v := nI 1) d_Model_arrive_6 (by decide) ?_
  first | refine q_iaddN d_Model_arrive_7 ?_ | refine q_iadd d_Model_arrive_7 ?_
  refine q_iald d_Model_arrive_8 (hL.2 12 _ _ _ rfl).2 (by first | assumption | exact vp_in_nI (by omega) (by omega)) ?_
  rw [p1]
  refine q_aload_n d_Model_arrive_9 rfl rfl ?_
  refine q_getR (ci := 11) (fk := 12) d_Model_arrive_10 rfl (Nat.le_of_ble_eq_true rfl) w_1116 (fun _ _ => rfl) hL.1 (hL.2 12 _ _ _ rfl).1 ?_
  refine q_iload_n d_Model_arrive_13 rfl rfl ?_
  refine q_iconst (v := nI 5) d_Model_arrive_14 (by decide) ?_
  first | refine q_iaddN d_Model_arrive_15 ?_ | refine q_iadd d_Model_arrive_15 ?_
  refine q_iald d_Model_arrive_16 (hL.2 12 _ _ _ rfl).2 (by first | assumption | exact vp_in_nI (by omega) (by omega)) ?_
  rw [p5]
  refine q_aload_n d_Model_arrive_17 rfl rfl ?_
  refine q_getR (ci := 11) (fk := 12) d_Model_arrive_18 rfl (Nat.le_of_ble_eq_true rfl) w_1116 (fun _ _ => rfl) hL.1 (hL.2 12 _ _ _ rfl).1 ?_
  refine q_iload_n d_Model_arrive_21 rfl rfl ?_
  refine q_bipush (v := nI 6) d_Model_arrive_22 (by decide) ?_
  first | refine q_iaddN d_Model_arrive_24 ?_ | refine q_iadd d_Model_arrive_24 ?_
  refine q_iald d_Model_arrive_25 (hL.2 12 _ _ _ rfl).2 (by first | assumption | exact vp_in_nI (by omega) (by omega)) ?_
  rw [p6]
  refine q_aload_n d_Model_arrive_26 rfl rfl ?_
  refine q_getR (ci := 11) (fk := 12) d_Model_arrive_27 rfl (Nat.le_of_ble_eq_true rfl) w_1116 (fun _ _ => rfl) hL.1 (hL.2 12 _ _ _ rfl).1 ?_
  refine q_iload_n d_Model_arrive_30 rfl rfl ?_
  refine q_bipush (v := nI 7) d_Model_arrive_31 (by decide) ?_
  first | refine q_iaddN d_Model_arrive_33 ?_ | refine q_iadd d_Model_arrive_33 ?_
  refine q_iald d_Model_arrive_34 (hL.2 12 _ _ _ rfl).2 (by first | assumption | exact vp_in_nI (by omega) (by omega)) ?_
  rw [p7]
  refine q_callVi (M2 := M_Model_come) d_Model_arrive_35 ⟨(Nat.le_of_ble_eq_true rfl), (Nat.le_of_ble_eq_true rfl), w_1237, w_10, ⟨by decide, by decide⟩, show _ = some 4 by decide +kernel⟩ w_1234 w_1236 (ci := 11) rfl s_48 hL.1 rfl (Nat.le_of_ble_eq_true rfl) (by omega) (by omega) (c_Model_come0 hL hM hlt (by rw [hmd]; decide) p.f) ?_
  rintro _ _ ⟨rfl, I1, rfl, k1, k2, -, -, -⟩
  refine q_istore_n d_Model_arrive_38 rfl (Nat.le_of_ble_eq_true rfl) (by first | exact q_ok0 | exact q_okI rfl | exact q_okR rfl | exact q_okN rfl) rfl ?_
  refine q_aload_n d_Model_arrive_39 rfl rfl ?_
  refine q_getI (ci := 11) (fk := 27) d_Model_arrive_40 rfl (Nat.le_of_ble_eq_true rfl) w_1131 (fun _ _ => rfl) hL.1 ?_
  rw [k1.2 _ (fun z => absurd (q_nI_inj z) (by decide)), hmd]
  refine q_iconst (v := nI 1) d_Model_arrive_43 (by decide) ?_
  refine q_icmp_ne (tgt := 83) d_Model_arrive_44 rfl (fun hc => ?_) (fun hc => ?_)
  · refine q_vret d_Model_arrive_83 rfl (by omega) (by omega) ?_
    exact ⟨rfl, I1, rfl, k1, k2⟩
  · exact absurd hc (by decide)
theorem k_goL_fil {M : List KF} {k : Nat} {f : KF} (hd : k_dis M) (hf : M[k]? = some f) : (k_goL M k).Perm (M.filter (fun e => decide (e.1 ≠ f.1))) := by
  have h1 := (k_goL_perm hf).filter (fun e => decide (e.1 ≠ f.1))
  rw [List.filter_cons_of_neg (by simp)] at h1
  refine List.Perm.trans ?_ h1
  have : (k_goL M k).filter (fun e => decide (e.1 ≠ f.1)) = k_goL M k := by
    refine List.filter_eq_self.mpr fun e he => ?_
    rw [decide_eq_true_iff]
    intro z
    have h3 : k_dis (f :: k_goL M k) := hd.perm (k_goL_perm hf)
    have h4 := (List.nodup_cons.mp (show (f.1 :: (k_goL M k).map (fun e : KF => e.1)).Nodup from h3)).1
    exact h4 (List.mem_map.mpr ⟨e, he, z⟩)
  rw [this]
theorem c_Model_depart0 {s : Nat} {M : List KF} {f : KF} (hL : q_L 11 t_Model m T R) (hM : k_mw m M I) (hok : k_okf M) (hd : k_dis M) (hmd : I m (nI 27) = nI 0) (hf : f ∈ M) : q_Cv g M_Model_depart [.ref m, .int (nI (k_path f.1)), .int (nI s)] (sz, T, I, R, J) 0 0 (fun h' => ∃ (I' : q_I) (M' : List KF), h' = (sz, T, I', R, J) ∧ m_wk m I I' ∧ k_mw m M' I' ∧ M'.Perm (M.filter (fun e => decide (e.1 ≠ f.1)))) := by
  obtain ⟨k, hk⟩ := List.mem_iff_getElem?.mp hf
  have hkl := (List.getElem?_eq_some_iff.mp hk).1
  refine q_C.of (ls0 := [some (.ref m), some (.int (nI (k_path f.1))), some (.int (nI s)), none, none]) (by decide) rfl (by decide) (Nat.le_of_ble_eq_true rfl) rfl ?_
  refine q_aload_n d_Model_depart_0 rfl rfl ?_
  refine q_iload_n d_Model_depart_1 rfl rfl ?_
  refine q_callVi (M2 := M_Model_find) d_Model_depart_2 ⟨(Nat.le_of_ble_eq_true rfl), (Nat.le_of_ble_eq_true rfl), w_1266, w_10, ⟨by decide, by decide⟩, show _ = some 1 by decide +kernel⟩ w_1263 w_1265 (ci := 11) rfl s_53 hL.1 rfl (Nat.le_of_ble_eq_true rfl) (by omega) (by omega) (c_Model_findF hL hM hok _) ?_
  rintro _ _ ⟨rfl, rfl⟩
  rw [k_of_path (hok f hf).1, show k_fo M (some f.1) = k_fi M f.1 from rfl, k_fi_at hd hk, show p_idx (some k) = nI k from rfl]
  refine q_istore_n d_Model_depart_5 rfl (Nat.le_of_ble_eq_true rfl) (by first | exact q_ok0 | exact q_okI rfl | exact q_okR rfl | exact q_okN rfl) rfl ?_
  refine q_aload_n d_Model_depart_6 rfl rfl ?_
  refine q_getI (ci := 11) (fk := 27) d_Model_depart_7 rfl (Nat.le_of_ble_eq_true rfl) w_1131 (fun _ _ => rfl) hL.1 ?_
  rw [hmd]
  refine q_iconst (v := nI 1) d_Model_depart_10 (by decide) ?_
  refine q_icmp_ne (tgt := 103) d_Model_depart_11 rfl (fun hc => ?_) (fun hc => ?_)
  rotate_left
  · exact absurd hc (by decide)
  refine q_aload_n d_Model_depart_103 rfl rfl ?_
  refine q_iload_n d_Model_depart_104 rfl rfl ?_
  refine q_callVv (M2 := M_Model_go) d_Model_depart_105 ⟨(Nat.le_of_ble_eq_true rfl), (Nat.le_of_ble_eq_true rfl), w_1333, w_10, ⟨by decide, by decide⟩, show _ = some 1 by decide +kernel⟩ w_1330 w_1332 (ci := 11) rfl s_64 hL.1 rfl (Nat.le_of_ble_eq_true rfl) (by omega) (by omega) (c_Model_go hL hM hkl) ?_
  rintro _ ⟨I1, rfl, k1, k2, -⟩
  refine q_vret d_Model_depart_108 rfl (by omega) (by omega) ?_
  exact ⟨rfl, I1, _, rfl, k1, k2, k_goL_fil hd hk⟩
theorem c_Model_change0 {k s q : Nat} {kd a b fw : Int32} (hL : q_L 11 t_Model m T R) (hmd : I m (nI 27) = nI 0) : q_Cv g M_Model_change [.ref m, .int (nI k), .int kd, .int a, .int b, .int fw, .int (nI s), .int (nI q)] (sz, T, I, R, J) 0 0 (fun h' => h' = (sz, T, I, R, J)) := by
  refine q_C.of (ls0 := [some (.ref m), some (.int (nI k)), some (.int kd), some (.int a), some (.int b), some (.int fw), some (.int (nI s)), some (.int (nI q)), none, none]) (by decide) rfl (by decide) (Nat.le_of_ble_eq_true rfl) rfl ?_
  refine q_aload_n d_Model_change_0 rfl rfl ?_
  refine q_getI (ci := 11) (fk := 27) d_Model_change_1 rfl (Nat.le_of_ble_eq_true rfl) w_1131 (fun _ _ => rfl) hL.1 ?_
  rw [hmd]
  refine q_iconst (v := nI 2) d_Model_change_4 (by decide) ?_
  refine q_icmp_ne (tgt := 50) d_Model_change_5 rfl (fun hc => ?_) (fun hc => ?_)
  rotate_left
  · exact absurd hc (by decide)
  refine q_aload_n d_Model_change_50 rfl rfl ?_
  refine q_getI (ci := 11) (fk := 27) d_Model_change_51 rfl (Nat.le_of_ble_eq_true rfl) w_1131 (fun _ _ => rfl) hL.1 ?_
  rw [hmd]
  refine q_iconst (v := nI 1) d_Model_change_54 (by decide) ?_
  refine q_icmp_eq (tgt := 59) d_Model_change_55 rfl (fun hc => ?_) (fun hc => ?_)
  · exact absurd hc (by decide)
  refine q_vret d_Model_change_58 rfl (by omega) (by omega) ?_
  exact ⟨rfl, rfl⟩
theorem z_flr {x a : Int32} (ha : nI 2 ≤ a) : (k_flr x.toInt64 a.toInt64).toInt32 = z_div x a ∧ ¬ a.toInt64 = 0 := by
  have h1 := z_lit 2 (by decide) ha
  have h2 := z_bd x
  refine ⟨?_, fun z => ?_⟩
  · rw [z_l2i, k_flr_int (by rw [z_i64]; omega) (by rw [z_i64]; omega) (by rw [z_i64]; omega), z_i64, z_i64]
    rfl
  · have := congrArg Int64.toInt z
    rw [z_i64] at this
    have h5 : (0 : Int64).toInt = 0 := by decide
    omega
theorem z_flrs {x a b : Int32} (ha : nI 1 ≤ a ∧ a ≤ nI 1000) (hb : nI 1 ≤ b) : (k_flr (a.toInt64 * x.toInt64) b.toInt64).toInt = a.toInt * x.toInt / b.toInt ∧ (k_flr (a.toInt64 * x.toInt64) b.toInt64).toInt32 = z_scf a b x ∧ ¬ b.toInt64 = 0 := by
  have h1 := z_lit 1 (by decide) ha.1
  have h2 := z_lit2 1000 (by decide) ha.2
  have h3 := z_lit 1 (by decide) hb
  have h4 := z_bd x
  have h5 := z_prod (x := a.toInt) (y := x.toInt) (A := 1000) (B := 2147483648) (by omega) (by omega) (by omega) (by omega) (by omega)
  have e : (k_flr (a.toInt64 * x.toInt64) b.toInt64).toInt = a.toInt * x.toInt / b.toInt := by
    rw [k_flr_int (by rw [z_i64]; omega) (by rw [z_mul]; omega) (by rw [z_mul]; omega), z_mul, z_i64]
  refine ⟨e, by rw [z_l2i, e]; rfl, fun z => ?_⟩
  have := congrArg Int64.toInt z
  rw [z_i64] at this
  have h6 : (0 : Int64).toInt = 0 := by decide
  omega
set_option maxHeartbeats 1000000 in
theorem c_Model_split0 {k : Nat} {M : List KF} {f : KF} {a : Int32} {n sl : Nat} (hL : q_L 11 t_Model m T R) (hM : k_mw m M I) (hfk : k_ok 4 f.1 ∧ f.1 ≠ []) (hlt : M.length < 25) (hmd : I m (nI 27) = nI 0) (hf : M[k]? = some f) (ha : nI 2 ≤ a) : q_Cv g M_Model_split [.ref m, .int (nI k), .int (nI (k_path f.1)), .int a, .int (nI n)] (sz, T, I, R, J) 0 0 (fun h' => ∃ I' : q_I, h' = (sz, T, I', R, J) ∧ m_wk m I I' ∧ k_mw m (M.set k (f.1, f.2.1, z_div f.2.2.1 a, z_div f.2.2.2.1 a, f.2.2.2.2) ++ [(f.1.dropLast ++ [n + 1], 0, 0, a - 1, sl)]) I') := by
  have hkl := (List.getElem?_eq_some_iff.mp hf).1
  obtain ⟨w1, w2, w3, w4⟩ := hM.2.2 k f hf
  obtain ⟨x1, hnz⟩ := z_flr (x := f.2.2.1) ha
  obtain ⟨x2, -⟩ := z_flr (x := f.2.2.2.1) ha
  refine q_C.of (ls0 := [some (.ref m), some (.int (nI k)), some (.int (nI (k_path f.1))), some (.int a), some (.int (nI n)), none, none, none, none, none]) (by decide) rfl (by decide) (Nat.le_of_ble_eq_true rfl) rfl ?_
  refine q_aload_n d_Model_split_0 rfl rfl ?_
  refine q_getR (ci := 11) (fk := 23) d_Model_split_1 rfl (Nat.le_of_ble_eq_true rfl) w_1127 (fun _ _ => rfl) hL.1 (hL.2 23 _ _ _ rfl).1 ?_
  refine q_bipush (v := nI 7) d_Model_split_4 (by decide) ?_
  refine q_iload_n d_Model_split_6 rfl rfl ?_
  first | refine q_imulN d_Model_split_7 ?_ | refine q_imul d_Model_split_7 ?_
  refine q_iconst (v := nI 1) d_Model_split_8 (by decide) ?_
  first | refine q_iaddN d_Model_split_9 ?_ | refine q_iadd d_Model_split_9 ?_
  refine q_iald d_Model_split_10 (hL.2 23 _ _ _ rfl).2 (by first | assumption | exact vp_in_nI (by omega) (by omega)) ?_
  refine q_istore d_Model_split_11 (Nat.le_of_ble_eq_true rfl) (by first | exact q_ok0 | exact q_okI rfl | exact q_okR rfl | exact q_okN rfl) rfl ?_
  refine q_aload_n d_Model_split_13 rfl rfl ?_
  refine q_getR (ci := 11) (fk := 24) d_Model_split_14 rfl (Nat.le_of_ble_eq_true rfl) w_1128 (fun _ _ => rfl) hL.1 (hL.2 24 _ _ _ rfl).1 ?_
  refine q_iload_n d_Model_split_17 rfl rfl ?_
  refine q_iald d_Model_split_18 (hL.2 24 _ _ _ rfl).2 (by first | assumption | exact vp_in_nI (by omega) (by omega)) ?_
  refine q_istore d_Model_split_19 (Nat.le_of_ble_eq_true rfl) (by first | exact q_ok0 | exact q_okI rfl | exact q_okR rfl | exact q_okN rfl) rfl ?_
  refine q_aload_n d_Model_split_21 rfl rfl ?_
  refine q_getR (ci := 11) (fk := 21) d_Model_split_22 rfl (Nat.le_of_ble_eq_true rfl) w_1125 (fun _ _ => rfl) hL.1 (hL.2 21 _ _ _ rfl).1 ?_
  refine q_iload_n d_Model_split_25 rfl rfl ?_
  refine q_aload_n d_Model_split_26 rfl rfl ?_
  refine q_getR (ci := 11) (fk := 21) d_Model_split_27 rfl (Nat.le_of_ble_eq_true rfl) w_1125 (fun _ _ => rfl) hL.1 (hL.2 21 _ _ _ rfl).1 ?_
  refine q_iload_n d_Model_split_30 rfl rfl ?_
  refine q_iald d_Model_split_31 (hL.2 21 _ _ _ rfl).2 (by first | assumption | exact vp_in_nI (by omega) (by omega)) ?_
  rw [w3]
  refine q_i2l d_Model_split_32 rfl ?_
  refine q_iload_n d_Model_split_33 rfl rfl ?_
  refine q_i2l d_Model_split_34 rfl ?_
  refine q_callSl (M2 := M_Model_floor) d_Model_split_35 ⟨(Nat.le_of_ble_eq_true rfl), (Nat.le_of_ble_eq_true rfl), w_1344, w_10, ⟨by decide, by decide⟩, show _ = some 2 by decide +kernel⟩ w_1342 w_1343 rfl (Nat.le_of_ble_eq_true rfl) (by omega) (by omega) (c_Model_floor hnz) ?_
  rintro _ _ ⟨rfl, rfl⟩
  refine q_l2i d_Model_split_38 rfl ?_
  rw [x1]
  refine q_iast d_Model_split_39 (hL.2 21 _ _ _ rfl).2 (by first | assumption | exact vp_in_nI (by omega) (by omega)) ?_
  refine q_aload_n d_Model_split_40 rfl rfl ?_
  refine q_getR (ci := 11) (fk := 22) d_Model_split_41 rfl (Nat.le_of_ble_eq_true rfl) w_1126 (fun _ _ => rfl) hL.1 (hL.2 22 _ _ _ rfl).1 ?_
  refine q_iload_n d_Model_split_44 rfl rfl ?_
  refine q_aload_n d_Model_split_45 rfl rfl ?_
  refine q_getR (ci := 11) (fk := 22) d_Model_split_46 rfl (Nat.le_of_ble_eq_true rfl) w_1126 (fun _ _ => rfl) hL.1 (hL.2 22 _ _ _ rfl).1 ?_
  refine q_iload_n d_Model_split_49 rfl rfl ?_
  refine q_iald d_Model_split_50 (hL.2 22 _ _ _ rfl).2 (by first | assumption | exact vp_in_nI (by omega) (by omega)) ?_
  rw [q_upI_nea (by omega), w4]
  refine q_i2l d_Model_split_51 rfl ?_
  refine q_iload_n d_Model_split_52 rfl rfl ?_
  refine q_i2l d_Model_split_53 rfl ?_
  refine q_callSl (M2 := M_Model_floor) d_Model_split_54 ⟨(Nat.le_of_ble_eq_true rfl), (Nat.le_of_ble_eq_true rfl), w_1344, w_10, ⟨by decide, by decide⟩, show _ = some 2 by decide +kernel⟩ w_1342 w_1343 rfl (Nat.le_of_ble_eq_true rfl) (by omega) (by omega) (c_Model_floor hnz) ?_
  rintro _ _ ⟨rfl, rfl⟩
  refine q_l2i d_Model_split_57 rfl ?_
  rw [x2]
  refine q_iast d_Model_split_58 (hL.2 22 _ _ _ rfl).2 (by first | assumption | exact vp_in_nI (by omega) (by omega)) ?_
  refine q_aload_n d_Model_split_59 rfl rfl ?_
  refine q_iload_n d_Model_split_60 rfl rfl ?_
  refine q_iload d_Model_split_61 rfl ?_
  refine q_callSi (M2 := M_Model_besides) d_Model_split_63 ⟨(Nat.le_of_ble_eq_true rfl), (Nat.le_of_ble_eq_true rfl), w_1347, w_10, ⟨by decide, by decide⟩, show _ = some 2 by decide +kernel⟩ w_1345 w_1346 rfl (Nat.le_of_ble_eq_true rfl) (by omega) (by omega) (c_Model_besides hfk.1 hfk.2) ?_
  rintro _ _ ⟨rfl, rfl⟩
  refine q_iconst (v := nI 0) d_Model_split_66 (by decide) ?_
  refine q_iconst (v := nI 0) d_Model_split_67 (by decide) ?_
  refine q_iload_n d_Model_split_68 rfl rfl ?_
  refine q_iconst (v := nI 1) d_Model_split_69 (by decide) ?_
  refine q_isub d_Model_split_70 ?_
  obtain ⟨I1, hI1⟩ : ∃ I1, I1 = q_upI (q_upI I (m + 16) (nI k) (z_div f.2.2.1 a)) (m + 17) (nI k) (z_div f.2.2.2.1 a) := ⟨_, rfl⟩
  rw [← hI1]
  have o1 : ∀ b, b ≠ m + 16 → b ≠ m + 17 → I1 b = I b := fun b b1 b2 => by rw [hI1]; funext j; rw [q_upI_nea b2, q_upI_nea b1]
  have hM1 : k_mw m (M.set k (f.1, f.2.1, z_div f.2.2.1 a, z_div f.2.2.2.1 a, f.2.2.2.2)) I1 := by
    refine hM.set hf (by rw [o1 m (by omega) (by omega)]) ⟨by rw [o1 (m + 14) (by omega) (by omega)]; exact w1, by rw [o1 (m + 15) (by omega) (by omega)]; exact w2, ?_, ?_⟩ (fun j i j1 j2 hi hik => ?_)
    · rw [hI1, q_upI_nea (by omega), q_upI_self]
    · rw [hI1, q_upI_self]
    · rw [hI1, q_upI_nk (by omega), q_upI_nk (by omega)]
  have md1 : I1 m (nI 27) = nI 0 := by rw [o1 m (by omega) (by omega)]; exact hmd
  have hcome := c_Model_come0 (g := g) (sz := sz) (J := J) hL hM1 (by rw [List.length_set]; omega) (by rw [md1]; decide) (f.1.dropLast ++ [n + 1], 0, 0, a - 1, sl)
  refine q_callVi (M2 := M_Model_come) d_Model_split_71 ⟨(Nat.le_of_ble_eq_true rfl), (Nat.le_of_ble_eq_true rfl), w_1237, w_10, ⟨by decide, by decide⟩, show _ = some 4 by decide +kernel⟩ w_1234 w_1236 (ci := 11) rfl s_48 hL.1 rfl (Nat.le_of_ble_eq_true rfl) (by omega) (by omega) (hcome) ?_
  rintro _ _ ⟨rfl, I2, rfl, k1, k2, -, -, -⟩
  have md2 : I2 m (nI 27) = nI 0 := by rw [k1.2 _ (fun z => absurd (q_nI_inj z) (by decide))]; exact md1
  refine q_istore d_Model_split_74 (Nat.le_of_ble_eq_true rfl) (by first | exact q_ok0 | exact q_okI rfl | exact q_okR rfl | exact q_okN rfl) rfl ?_
  refine q_aload_n d_Model_split_76 rfl rfl ?_
  refine q_getI (ci := 11) (fk := 27) d_Model_split_77 rfl (Nat.le_of_ble_eq_true rfl) w_1131 (fun _ _ => rfl) hL.1 ?_
  rw [md2]
  refine q_iconst (v := nI 1) d_Model_split_80 (by decide) ?_
  refine q_icmp_ne (tgt := 132) d_Model_split_81 rfl (fun hc => ?_) (fun hc => ?_)
  rotate_left
  · exact absurd hc (by decide)
  refine q_aload_n d_Model_split_132 rfl rfl ?_
  refine q_getI (ci := 11) (fk := 27) d_Model_split_133 rfl (Nat.le_of_ble_eq_true rfl) w_1131 (fun _ _ => rfl) hL.1 ?_
  rw [md2]
  refine q_iconst (v := nI 2) d_Model_split_136 (by decide) ?_
  refine q_icmp_eq (tgt := 141) d_Model_split_137 rfl (fun hc => ?_) (fun hc => ?_)
  · exact absurd hc (by decide)
  refine q_vret d_Model_split_140 rfl (by omega) (by omega) ?_
  exact ⟨rfl, I2, rfl, ⟨fun b b1 b2 => by rw [k1.1 b b1 b2, o1 b (by omega) (by omega)], fun i hi => by rw [k1.2 i hi, o1 m (by omega) (by omega)]⟩, k2⟩
end Forth0
