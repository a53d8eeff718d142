/-! the public methods that read or change one record: the reference's side -/
abbrev M_Model_fieldOf : q_M := (⟨"LensPathsModel", "fieldOf", "(III)I"⟩, prog_14_method_59_code, 6, (some .int), "LensPathsModel", [], false, 0, 0)
theorem d_Model_fieldOf_0 : decode prog_14_method_59_code 0 = .ok (.aload_n 0, 1) := by decide +kernel
theorem d_Model_fieldOf_1 : decode prog_14_method_59_code 1 = .ok (.getfield 41, 3) := by decide +kernel
theorem d_Model_fieldOf_4 : decode prog_14_method_59_code 4 = .ok (.iload_n 1, 1) := by decide +kernel
theorem d_Model_fieldOf_5 : decode prog_14_method_59_code 5 = .ok (.iaload, 1) := by decide +kernel
theorem d_Model_fieldOf_6 : decode prog_14_method_59_code 6 = .ok (.istore 4, 2) := by decide +kernel
theorem d_Model_fieldOf_8 : decode prog_14_method_59_code 8 = .ok (.iconst 0, 1) := by decide +kernel
theorem d_Model_fieldOf_9 : decode prog_14_method_59_code 9 = .ok (.istore 5, 2) := by decide +kernel
theorem d_Model_fieldOf_11 : decode prog_14_method_59_code 11 = .ok (.iload 5, 2) := by decide +kernel
theorem d_Model_fieldOf_13 : decode prog_14_method_59_code 13 = .ok (.aload_n 0, 1) := by decide +kernel
theorem d_Model_fieldOf_14 : decode prog_14_method_59_code 14 = .ok (.getfield 13, 3) := by decide +kernel
theorem d_Model_fieldOf_17 : decode prog_14_method_59_code 17 = .ok (.iload 4, 2) := by decide +kernel
theorem d_Model_fieldOf_19 : decode prog_14_method_59_code 19 = .ok (.iaload, 1) := by decide +kernel
theorem d_Model_fieldOf_20 : decode prog_14_method_59_code 20 = .ok (.if_icmp .ge 46, 3) := by decide +kernel
theorem d_Model_fieldOf_23 : decode prog_14_method_59_code 23 = .ok (.aload_n 0, 1) := by decide +kernel
theorem d_Model_fieldOf_24 : decode prog_14_method_59_code 24 = .ok (.getfield 17, 3) := by decide +kernel
theorem d_Model_fieldOf_27 : decode prog_14_method_59_code 27 = .ok (.bipush 24, 2) := by decide +kernel
theorem d_Model_fieldOf_29 : decode prog_14_method_59_code 29 = .ok (.iload 4, 2) := by decide +kernel
theorem d_Model_fieldOf_31 : decode prog_14_method_59_code 31 = .ok (.imul, 1) := by decide +kernel
theorem d_Model_fieldOf_32 : decode prog_14_method_59_code 32 = .ok (.iload 5, 2) := by decide +kernel
theorem d_Model_fieldOf_34 : decode prog_14_method_59_code 34 = .ok (.iadd, 1) := by decide +kernel
theorem d_Model_fieldOf_35 : decode prog_14_method_59_code 35 = .ok (.iaload, 1) := by decide +kernel
theorem d_Model_fieldOf_36 : decode prog_14_method_59_code 36 = .ok (.iload_n 2, 1) := by decide +kernel
theorem d_Model_fieldOf_37 : decode prog_14_method_59_code 37 = .ok (.if_icmp .ne 23, 3) := by decide +kernel
theorem d_Model_fieldOf_40 : decode prog_14_method_59_code 40 = .ok (.aload_n 0, 1) := by decide +kernel
theorem d_Model_fieldOf_41 : decode prog_14_method_59_code 41 = .ok (.getfield 20, 3) := by decide +kernel
theorem d_Model_fieldOf_44 : decode prog_14_method_59_code 44 = .ok (.bipush 24, 2) := by decide +kernel
theorem d_Model_fieldOf_46 : decode prog_14_method_59_code 46 = .ok (.iload 4, 2) := by decide +kernel
theorem d_Model_fieldOf_48 : decode prog_14_method_59_code 48 = .ok (.imul, 1) := by decide +kernel
theorem d_Model_fieldOf_49 : decode prog_14_method_59_code 49 = .ok (.iload 5, 2) := by decide +kernel
theorem d_Model_fieldOf_51 : decode prog_14_method_59_code 51 = .ok (.iadd, 1) := by decide +kernel
theorem d_Model_fieldOf_52 : decode prog_14_method_59_code 52 = .ok (.iaload, 1) := by decide +kernel
theorem d_Model_fieldOf_53 : decode prog_14_method_59_code 53 = .ok (.iload_n 3, 1) := by decide +kernel
theorem d_Model_fieldOf_54 : decode prog_14_method_59_code 54 = .ok (.if_icmp .ne 6, 3) := by decide +kernel
theorem d_Model_fieldOf_57 : decode prog_14_method_59_code 57 = .ok (.iload 5, 2) := by decide +kernel
theorem d_Model_fieldOf_59 : decode prog_14_method_59_code 59 = .ok (.ireturn, 1) := by decide +kernel
theorem d_Model_fieldOf_60 : decode prog_14_method_59_code 60 = .ok (.iinc 5 1, 3) := by decide +kernel
theorem d_Model_fieldOf_63 : decode prog_14_method_59_code 63 = .ok (.goto (-52), 3) := by decide +kernel
theorem d_Model_fieldOf_66 : decode prog_14_method_59_code 66 = .ok (.iconst (-1), 1) := by decide +kernel
theorem d_Model_fieldOf_67 : decode prog_14_method_59_code 67 = .ok (.ireturn, 1) := by decide +kernel
abbrev M_Model_fits : q_M := (⟨"LensPathsModel", "fits", "(III)Z"⟩, prog_14_method_60_code, 5, (some .boolean), "LensPathsModel", [], false, 0, 0)
theorem d_Model_fits_0 : decode prog_14_method_60_code 0 = .ok (.aload_n 0, 1) := by decide +kernel
theorem d_Model_fits_1 : decode prog_14_method_60_code 1 = .ok (.getfield 41, 3) := by decide +kernel
theorem d_Model_fits_4 : decode prog_14_method_60_code 4 = .ok (.iload_n 1, 1) := by decide +kernel
theorem d_Model_fits_5 : decode prog_14_method_60_code 5 = .ok (.iaload, 1) := by decide +kernel
theorem d_Model_fits_6 : decode prog_14_method_60_code 6 = .ok (.istore 4, 2) := by decide +kernel
theorem d_Model_fits_8 : decode prog_14_method_60_code 8 = .ok (.iload_n 3, 1) := by decide +kernel
theorem d_Model_fits_9 : decode prog_14_method_60_code 9 = .ok (.aload_n 0, 1) := by decide +kernel
theorem d_Model_fits_10 : decode prog_14_method_60_code 10 = .ok (.getfield 23, 3) := by decide +kernel
theorem d_Model_fits_13 : decode prog_14_method_60_code 13 = .ok (.bipush 24, 2) := by decide +kernel
theorem d_Model_fits_15 : decode prog_14_method_60_code 15 = .ok (.iload 4, 2) := by decide +kernel
theorem d_Model_fits_17 : decode prog_14_method_60_code 17 = .ok (.imul, 1) := by decide +kernel
theorem d_Model_fits_18 : decode prog_14_method_60_code 18 = .ok (.iload_n 2, 1) := by decide +kernel
theorem d_Model_fits_19 : decode prog_14_method_60_code 19 = .ok (.iadd, 1) := by decide +kernel
theorem d_Model_fits_20 : decode prog_14_method_60_code 20 = .ok (.iaload, 1) := by decide +kernel
theorem d_Model_fits_21 : decode prog_14_method_60_code 21 = .ok (.if_icmp .lt 23, 3) := by decide +kernel
theorem d_Model_fits_24 : decode prog_14_method_60_code 24 = .ok (.iload_n 3, 1) := by decide +kernel
theorem d_Model_fits_25 : decode prog_14_method_60_code 25 = .ok (.aload_n 0, 1) := by decide +kernel
theorem d_Model_fits_26 : decode prog_14_method_60_code 26 = .ok (.getfield 26, 3) := by decide +kernel
theorem d_Model_fits_29 : decode prog_14_method_60_code 29 = .ok (.bipush 24, 2) := by decide +kernel
theorem d_Model_fits_31 : decode prog_14_method_60_code 31 = .ok (.iload 4, 2) := by decide +kernel
theorem d_Model_fits_33 : decode prog_14_method_60_code 33 = .ok (.imul, 1) := by decide +kernel
theorem d_Model_fits_34 : decode prog_14_method_60_code 34 = .ok (.iload_n 2, 1) := by decide +kernel
theorem d_Model_fits_35 : decode prog_14_method_60_code 35 = .ok (.iadd, 1) := by decide +kernel
theorem d_Model_fits_36 : decode prog_14_method_60_code 36 = .ok (.iaload, 1) := by decide +kernel
theorem d_Model_fits_37 : decode prog_14_method_60_code 37 = .ok (.if_icmp .gt 7, 3) := by decide +kernel
theorem d_Model_fits_40 : decode prog_14_method_60_code 40 = .ok (.iconst 1, 1) := by decide +kernel
theorem d_Model_fits_41 : decode prog_14_method_60_code 41 = .ok (.goto 4, 3) := by decide +kernel
theorem d_Model_fits_44 : decode prog_14_method_60_code 44 = .ok (.iconst 0, 1) := by decide +kernel
theorem d_Model_fits_45 : decode prog_14_method_60_code 45 = .ok (.ireturn, 1) := by decide +kernel
abbrev M_Model_version : q_M := (⟨"LensPathsModel", "version", "(I)I"⟩, prog_14_method_68_code, 2, (some .int), "LensPathsModel", [], false, 1, 21)
theorem d_Model_version_0 : decode prog_14_method_68_code 0 = .ok (.aload_n 0, 1) := by decide +kernel
theorem d_Model_version_1 : decode prog_14_method_68_code 1 = .ok (.aload_n 0, 1) := by decide +kernel
theorem d_Model_version_2 : decode prog_14_method_68_code 2 = .ok (.iload_n 1, 1) := by decide +kernel
theorem d_Model_version_3 : decode prog_14_method_68_code 3 = .ok (.invokevirtual 284, 3) := by decide +kernel
theorem d_Model_version_6 : decode prog_14_method_68_code 6 = .ok (.ifCond .eq 7, 3) := by decide +kernel
theorem d_Model_version_9 : decode prog_14_method_68_code 9 = .ok (.iconst 0, 1) := by decide +kernel
theorem d_Model_version_10 : decode prog_14_method_68_code 10 = .ok (.goto 4, 3) := by decide +kernel
theorem d_Model_version_13 : decode prog_14_method_68_code 13 = .ok (.iconst 1, 1) := by decide +kernel
theorem d_Model_version_14 : decode prog_14_method_68_code 14 = .ok (.putfield 101, 3) := by decide +kernel
theorem d_Model_version_17 : decode prog_14_method_68_code 17 = .ok (.aload_n 0, 1) := by decide +kernel
theorem d_Model_version_18 : decode prog_14_method_68_code 18 = .ok (.getfield 101, 3) := by decide +kernel
theorem d_Model_version_21 : decode prog_14_method_68_code 21 = .ok (.ifCond .le 7, 3) := by decide +kernel
theorem d_Model_version_24 : decode prog_14_method_68_code 24 = .ok (.iconst 0, 1) := by decide +kernel
theorem d_Model_version_25 : decode prog_14_method_68_code 25 = .ok (.goto 9, 3) := by decide +kernel
theorem d_Model_version_28 : decode prog_14_method_68_code 28 = .ok (.aload_n 0, 1) := by decide +kernel
theorem d_Model_version_29 : decode prog_14_method_68_code 29 = .ok (.getfield 41, 3) := by decide +kernel
theorem d_Model_version_32 : decode prog_14_method_68_code 32 = .ok (.iload_n 1, 1) := by decide +kernel
theorem d_Model_version_33 : decode prog_14_method_68_code 33 = .ok (.iaload, 1) := by decide +kernel
theorem d_Model_version_34 : decode prog_14_method_68_code 34 = .ok (.ireturn, 1) := by decide +kernel
abbrev M_Model_kept : q_M := (⟨"LensPathsModel", "kept", "(I)I"⟩, prog_14_method_69_code, 4, (some .int), "LensPathsModel", [], false, 1, 21)
theorem d_Model_kept_0 : decode prog_14_method_69_code 0 = .ok (.aload_n 0, 1) := by decide +kernel
theorem d_Model_kept_1 : decode prog_14_method_69_code 1 = .ok (.aload_n 0, 1) := by decide +kernel
theorem d_Model_kept_2 : decode prog_14_method_69_code 2 = .ok (.iload_n 1, 1) := by decide +kernel
theorem d_Model_kept_3 : decode prog_14_method_69_code 3 = .ok (.invokevirtual 284, 3) := by decide +kernel
theorem d_Model_kept_6 : decode prog_14_method_69_code 6 = .ok (.ifCond .eq 7, 3) := by decide +kernel
theorem d_Model_kept_9 : decode prog_14_method_69_code 9 = .ok (.iconst 0, 1) := by decide +kernel
theorem d_Model_kept_10 : decode prog_14_method_69_code 10 = .ok (.goto 4, 3) := by decide +kernel
theorem d_Model_kept_13 : decode prog_14_method_69_code 13 = .ok (.iconst 1, 1) := by decide +kernel
theorem d_Model_kept_14 : decode prog_14_method_69_code 14 = .ok (.putfield 101, 3) := by decide +kernel
theorem d_Model_kept_17 : decode prog_14_method_69_code 17 = .ok (.iconst 0, 1) := by decide +kernel
theorem d_Model_kept_18 : decode prog_14_method_69_code 18 = .ok (.istore_n 2, 1) := by decide +kernel
theorem d_Model_kept_19 : decode prog_14_method_69_code 19 = .ok (.iconst 0, 1) := by decide +kernel
theorem d_Model_kept_20 : decode prog_14_method_69_code 20 = .ok (.istore_n 3, 1) := by decide +kernel
theorem d_Model_kept_21 : decode prog_14_method_69_code 21 = .ok (.iload_n 3, 1) := by decide +kernel
theorem d_Model_kept_22 : decode prog_14_method_69_code 22 = .ok (.sipush 128, 3) := by decide +kernel
theorem d_Model_kept_25 : decode prog_14_method_69_code 25 = .ok (.if_icmp .ge 39, 3) := by decide +kernel
theorem d_Model_kept_28 : decode prog_14_method_69_code 28 = .ok (.aload_n 0, 1) := by decide +kernel
theorem d_Model_kept_29 : decode prog_14_method_69_code 29 = .ok (.getfield 101, 3) := by decide +kernel
theorem d_Model_kept_32 : decode prog_14_method_69_code 32 = .ok (.ifCond .ne 32, 3) := by decide +kernel
theorem d_Model_kept_35 : decode prog_14_method_69_code 35 = .ok (.aload_n 0, 1) := by decide +kernel
theorem d_Model_kept_36 : decode prog_14_method_69_code 36 = .ok (.getfield 47, 3) := by decide +kernel
theorem d_Model_kept_39 : decode prog_14_method_69_code 39 = .ok (.sipush 128, 3) := by decide +kernel
theorem d_Model_kept_42 : decode prog_14_method_69_code 42 = .ok (.iload_n 1, 1) := by decide +kernel
theorem d_Model_kept_43 : decode prog_14_method_69_code 43 = .ok (.imul, 1) := by decide +kernel
theorem d_Model_kept_44 : decode prog_14_method_69_code 44 = .ok (.iload_n 3, 1) := by decide +kernel
theorem d_Model_kept_45 : decode prog_14_method_69_code 45 = .ok (.iadd, 1) := by decide +kernel
theorem d_Model_kept_46 : decode prog_14_method_69_code 46 = .ok (.iaload, 1) := by decide +kernel
theorem d_Model_kept_47 : decode prog_14_method_69_code 47 = .ok (.ifCond .le 9, 3) := by decide +kernel
theorem d_Model_kept_50 : decode prog_14_method_69_code 50 = .ok (.iload_n 2, 1) := by decide +kernel
theorem d_Model_kept_51 : decode prog_14_method_69_code 51 = .ok (.iconst 1, 1) := by decide +kernel
theorem d_Model_kept_52 : decode prog_14_method_69_code 52 = .ok (.iadd, 1) := by decide +kernel
theorem d_Model_kept_53 : decode prog_14_method_69_code 53 = .ok (.goto 4, 3) := by decide +kernel
theorem d_Model_kept_56 : decode prog_14_method_69_code 56 = .ok (.iload_n 2, 1) := by decide +kernel
theorem d_Model_kept_57 : decode prog_14_method_69_code 57 = .ok (.istore_n 2, 1) := by decide +kernel
theorem d_Model_kept_58 : decode prog_14_method_69_code 58 = .ok (.iinc 3 1, 3) := by decide +kernel
theorem d_Model_kept_61 : decode prog_14_method_69_code 61 = .ok (.goto (-40), 3) := by decide +kernel
theorem d_Model_kept_64 : decode prog_14_method_69_code 64 = .ok (.iload_n 2, 1) := by decide +kernel
theorem d_Model_kept_65 : decode prog_14_method_69_code 65 = .ok (.ireturn, 1) := by decide +kernel
abbrev M_Model_drop : q_M := (⟨"LensPathsModel", "drop", "(I)V"⟩, prog_14_method_58_code, 2, none, "LensPathsModel", [], false, 1, 21)
theorem d_Model_drop_0 : decode prog_14_method_58_code 0 = .ok (.aload_n 0, 1) := by decide +kernel
theorem d_Model_drop_1 : decode prog_14_method_58_code 1 = .ok (.aload_n 0, 1) := by decide +kernel
theorem d_Model_drop_2 : decode prog_14_method_58_code 2 = .ok (.iload_n 1, 1) := by decide +kernel
theorem d_Model_drop_3 : decode prog_14_method_58_code 3 = .ok (.invokevirtual 284, 3) := by decide +kernel
theorem d_Model_drop_6 : decode prog_14_method_58_code 6 = .ok (.ifCond .eq 7, 3) := by decide +kernel
theorem d_Model_drop_9 : decode prog_14_method_58_code 9 = .ok (.iconst 0, 1) := by decide +kernel
theorem d_Model_drop_10 : decode prog_14_method_58_code 10 = .ok (.goto 4, 3) := by decide +kernel
theorem d_Model_drop_13 : decode prog_14_method_58_code 13 = .ok (.iconst 1, 1) := by decide +kernel
theorem d_Model_drop_14 : decode prog_14_method_58_code 14 = .ok (.putfield 101, 3) := by decide +kernel
theorem d_Model_drop_17 : decode prog_14_method_58_code 17 = .ok (.aload_n 0, 1) := by decide +kernel
theorem d_Model_drop_18 : decode prog_14_method_58_code 18 = .ok (.getfield 101, 3) := by decide +kernel
theorem d_Model_drop_21 : decode prog_14_method_58_code 21 = .ok (.ifCond .ne 10, 3) := by decide +kernel
theorem d_Model_drop_24 : decode prog_14_method_58_code 24 = .ok (.aload_n 0, 1) := by decide +kernel
theorem d_Model_drop_25 : decode prog_14_method_58_code 25 = .ok (.getfield 41, 3) := by decide +kernel
theorem d_Model_drop_28 : decode prog_14_method_58_code 28 = .ok (.iload_n 1, 1) := by decide +kernel
theorem d_Model_drop_29 : decode prog_14_method_58_code 29 = .ok (.iconst (-1), 1) := by decide +kernel
theorem d_Model_drop_30 : decode prog_14_method_58_code 30 = .ok (.iastore, 1) := by decide +kernel
theorem d_Model_drop_31 : decode prog_14_method_58_code 31 = .ok (.return_, 1) := by decide +kernel
abbrev M_Model_count : q_M := (⟨"LensPathsModel", "count", "(I)I"⟩, prog_14_method_53_code, 4, (some .int), "LensPathsModel", [], false, 0, 0)
theorem d_Model_count_0 : decode prog_14_method_53_code 0 = .ok (.aload_n 0, 1) := by decide +kernel
theorem d_Model_count_1 : decode prog_14_method_53_code 1 = .ok (.iload_n 1, 1) := by decide +kernel
theorem d_Model_count_2 : decode prog_14_method_53_code 2 = .ok (.ifCond .lt 8, 3) := by decide +kernel
theorem d_Model_count_5 : decode prog_14_method_53_code 5 = .ok (.iload_n 1, 1) := by decide +kernel
theorem d_Model_count_6 : decode prog_14_method_53_code 6 = .ok (.iconst 3, 1) := by decide +kernel
theorem d_Model_count_7 : decode prog_14_method_53_code 7 = .ok (.if_icmp .le 7, 3) := by decide +kernel
theorem d_Model_count_10 : decode prog_14_method_53_code 10 = .ok (.iconst 1, 1) := by decide +kernel
theorem d_Model_count_11 : decode prog_14_method_53_code 11 = .ok (.goto 4, 3) := by decide +kernel
theorem d_Model_count_14 : decode prog_14_method_53_code 14 = .ok (.iconst 0, 1) := by decide +kernel
theorem d_Model_count_15 : decode prog_14_method_53_code 15 = .ok (.putfield 101, 3) := by decide +kernel
theorem d_Model_count_18 : decode prog_14_method_53_code 18 = .ok (.aload_n 0, 1) := by decide +kernel
theorem d_Model_count_19 : decode prog_14_method_53_code 19 = .ok (.getfield 101, 3) := by decide +kernel
theorem d_Model_count_22 : decode prog_14_method_53_code 22 = .ok (.ifCond .le 5, 3) := by decide +kernel
theorem d_Model_count_25 : decode prog_14_method_53_code 25 = .ok (.iconst 0, 1) := by decide +kernel
theorem d_Model_count_26 : decode prog_14_method_53_code 26 = .ok (.ireturn, 1) := by decide +kernel
theorem d_Model_count_27 : decode prog_14_method_53_code 27 = .ok (.iconst 0, 1) := by decide +kernel
theorem d_Model_count_28 : decode prog_14_method_53_code 28 = .ok (.istore_n 2, 1) := by decide +kernel
theorem d_Model_count_29 : decode prog_14_method_53_code 29 = .ok (.iconst 0, 1) := by decide +kernel
theorem d_Model_count_30 : decode prog_14_method_53_code 30 = .ok (.istore_n 3, 1) := by decide +kernel
theorem d_Model_count_31 : decode prog_14_method_53_code 31 = .ok (.iload_n 3, 1) := by decide +kernel
theorem d_Model_count_32 : decode prog_14_method_53_code 32 = .ok (.bipush 16, 2) := by decide +kernel
theorem d_Model_count_34 : decode prog_14_method_53_code 34 = .ok (.if_icmp .ge 26, 3) := by decide +kernel
theorem d_Model_count_37 : decode prog_14_method_53_code 37 = .ok (.aload_n 0, 1) := by decide +kernel
theorem d_Model_count_38 : decode prog_14_method_53_code 38 = .ok (.getfield 41, 3) := by decide +kernel
theorem d_Model_count_41 : decode prog_14_method_53_code 41 = .ok (.iload_n 3, 1) := by decide +kernel
theorem d_Model_count_42 : decode prog_14_method_53_code 42 = .ok (.iaload, 1) := by decide +kernel
theorem d_Model_count_43 : decode prog_14_method_53_code 43 = .ok (.ifCond .lt 9, 3) := by decide +kernel
theorem d_Model_count_46 : decode prog_14_method_53_code 46 = .ok (.iload_n 2, 1) := by decide +kernel
theorem d_Model_count_47 : decode prog_14_method_53_code 47 = .ok (.iconst 1, 1) := by decide +kernel
theorem d_Model_count_48 : decode prog_14_method_53_code 48 = .ok (.iadd, 1) := by decide +kernel
theorem d_Model_count_49 : decode prog_14_method_53_code 49 = .ok (.goto 4, 3) := by decide +kernel
theorem d_Model_count_52 : decode prog_14_method_53_code 52 = .ok (.iload_n 2, 1) := by decide +kernel
theorem d_Model_count_53 : decode prog_14_method_53_code 53 = .ok (.istore_n 2, 1) := by decide +kernel
theorem d_Model_count_54 : decode prog_14_method_53_code 54 = .ok (.iinc 3 1, 3) := by decide +kernel
theorem d_Model_count_57 : decode prog_14_method_53_code 57 = .ok (.goto (-26), 3) := by decide +kernel
theorem d_Model_count_60 : decode prog_14_method_53_code 60 = .ok (.iload_n 1, 1) := by decide +kernel
theorem d_Model_count_61 : decode prog_14_method_53_code 61 = .ok (.ifCond .ne 10, 3) := by decide +kernel
theorem d_Model_count_64 : decode prog_14_method_53_code 64 = .ok (.aload_n 0, 1) := by decide +kernel
theorem d_Model_count_65 : decode prog_14_method_53_code 65 = .ok (.getfield 7, 3) := by decide +kernel
theorem d_Model_count_68 : decode prog_14_method_53_code 68 = .ok (.goto 44, 3) := by decide +kernel
theorem d_Model_count_71 : decode prog_14_method_53_code 71 = .ok (.iload_n 1, 1) := by decide +kernel
theorem d_Model_count_72 : decode prog_14_method_53_code 72 = .ok (.iconst 1, 1) := by decide +kernel
theorem d_Model_count_73 : decode prog_14_method_53_code 73 = .ok (.if_icmp .ne 10, 3) := by decide +kernel
theorem d_Model_count_76 : decode prog_14_method_53_code 76 = .ok (.aload_n 0, 1) := by decide +kernel
theorem d_Model_count_77 : decode prog_14_method_53_code 77 = .ok (.getfield 260, 3) := by decide +kernel
theorem d_Model_count_80 : decode prog_14_method_53_code 80 = .ok (.goto 32, 3) := by decide +kernel
theorem d_Model_count_83 : decode prog_14_method_53_code 83 = .ok (.iload_n 1, 1) := by decide +kernel
theorem d_Model_count_84 : decode prog_14_method_53_code 84 = .ok (.iconst 2, 1) := by decide +kernel
theorem d_Model_count_85 : decode prog_14_method_53_code 85 = .ok (.if_icmp .ne 7, 3) := by decide +kernel
theorem d_Model_count_88 : decode prog_14_method_53_code 88 = .ok (.iload_n 2, 1) := by decide +kernel
theorem d_Model_count_89 : decode prog_14_method_53_code 89 = .ok (.goto 23, 3) := by decide +kernel
theorem d_Model_count_92 : decode prog_14_method_53_code 92 = .ok (.aload_n 0, 1) := by decide +kernel
theorem d_Model_count_93 : decode prog_14_method_53_code 93 = .ok (.getfield 257, 3) := by decide +kernel
theorem d_Model_count_96 : decode prog_14_method_53_code 96 = .ok (.ifCond .eq 15, 3) := by decide +kernel
theorem d_Model_count_99 : decode prog_14_method_53_code 99 = .ok (.aload_n 0, 1) := by decide +kernel
theorem d_Model_count_100 : decode prog_14_method_53_code 100 = .ok (.getfield 35, 3) := by decide +kernel
theorem d_Model_count_103 : decode prog_14_method_53_code 103 = .ok (.aload_n 0, 1) := by decide +kernel
theorem d_Model_count_104 : decode prog_14_method_53_code 104 = .ok (.getfield 260, 3) := by decide +kernel
theorem d_Model_count_107 : decode prog_14_method_53_code 107 = .ok (.iaload, 1) := by decide +kernel
theorem d_Model_count_108 : decode prog_14_method_53_code 108 = .ok (.goto 4, 3) := by decide +kernel
theorem d_Model_count_111 : decode prog_14_method_53_code 111 = .ok (.iconst (-1), 1) := by decide +kernel
theorem d_Model_count_112 : decode prog_14_method_53_code 112 = .ok (.ireturn, 1) := by decide +kernel
abbrev M_Model_get : q_M := (⟨"LensPathsModel", "get", "(II)I"⟩, prog_14_method_65_code, 4, (some .int), "LensPathsModel", [], false, 1, 25)
theorem d_Model_get_0 : decode prog_14_method_65_code 0 = .ok (.aload_n 0, 1) := by decide +kernel
theorem d_Model_get_1 : decode prog_14_method_65_code 1 = .ok (.iload_n 1, 1) := by decide +kernel
theorem d_Model_get_2 : decode prog_14_method_65_code 2 = .ok (.invokevirtual 284, 3) := by decide +kernel
theorem d_Model_get_5 : decode prog_14_method_65_code 5 = .ok (.ifCond .eq 13, 3) := by decide +kernel
theorem d_Model_get_8 : decode prog_14_method_65_code 8 = .ok (.aload_n 0, 1) := by decide +kernel
theorem d_Model_get_9 : decode prog_14_method_65_code 9 = .ok (.iload_n 1, 1) := by decide +kernel
theorem d_Model_get_10 : decode prog_14_method_65_code 10 = .ok (.iload_n 2, 1) := by decide +kernel
theorem d_Model_get_11 : decode prog_14_method_65_code 11 = .ok (.iconst 0, 1) := by decide +kernel
theorem d_Model_get_12 : decode prog_14_method_65_code 12 = .ok (.invokevirtual 287, 3) := by decide +kernel
theorem d_Model_get_15 : decode prog_14_method_65_code 15 = .ok (.goto 4, 3) := by decide +kernel
theorem d_Model_get_18 : decode prog_14_method_65_code 18 = .ok (.iconst (-1), 1) := by decide +kernel
theorem d_Model_get_19 : decode prog_14_method_65_code 19 = .ok (.istore_n 3, 1) := by decide +kernel
theorem d_Model_get_20 : decode prog_14_method_65_code 20 = .ok (.aload_n 0, 1) := by decide +kernel
theorem d_Model_get_21 : decode prog_14_method_65_code 21 = .ok (.aload_n 0, 1) := by decide +kernel
theorem d_Model_get_22 : decode prog_14_method_65_code 22 = .ok (.iload_n 1, 1) := by decide +kernel
theorem d_Model_get_23 : decode prog_14_method_65_code 23 = .ok (.invokevirtual 284, 3) := by decide +kernel
theorem d_Model_get_26 : decode prog_14_method_65_code 26 = .ok (.ifCond .ne 7, 3) := by decide +kernel
theorem d_Model_get_29 : decode prog_14_method_65_code 29 = .ok (.iconst 1, 1) := by decide +kernel
theorem d_Model_get_30 : decode prog_14_method_65_code 30 = .ok (.goto 12, 3) := by decide +kernel
theorem d_Model_get_33 : decode prog_14_method_65_code 33 = .ok (.iload_n 3, 1) := by decide +kernel
theorem d_Model_get_34 : decode prog_14_method_65_code 34 = .ok (.ifCond .ge 7, 3) := by decide +kernel
theorem d_Model_get_37 : decode prog_14_method_65_code 37 = .ok (.iconst 2, 1) := by decide +kernel
theorem d_Model_get_38 : decode prog_14_method_65_code 38 = .ok (.goto 4, 3) := by decide +kernel
theorem d_Model_get_41 : decode prog_14_method_65_code 41 = .ok (.iconst 0, 1) := by decide +kernel
theorem d_Model_get_42 : decode prog_14_method_65_code 42 = .ok (.putfield 101, 3) := by decide +kernel
theorem d_Model_get_45 : decode prog_14_method_65_code 45 = .ok (.aload_n 0, 1) := by decide +kernel
theorem d_Model_get_46 : decode prog_14_method_65_code 46 = .ok (.getfield 101, 3) := by decide +kernel
theorem d_Model_get_49 : decode prog_14_method_65_code 49 = .ok (.ifCond .le 7, 3) := by decide +kernel
theorem d_Model_get_52 : decode prog_14_method_65_code 52 = .ok (.iconst 0, 1) := by decide +kernel
theorem d_Model_get_53 : decode prog_14_method_65_code 53 = .ok (.goto 16, 3) := by decide +kernel
theorem d_Model_get_56 : decode prog_14_method_65_code 56 = .ok (.aload_n 0, 1) := by decide +kernel
theorem d_Model_get_57 : decode prog_14_method_65_code 57 = .ok (.getfield 44, 3) := by decide +kernel
theorem d_Model_get_60 : decode prog_14_method_65_code 60 = .ok (.aload_n 0, 1) := by decide +kernel
theorem d_Model_get_61 : decode prog_14_method_65_code 61 = .ok (.iload_n 1, 1) := by decide +kernel
theorem d_Model_get_62 : decode prog_14_method_65_code 62 = .ok (.iload_n 3, 1) := by decide +kernel
theorem d_Model_get_63 : decode prog_14_method_65_code 63 = .ok (.invokevirtual 293, 3) := by decide +kernel
theorem d_Model_get_66 : decode prog_14_method_65_code 66 = .ok (.iconst 1, 1) := by decide +kernel
theorem d_Model_get_67 : decode prog_14_method_65_code 67 = .ok (.iadd, 1) := by decide +kernel
theorem d_Model_get_68 : decode prog_14_method_65_code 68 = .ok (.iaload, 1) := by decide +kernel
theorem d_Model_get_69 : decode prog_14_method_65_code 69 = .ok (.ireturn, 1) := by decide +kernel
abbrev M_Model_size : q_M := (⟨"LensPathsModel", "size", "(II)I"⟩, prog_14_method_66_code, 4, (some .int), "LensPathsModel", [], false, 1, 25)
theorem d_Model_size_0 : decode prog_14_method_66_code 0 = .ok (.aload_n 0, 1) := by decide +kernel
theorem d_Model_size_1 : decode prog_14_method_66_code 1 = .ok (.iload_n 1, 1) := by decide +kernel
theorem d_Model_size_2 : decode prog_14_method_66_code 2 = .ok (.invokevirtual 284, 3) := by decide +kernel
theorem d_Model_size_5 : decode prog_14_method_66_code 5 = .ok (.ifCond .eq 13, 3) := by decide +kernel
theorem d_Model_size_8 : decode prog_14_method_66_code 8 = .ok (.aload_n 0, 1) := by decide +kernel
theorem d_Model_size_9 : decode prog_14_method_66_code 9 = .ok (.iload_n 1, 1) := by decide +kernel
theorem d_Model_size_10 : decode prog_14_method_66_code 10 = .ok (.iload_n 2, 1) := by decide +kernel
theorem d_Model_size_11 : decode prog_14_method_66_code 11 = .ok (.iconst 1, 1) := by decide +kernel
theorem d_Model_size_12 : decode prog_14_method_66_code 12 = .ok (.invokevirtual 287, 3) := by decide +kernel
theorem d_Model_size_15 : decode prog_14_method_66_code 15 = .ok (.goto 4, 3) := by decide +kernel
theorem d_Model_size_18 : decode prog_14_method_66_code 18 = .ok (.iconst (-1), 1) := by decide +kernel
theorem d_Model_size_19 : decode prog_14_method_66_code 19 = .ok (.istore_n 3, 1) := by decide +kernel
theorem d_Model_size_20 : decode prog_14_method_66_code 20 = .ok (.aload_n 0, 1) := by decide +kernel
theorem d_Model_size_21 : decode prog_14_method_66_code 21 = .ok (.aload_n 0, 1) := by decide +kernel
theorem d_Model_size_22 : decode prog_14_method_66_code 22 = .ok (.iload_n 1, 1) := by decide +kernel
theorem d_Model_size_23 : decode prog_14_method_66_code 23 = .ok (.invokevirtual 284, 3) := by decide +kernel
theorem d_Model_size_26 : decode prog_14_method_66_code 26 = .ok (.ifCond .ne 7, 3) := by decide +kernel
theorem d_Model_size_29 : decode prog_14_method_66_code 29 = .ok (.iconst 1, 1) := by decide +kernel
theorem d_Model_size_30 : decode prog_14_method_66_code 30 = .ok (.goto 12, 3) := by decide +kernel
theorem d_Model_size_33 : decode prog_14_method_66_code 33 = .ok (.iload_n 3, 1) := by decide +kernel
theorem d_Model_size_34 : decode prog_14_method_66_code 34 = .ok (.ifCond .ge 7, 3) := by decide +kernel
theorem d_Model_size_37 : decode prog_14_method_66_code 37 = .ok (.iconst 2, 1) := by decide +kernel
theorem d_Model_size_38 : decode prog_14_method_66_code 38 = .ok (.goto 4, 3) := by decide +kernel
theorem d_Model_size_41 : decode prog_14_method_66_code 41 = .ok (.iconst 0, 1) := by decide +kernel
theorem d_Model_size_42 : decode prog_14_method_66_code 42 = .ok (.putfield 101, 3) := by decide +kernel
theorem d_Model_size_45 : decode prog_14_method_66_code 45 = .ok (.aload_n 0, 1) := by decide +kernel
theorem d_Model_size_46 : decode prog_14_method_66_code 46 = .ok (.getfield 101, 3) := by decide +kernel
theorem d_Model_size_49 : decode prog_14_method_66_code 49 = .ok (.ifCond .le 7, 3) := by decide +kernel
theorem d_Model_size_52 : decode prog_14_method_66_code 52 = .ok (.iconst 0, 1) := by decide +kernel
theorem d_Model_size_53 : decode prog_14_method_66_code 53 = .ok (.goto 14, 3) := by decide +kernel
theorem d_Model_size_56 : decode prog_14_method_66_code 56 = .ok (.aload_n 0, 1) := by decide +kernel
theorem d_Model_size_57 : decode prog_14_method_66_code 57 = .ok (.getfield 44, 3) := by decide +kernel
theorem d_Model_size_60 : decode prog_14_method_66_code 60 = .ok (.aload_n 0, 1) := by decide +kernel
theorem d_Model_size_61 : decode prog_14_method_66_code 61 = .ok (.iload_n 1, 1) := by decide +kernel
theorem d_Model_size_62 : decode prog_14_method_66_code 62 = .ok (.iload_n 3, 1) := by decide +kernel
theorem d_Model_size_63 : decode prog_14_method_66_code 63 = .ok (.invokevirtual 293, 3) := by decide +kernel
theorem d_Model_size_66 : decode prog_14_method_66_code 66 = .ok (.iaload, 1) := by decide +kernel
theorem d_Model_size_67 : decode prog_14_method_66_code 67 = .ok (.ireturn, 1) := by decide +kernel
abbrev M_Model_item : q_M := (⟨"LensPathsModel", "item", "(III)I"⟩, prog_14_method_67_code, 5, (some .int), "LensPathsModel", [], false, 1, 25)
theorem d_Model_item_0 : decode prog_14_method_67_code 0 = .ok (.aload_n 0, 1) := by decide +kernel
theorem d_Model_item_1 : decode prog_14_method_67_code 1 = .ok (.iload_n 1, 1) := by decide +kernel
theorem d_Model_item_2 : decode prog_14_method_67_code 2 = .ok (.invokevirtual 284, 3) := by decide +kernel
theorem d_Model_item_5 : decode prog_14_method_67_code 5 = .ok (.ifCond .eq 13, 3) := by decide +kernel
theorem d_Model_item_8 : decode prog_14_method_67_code 8 = .ok (.aload_n 0, 1) := by decide +kernel
theorem d_Model_item_9 : decode prog_14_method_67_code 9 = .ok (.iload_n 1, 1) := by decide +kernel
theorem d_Model_item_10 : decode prog_14_method_67_code 10 = .ok (.iload_n 2, 1) := by decide +kernel
theorem d_Model_item_11 : decode prog_14_method_67_code 11 = .ok (.iconst 1, 1) := by decide +kernel
theorem d_Model_item_12 : decode prog_14_method_67_code 12 = .ok (.invokevirtual 287, 3) := by decide +kernel
theorem d_Model_item_15 : decode prog_14_method_67_code 15 = .ok (.goto 4, 3) := by decide +kernel
theorem d_Model_item_18 : decode prog_14_method_67_code 18 = .ok (.iconst (-1), 1) := by decide +kernel
theorem d_Model_item_19 : decode prog_14_method_67_code 19 = .ok (.istore 4, 2) := by decide +kernel
theorem d_Model_item_21 : decode prog_14_method_67_code 21 = .ok (.aload_n 0, 1) := by decide +kernel
theorem d_Model_item_22 : decode prog_14_method_67_code 22 = .ok (.aload_n 0, 1) := by decide +kernel
theorem d_Model_item_23 : decode prog_14_method_67_code 23 = .ok (.iload_n 1, 1) := by decide +kernel
theorem d_Model_item_24 : decode prog_14_method_67_code 24 = .ok (.invokevirtual 284, 3) := by decide +kernel
theorem d_Model_item_27 : decode prog_14_method_67_code 27 = .ok (.ifCond .ne 7, 3) := by decide +kernel
theorem d_Model_item_30 : decode prog_14_method_67_code 30 = .ok (.iconst 1, 1) := by decide +kernel
theorem d_Model_item_31 : decode prog_14_method_67_code 31 = .ok (.goto 33, 3) := by decide +kernel
theorem d_Model_item_34 : decode prog_14_method_67_code 34 = .ok (.iload 4, 2) := by decide +kernel
theorem d_Model_item_36 : decode prog_14_method_67_code 36 = .ok (.ifCond .lt 23, 3) := by decide +kernel
theorem d_Model_item_39 : decode prog_14_method_67_code 39 = .ok (.iload_n 3, 1) := by decide +kernel
theorem d_Model_item_40 : decode prog_14_method_67_code 40 = .ok (.ifCond .lt 19, 3) := by decide +kernel
theorem d_Model_item_43 : decode prog_14_method_67_code 43 = .ok (.iload_n 3, 1) := by decide +kernel
theorem d_Model_item_44 : decode prog_14_method_67_code 44 = .ok (.aload_n 0, 1) := by decide +kernel
theorem d_Model_item_45 : decode prog_14_method_67_code 45 = .ok (.getfield 44, 3) := by decide +kernel
theorem d_Model_item_48 : decode prog_14_method_67_code 48 = .ok (.aload_n 0, 1) := by decide +kernel
theorem d_Model_item_49 : decode prog_14_method_67_code 49 = .ok (.iload_n 1, 1) := by decide +kernel
theorem d_Model_item_50 : decode prog_14_method_67_code 50 = .ok (.iload 4, 2) := by decide +kernel
theorem d_Model_item_52 : decode prog_14_method_67_code 52 = .ok (.invokevirtual 293, 3) := by decide +kernel
theorem d_Model_item_55 : decode prog_14_method_67_code 55 = .ok (.iaload, 1) := by decide +kernel
theorem d_Model_item_56 : decode prog_14_method_67_code 56 = .ok (.if_icmp .lt 7, 3) := by decide +kernel
theorem d_Model_item_59 : decode prog_14_method_67_code 59 = .ok (.iconst 2, 1) := by decide +kernel
theorem d_Model_item_60 : decode prog_14_method_67_code 60 = .ok (.goto 4, 3) := by decide +kernel
theorem d_Model_item_63 : decode prog_14_method_67_code 63 = .ok (.iconst 0, 1) := by decide +kernel
theorem d_Model_item_64 : decode prog_14_method_67_code 64 = .ok (.putfield 101, 3) := by decide +kernel
theorem d_Model_item_67 : decode prog_14_method_67_code 67 = .ok (.aload_n 0, 1) := by decide +kernel
theorem d_Model_item_68 : decode prog_14_method_67_code 68 = .ok (.getfield 101, 3) := by decide +kernel
theorem d_Model_item_71 : decode prog_14_method_67_code 71 = .ok (.ifCond .le 7, 3) := by decide +kernel
theorem d_Model_item_74 : decode prog_14_method_67_code 74 = .ok (.iconst 0, 1) := by decide +kernel
theorem d_Model_item_75 : decode prog_14_method_67_code 75 = .ok (.goto 19, 3) := by decide +kernel
theorem d_Model_item_78 : decode prog_14_method_67_code 78 = .ok (.aload_n 0, 1) := by decide +kernel
theorem d_Model_item_79 : decode prog_14_method_67_code 79 = .ok (.getfield 44, 3) := by decide +kernel
theorem d_Model_item_82 : decode prog_14_method_67_code 82 = .ok (.aload_n 0, 1) := by decide +kernel
theorem d_Model_item_83 : decode prog_14_method_67_code 83 = .ok (.iload_n 1, 1) := by decide +kernel
theorem d_Model_item_84 : decode prog_14_method_67_code 84 = .ok (.iload 4, 2) := by decide +kernel
theorem d_Model_item_86 : decode prog_14_method_67_code 86 = .ok (.invokevirtual 293, 3) := by decide +kernel
theorem d_Model_item_89 : decode prog_14_method_67_code 89 = .ok (.iconst 1, 1) := by decide +kernel
theorem d_Model_item_90 : decode prog_14_method_67_code 90 = .ok (.iadd, 1) := by decide +kernel
theorem d_Model_item_91 : decode prog_14_method_67_code 91 = .ok (.iload_n 3, 1) := by decide +kernel
theorem d_Model_item_92 : decode prog_14_method_67_code 92 = .ok (.iadd, 1) := by decide +kernel
theorem d_Model_item_93 : decode prog_14_method_67_code 93 = .ok (.iaload, 1) := by decide +kernel
theorem d_Model_item_94 : decode prog_14_method_67_code 94 = .ok (.ireturn, 1) := by decide +kernel
abbrev M_Model_set : q_M := (⟨"LensPathsModel", "set", "(III)V"⟩, prog_14_method_62_code, 5, none, "LensPathsModel", [], false, 1, 25)
theorem d_Model_set_0 : decode prog_14_method_62_code 0 = .ok (.aload_n 0, 1) := by decide +kernel
theorem d_Model_set_1 : decode prog_14_method_62_code 1 = .ok (.iload_n 1, 1) := by decide +kernel
theorem d_Model_set_2 : decode prog_14_method_62_code 2 = .ok (.invokevirtual 284, 3) := by decide +kernel
theorem d_Model_set_5 : decode prog_14_method_62_code 5 = .ok (.ifCond .eq 13, 3) := by decide +kernel
theorem d_Model_set_8 : decode prog_14_method_62_code 8 = .ok (.aload_n 0, 1) := by decide +kernel
theorem d_Model_set_9 : decode prog_14_method_62_code 9 = .ok (.iload_n 1, 1) := by decide +kernel
theorem d_Model_set_10 : decode prog_14_method_62_code 10 = .ok (.iload_n 2, 1) := by decide +kernel
theorem d_Model_set_11 : decode prog_14_method_62_code 11 = .ok (.iconst 0, 1) := by decide +kernel
theorem d_Model_set_12 : decode prog_14_method_62_code 12 = .ok (.invokevirtual 287, 3) := by decide +kernel
theorem d_Model_set_15 : decode prog_14_method_62_code 15 = .ok (.goto 4, 3) := by decide +kernel
theorem d_Model_set_18 : decode prog_14_method_62_code 18 = .ok (.iconst (-1), 1) := by decide +kernel
theorem d_Model_set_19 : decode prog_14_method_62_code 19 = .ok (.istore 4, 2) := by decide +kernel
theorem d_Model_set_21 : decode prog_14_method_62_code 21 = .ok (.aload_n 0, 1) := by decide +kernel
theorem d_Model_set_22 : decode prog_14_method_62_code 22 = .ok (.aload_n 0, 1) := by decide +kernel
theorem d_Model_set_23 : decode prog_14_method_62_code 23 = .ok (.iload_n 1, 1) := by decide +kernel
theorem d_Model_set_24 : decode prog_14_method_62_code 24 = .ok (.invokevirtual 284, 3) := by decide +kernel
theorem d_Model_set_27 : decode prog_14_method_62_code 27 = .ok (.ifCond .ne 7, 3) := by decide +kernel
theorem d_Model_set_30 : decode prog_14_method_62_code 30 = .ok (.iconst 1, 1) := by decide +kernel
theorem d_Model_set_31 : decode prog_14_method_62_code 31 = .ok (.goto 24, 3) := by decide +kernel
theorem d_Model_set_34 : decode prog_14_method_62_code 34 = .ok (.iload 4, 2) := by decide +kernel
theorem d_Model_set_36 : decode prog_14_method_62_code 36 = .ok (.ifCond .lt 14, 3) := by decide +kernel
theorem d_Model_set_39 : decode prog_14_method_62_code 39 = .ok (.aload_n 0, 1) := by decide +kernel
theorem d_Model_set_40 : decode prog_14_method_62_code 40 = .ok (.iload_n 1, 1) := by decide +kernel
theorem d_Model_set_41 : decode prog_14_method_62_code 41 = .ok (.iload 4, 2) := by decide +kernel
theorem d_Model_set_43 : decode prog_14_method_62_code 43 = .ok (.iload_n 3, 1) := by decide +kernel
theorem d_Model_set_44 : decode prog_14_method_62_code 44 = .ok (.invokevirtual 290, 3) := by decide +kernel
theorem d_Model_set_47 : decode prog_14_method_62_code 47 = .ok (.ifCond .ne 7, 3) := by decide +kernel
theorem d_Model_set_50 : decode prog_14_method_62_code 50 = .ok (.iconst 2, 1) := by decide +kernel
theorem d_Model_set_51 : decode prog_14_method_62_code 51 = .ok (.goto 4, 3) := by decide +kernel
theorem d_Model_set_54 : decode prog_14_method_62_code 54 = .ok (.iconst 0, 1) := by decide +kernel
theorem d_Model_set_55 : decode prog_14_method_62_code 55 = .ok (.putfield 101, 3) := by decide +kernel
theorem d_Model_set_58 : decode prog_14_method_62_code 58 = .ok (.aload_n 0, 1) := by decide +kernel
theorem d_Model_set_59 : decode prog_14_method_62_code 59 = .ok (.getfield 101, 3) := by decide +kernel
theorem d_Model_set_62 : decode prog_14_method_62_code 62 = .ok (.ifCond .ne 18, 3) := by decide +kernel
theorem d_Model_set_65 : decode prog_14_method_62_code 65 = .ok (.aload_n 0, 1) := by decide +kernel
theorem d_Model_set_66 : decode prog_14_method_62_code 66 = .ok (.getfield 44, 3) := by decide +kernel
theorem d_Model_set_69 : decode prog_14_method_62_code 69 = .ok (.aload_n 0, 1) := by decide +kernel
theorem d_Model_set_70 : decode prog_14_method_62_code 70 = .ok (.iload_n 1, 1) := by decide +kernel
theorem d_Model_set_71 : decode prog_14_method_62_code 71 = .ok (.iload 4, 2) := by decide +kernel
theorem d_Model_set_73 : decode prog_14_method_62_code 73 = .ok (.invokevirtual 293, 3) := by decide +kernel
theorem d_Model_set_76 : decode prog_14_method_62_code 76 = .ok (.iconst 1, 1) := by decide +kernel
theorem d_Model_set_77 : decode prog_14_method_62_code 77 = .ok (.iadd, 1) := by decide +kernel
theorem d_Model_set_78 : decode prog_14_method_62_code 78 = .ok (.iload_n 3, 1) := by decide +kernel
theorem d_Model_set_79 : decode prog_14_method_62_code 79 = .ok (.iastore, 1) := by decide +kernel
theorem d_Model_set_80 : decode prog_14_method_62_code 80 = .ok (.return_, 1) := by decide +kernel
abbrev M_Model_cut : q_M := (⟨"LensPathsModel", "cut", "(III)V"⟩, prog_14_method_64_code, 5, none, "LensPathsModel", [], false, 1, 25)
theorem d_Model_cut_0 : decode prog_14_method_64_code 0 = .ok (.aload_n 0, 1) := by decide +kernel
theorem d_Model_cut_1 : decode prog_14_method_64_code 1 = .ok (.iload_n 1, 1) := by decide +kernel
theorem d_Model_cut_2 : decode prog_14_method_64_code 2 = .ok (.invokevirtual 284, 3) := by decide +kernel
theorem d_Model_cut_5 : decode prog_14_method_64_code 5 = .ok (.ifCond .eq 13, 3) := by decide +kernel
theorem d_Model_cut_8 : decode prog_14_method_64_code 8 = .ok (.aload_n 0, 1) := by decide +kernel
theorem d_Model_cut_9 : decode prog_14_method_64_code 9 = .ok (.iload_n 1, 1) := by decide +kernel
theorem d_Model_cut_10 : decode prog_14_method_64_code 10 = .ok (.iload_n 2, 1) := by decide +kernel
theorem d_Model_cut_11 : decode prog_14_method_64_code 11 = .ok (.iconst 1, 1) := by decide +kernel
theorem d_Model_cut_12 : decode prog_14_method_64_code 12 = .ok (.invokevirtual 287, 3) := by decide +kernel
theorem d_Model_cut_15 : decode prog_14_method_64_code 15 = .ok (.goto 4, 3) := by decide +kernel
theorem d_Model_cut_18 : decode prog_14_method_64_code 18 = .ok (.iconst (-1), 1) := by decide +kernel
theorem d_Model_cut_19 : decode prog_14_method_64_code 19 = .ok (.istore 4, 2) := by decide +kernel
theorem d_Model_cut_21 : decode prog_14_method_64_code 21 = .ok (.aload_n 0, 1) := by decide +kernel
theorem d_Model_cut_22 : decode prog_14_method_64_code 22 = .ok (.aload_n 0, 1) := by decide +kernel
theorem d_Model_cut_23 : decode prog_14_method_64_code 23 = .ok (.iload_n 1, 1) := by decide +kernel
theorem d_Model_cut_24 : decode prog_14_method_64_code 24 = .ok (.invokevirtual 284, 3) := by decide +kernel
theorem d_Model_cut_27 : decode prog_14_method_64_code 27 = .ok (.ifCond .ne 7, 3) := by decide +kernel
theorem d_Model_cut_30 : decode prog_14_method_64_code 30 = .ok (.iconst 1, 1) := by decide +kernel
theorem d_Model_cut_31 : decode prog_14_method_64_code 31 = .ok (.goto 33, 3) := by decide +kernel
theorem d_Model_cut_34 : decode prog_14_method_64_code 34 = .ok (.iload 4, 2) := by decide +kernel
theorem d_Model_cut_36 : decode prog_14_method_64_code 36 = .ok (.ifCond .lt 23, 3) := by decide +kernel
theorem d_Model_cut_39 : decode prog_14_method_64_code 39 = .ok (.iload_n 3, 1) := by decide +kernel
theorem d_Model_cut_40 : decode prog_14_method_64_code 40 = .ok (.ifCond .lt 19, 3) := by decide +kernel
theorem d_Model_cut_43 : decode prog_14_method_64_code 43 = .ok (.iload_n 3, 1) := by decide +kernel
theorem d_Model_cut_44 : decode prog_14_method_64_code 44 = .ok (.aload_n 0, 1) := by decide +kernel
theorem d_Model_cut_45 : decode prog_14_method_64_code 45 = .ok (.getfield 44, 3) := by decide +kernel
theorem d_Model_cut_48 : decode prog_14_method_64_code 48 = .ok (.aload_n 0, 1) := by decide +kernel
theorem d_Model_cut_49 : decode prog_14_method_64_code 49 = .ok (.iload_n 1, 1) := by decide +kernel
theorem d_Model_cut_50 : decode prog_14_method_64_code 50 = .ok (.iload 4, 2) := by decide +kernel
theorem d_Model_cut_52 : decode prog_14_method_64_code 52 = .ok (.invokevirtual 293, 3) := by decide +kernel
theorem d_Model_cut_55 : decode prog_14_method_64_code 55 = .ok (.iaload, 1) := by decide +kernel
theorem d_Model_cut_56 : decode prog_14_method_64_code 56 = .ok (.if_icmp .le 7, 3) := by decide +kernel
theorem d_Model_cut_59 : decode prog_14_method_64_code 59 = .ok (.iconst 2, 1) := by decide +kernel
theorem d_Model_cut_60 : decode prog_14_method_64_code 60 = .ok (.goto 4, 3) := by decide +kernel
theorem d_Model_cut_63 : decode prog_14_method_64_code 63 = .ok (.iconst 0, 1) := by decide +kernel
theorem d_Model_cut_64 : decode prog_14_method_64_code 64 = .ok (.putfield 101, 3) := by decide +kernel
theorem d_Model_cut_67 : decode prog_14_method_64_code 67 = .ok (.aload_n 0, 1) := by decide +kernel
theorem d_Model_cut_68 : decode prog_14_method_64_code 68 = .ok (.getfield 101, 3) := by decide +kernel
theorem d_Model_cut_71 : decode prog_14_method_64_code 71 = .ok (.ifCond .ne 16, 3) := by decide +kernel
theorem d_Model_cut_74 : decode prog_14_method_64_code 74 = .ok (.aload_n 0, 1) := by decide +kernel
theorem d_Model_cut_75 : decode prog_14_method_64_code 75 = .ok (.getfield 44, 3) := by decide +kernel
theorem d_Model_cut_78 : decode prog_14_method_64_code 78 = .ok (.aload_n 0, 1) := by decide +kernel
theorem d_Model_cut_79 : decode prog_14_method_64_code 79 = .ok (.iload_n 1, 1) := by decide +kernel
theorem d_Model_cut_80 : decode prog_14_method_64_code 80 = .ok (.iload 4, 2) := by decide +kernel
theorem d_Model_cut_82 : decode prog_14_method_64_code 82 = .ok (.invokevirtual 293, 3) := by decide +kernel
theorem d_Model_cut_85 : decode prog_14_method_64_code 85 = .ok (.iload_n 3, 1) := by decide +kernel
theorem d_Model_cut_86 : decode prog_14_method_64_code 86 = .ok (.iastore, 1) := by decide +kernel
theorem d_Model_cut_87 : decode prog_14_method_64_code 87 = .ok (.return_, 1) := by decide +kernel
abbrev M_Model_put : q_M := (⟨"LensPathsModel", "put", "(IIII)I"⟩, prog_14_method_63_code, 7, (some .int), "LensPathsModel", [], false, 1, 25)
theorem d_Model_put_0 : decode prog_14_method_63_code 0 = .ok (.aload_n 0, 1) := by decide +kernel
theorem d_Model_put_1 : decode prog_14_method_63_code 1 = .ok (.iload_n 1, 1) := by decide +kernel
theorem d_Model_put_2 : decode prog_14_method_63_code 2 = .ok (.invokevirtual 284, 3) := by decide +kernel
theorem d_Model_put_5 : decode prog_14_method_63_code 5 = .ok (.ifCond .eq 13, 3) := by decide +kernel
theorem d_Model_put_8 : decode prog_14_method_63_code 8 = .ok (.aload_n 0, 1) := by decide +kernel
theorem d_Model_put_9 : decode prog_14_method_63_code 9 = .ok (.iload_n 1, 1) := by decide +kernel
theorem d_Model_put_10 : decode prog_14_method_63_code 10 = .ok (.iload_n 2, 1) := by decide +kernel
theorem d_Model_put_11 : decode prog_14_method_63_code 11 = .ok (.iconst 1, 1) := by decide +kernel
theorem d_Model_put_12 : decode prog_14_method_63_code 12 = .ok (.invokevirtual 287, 3) := by decide +kernel
theorem d_Model_put_15 : decode prog_14_method_63_code 15 = .ok (.goto 4, 3) := by decide +kernel
theorem d_Model_put_18 : decode prog_14_method_63_code 18 = .ok (.iconst (-1), 1) := by decide +kernel
theorem d_Model_put_19 : decode prog_14_method_63_code 19 = .ok (.istore 5, 2) := by decide +kernel
theorem d_Model_put_21 : decode prog_14_method_63_code 21 = .ok (.aload_n 0, 1) := by decide +kernel
theorem d_Model_put_22 : decode prog_14_method_63_code 22 = .ok (.aload_n 0, 1) := by decide +kernel
theorem d_Model_put_23 : decode prog_14_method_63_code 23 = .ok (.iload_n 1, 1) := by decide +kernel
theorem d_Model_put_24 : decode prog_14_method_63_code 24 = .ok (.invokevirtual 284, 3) := by decide +kernel
theorem d_Model_put_27 : decode prog_14_method_63_code 27 = .ok (.ifCond .ne 7, 3) := by decide +kernel
theorem d_Model_put_30 : decode prog_14_method_63_code 30 = .ok (.iconst 1, 1) := by decide +kernel
theorem d_Model_put_31 : decode prog_14_method_63_code 31 = .ok (.goto 51, 3) := by decide +kernel
theorem d_Model_put_34 : decode prog_14_method_63_code 34 = .ok (.iload 5, 2) := by decide +kernel
theorem d_Model_put_36 : decode prog_14_method_63_code 36 = .ok (.ifCond .lt 41, 3) := by decide +kernel
theorem d_Model_put_39 : decode prog_14_method_63_code 39 = .ok (.iload_n 3, 1) := by decide +kernel
theorem d_Model_put_40 : decode prog_14_method_63_code 40 = .ok (.ifCond .lt 37, 3) := by decide +kernel
theorem d_Model_put_43 : decode prog_14_method_63_code 43 = .ok (.iload_n 3, 1) := by decide +kernel
theorem d_Model_put_44 : decode prog_14_method_63_code 44 = .ok (.aload_n 0, 1) := by decide +kernel
theorem d_Model_put_45 : decode prog_14_method_63_code 45 = .ok (.getfield 44, 3) := by decide +kernel
theorem d_Model_put_48 : decode prog_14_method_63_code 48 = .ok (.aload_n 0, 1) := by decide +kernel
theorem d_Model_put_49 : decode prog_14_method_63_code 49 = .ok (.iload_n 1, 1) := by decide +kernel
theorem d_Model_put_50 : decode prog_14_method_63_code 50 = .ok (.iload 5, 2) := by decide +kernel
theorem d_Model_put_52 : decode prog_14_method_63_code 52 = .ok (.invokevirtual 293, 3) := by decide +kernel
theorem d_Model_put_55 : decode prog_14_method_63_code 55 = .ok (.iaload, 1) := by decide +kernel
theorem d_Model_put_56 : decode prog_14_method_63_code 56 = .ok (.if_icmp .gt 21, 3) := by decide +kernel
theorem d_Model_put_59 : decode prog_14_method_63_code 59 = .ok (.iload_n 3, 1) := by decide +kernel
theorem d_Model_put_60 : decode prog_14_method_63_code 60 = .ok (.bipush 6, 2) := by decide +kernel
theorem d_Model_put_62 : decode prog_14_method_63_code 62 = .ok (.if_icmp .eq 15, 3) := by decide +kernel
theorem d_Model_put_65 : decode prog_14_method_63_code 65 = .ok (.aload_n 0, 1) := by decide +kernel
theorem d_Model_put_66 : decode prog_14_method_63_code 66 = .ok (.iload_n 1, 1) := by decide +kernel
theorem d_Model_put_67 : decode prog_14_method_63_code 67 = .ok (.iload 5, 2) := by decide +kernel
theorem d_Model_put_69 : decode prog_14_method_63_code 69 = .ok (.iload 4, 2) := by decide +kernel
theorem d_Model_put_71 : decode prog_14_method_63_code 71 = .ok (.invokevirtual 290, 3) := by decide +kernel
theorem d_Model_put_74 : decode prog_14_method_63_code 74 = .ok (.ifCond .ne 7, 3) := by decide +kernel
theorem d_Model_put_77 : decode prog_14_method_63_code 77 = .ok (.iconst 2, 1) := by decide +kernel
theorem d_Model_put_78 : decode prog_14_method_63_code 78 = .ok (.goto 4, 3) := by decide +kernel
theorem d_Model_put_81 : decode prog_14_method_63_code 81 = .ok (.iconst 0, 1) := by decide +kernel
theorem d_Model_put_82 : decode prog_14_method_63_code 82 = .ok (.putfield 101, 3) := by decide +kernel
theorem d_Model_put_85 : decode prog_14_method_63_code 85 = .ok (.aload_n 0, 1) := by decide +kernel
theorem d_Model_put_86 : decode prog_14_method_63_code 86 = .ok (.getfield 101, 3) := by decide +kernel
theorem d_Model_put_89 : decode prog_14_method_63_code 89 = .ok (.ifCond .le 5, 3) := by decide +kernel
theorem d_Model_put_92 : decode prog_14_method_63_code 92 = .ok (.iconst 0, 1) := by decide +kernel
theorem d_Model_put_93 : decode prog_14_method_63_code 93 = .ok (.ireturn, 1) := by decide +kernel
theorem d_Model_put_94 : decode prog_14_method_63_code 94 = .ok (.aload_n 0, 1) := by decide +kernel
theorem d_Model_put_95 : decode prog_14_method_63_code 95 = .ok (.iload_n 1, 1) := by decide +kernel
theorem d_Model_put_96 : decode prog_14_method_63_code 96 = .ok (.iload 5, 2) := by decide +kernel
theorem d_Model_put_98 : decode prog_14_method_63_code 98 = .ok (.invokevirtual 293, 3) := by decide +kernel
theorem d_Model_put_101 : decode prog_14_method_63_code 101 = .ok (.istore 6, 2) := by decide +kernel
theorem d_Model_put_103 : decode prog_14_method_63_code 103 = .ok (.aload_n 0, 1) := by decide +kernel
theorem d_Model_put_104 : decode prog_14_method_63_code 104 = .ok (.getfield 44, 3) := by decide +kernel
theorem d_Model_put_107 : decode prog_14_method_63_code 107 = .ok (.iload 6, 2) := by decide +kernel
theorem d_Model_put_109 : decode prog_14_method_63_code 109 = .ok (.iload_n 3, 1) := by decide +kernel
theorem d_Model_put_110 : decode prog_14_method_63_code 110 = .ok (.aload_n 0, 1) := by decide +kernel
theorem d_Model_put_111 : decode prog_14_method_63_code 111 = .ok (.getfield 44, 3) := by decide +kernel
theorem d_Model_put_114 : decode prog_14_method_63_code 114 = .ok (.iload 6, 2) := by decide +kernel
theorem d_Model_put_116 : decode prog_14_method_63_code 116 = .ok (.iaload, 1) := by decide +kernel
theorem d_Model_put_117 : decode prog_14_method_63_code 117 = .ok (.if_icmp .ne 9, 3) := by decide +kernel
theorem d_Model_put_120 : decode prog_14_method_63_code 120 = .ok (.iload_n 3, 1) := by decide +kernel
theorem d_Model_put_121 : decode prog_14_method_63_code 121 = .ok (.iconst 1, 1) := by decide +kernel
theorem d_Model_put_122 : decode prog_14_method_63_code 122 = .ok (.iadd, 1) := by decide +kernel
theorem d_Model_put_123 : decode prog_14_method_63_code 123 = .ok (.goto 10, 3) := by decide +kernel
theorem d_Model_put_126 : decode prog_14_method_63_code 126 = .ok (.aload_n 0, 1) := by decide +kernel
theorem d_Model_put_127 : decode prog_14_method_63_code 127 = .ok (.getfield 44, 3) := by decide +kernel
theorem d_Model_put_130 : decode prog_14_method_63_code 130 = .ok (.iload 6, 2) := by decide +kernel
theorem d_Model_put_132 : decode prog_14_method_63_code 132 = .ok (.iaload, 1) := by decide +kernel
theorem d_Model_put_133 : decode prog_14_method_63_code 133 = .ok (.iastore, 1) := by decide +kernel
theorem d_Model_put_134 : decode prog_14_method_63_code 134 = .ok (.aload_n 0, 1) := by decide +kernel
theorem d_Model_put_135 : decode prog_14_method_63_code 135 = .ok (.getfield 44, 3) := by decide +kernel
theorem d_Model_put_138 : decode prog_14_method_63_code 138 = .ok (.iload 6, 2) := by decide +kernel
theorem d_Model_put_140 : decode prog_14_method_63_code 140 = .ok (.iconst 1, 1) := by decide +kernel
theorem d_Model_put_141 : decode prog_14_method_63_code 141 = .ok (.iadd, 1) := by decide +kernel
theorem d_Model_put_142 : decode prog_14_method_63_code 142 = .ok (.iload_n 3, 1) := by decide +kernel
theorem d_Model_put_143 : decode prog_14_method_63_code 143 = .ok (.iadd, 1) := by decide +kernel
theorem d_Model_put_144 : decode prog_14_method_63_code 144 = .ok (.iload 4, 2) := by decide +kernel
theorem d_Model_put_146 : decode prog_14_method_63_code 146 = .ok (.iastore, 1) := by decide +kernel
theorem d_Model_put_147 : decode prog_14_method_63_code 147 = .ok (.aload_n 0, 1) := by decide +kernel
theorem d_Model_put_148 : decode prog_14_method_63_code 148 = .ok (.getfield 44, 3) := by decide +kernel
theorem d_Model_put_151 : decode prog_14_method_63_code 151 = .ok (.iload 6, 2) := by decide +kernel
theorem d_Model_put_153 : decode prog_14_method_63_code 153 = .ok (.iaload, 1) := by decide +kernel
theorem d_Model_put_154 : decode prog_14_method_63_code 154 = .ok (.ireturn, 1) := by decide +kernel
section MPub
variable {g : q_G} {sz m : Nat} {T : q_T} {I : q_I} {R : q_R} {J : q_J} {S : KA}
def m_spm (m sz : Nat) (T : q_T) (I : q_I) (R : q_R) (J : q_J) (o : KO) (v : Int32) (h' : q_H) : Prop := (o.1 = 0 → v = o.2.1) ∧ ∃ I' : q_I, h' = (sz, T, I', R, J) ∧ I' m (nI 0) = o.1 ∧ (∀ b, b < m ∨ m + 30 ≤ b → I' b = I b) ∧ relM o.2.2 m T I' R
theorem m_spm.sp {x : Nat} {o : KO} {v : Int32} {h' : q_H} (h : m_spm (x + 83) sz T I R J o v h') : m_sp x sz T I R J o v h' := by
  obtain ⟨h1, I', h2, h3, h4, h5⟩ := h
  exact ⟨h1, I', h2, h3, fun b hb => h4 b (by omega), h5⟩
theorem m_no (hM : relM S m T I R) {j : Nat} (hj : nI j ≠ 0) (v : Int32) : m_spm m sz T I R J (nI j, 0, S) v (sz, T, q_upI I m (nI 0) (nI j), R, J) :=
  ⟨fun z => absurd z hj, _, rfl, q_upI_self, (m_ps.int (by decide) (by decide) (by decide) (by decide) (by decide)).1.1, hM.ps (m_ps.int (by decide) (by decide) (by decide) (by decide) (by decide))⟩
theorem m_is (hM : relM S m T I R) (v : Int32) : m_spm m sz T I R J (0, v, S) v (sz, T, q_upI I m (nI 0) (nI 0), R, J) :=
  ⟨fun _ => rfl, _, rfl, q_upI_self, (m_ps.int (by decide) (by decide) (by decide) (by decide) (by decide)).1.1, hM.ps (m_ps.int (by decide) (by decide) (by decide) (by decide) (by decide))⟩
theorem relM.vl (hM : relM S m T I R) {v : Nat} {L : List KF} (hv : S.vs[v]? = some L) : m_vl m v L I := hM.2.1.2 v L hv
theorem relM.of (hw : wf S) (hM : relM S m T I R) {i : Nat} {c : KR} (hi : i < 16) (hc : S.rs i = some c) : ∃ L : List KF, S.vs[c.ver]? = some L ∧ k_wfV L ∧ c.ver < 8 ∧ c.val.length = L.length ∧ (∀ (i : Nat) (f : KF) (v : List Int32), L[i]? = some f → c.val[i]? = some v → k_shp f.2.1 v) ∧ m_vl m c.ver L I ∧ I (m + 10) (nI i) = nI c.ver ∧ (∀ k v, c.val[k]? = some v → k_rw (I (m + 11)) (7 * (24 * i + k)) v) ∧ m_kpt (m + 12) (m + 13) i c.kp I := by
  obtain ⟨w1, w2, w3⟩ := hw.2.2.2.1 i c hi hc
  obtain ⟨L, hL⟩ : ∃ L, S.vs[c.ver]? = some L := ⟨_, List.getElem?_eq_getElem w1⟩
  obtain ⟨a1, a2, a3⟩ := (hM.2.2.2.1 i hi).2 c hc
  have := hw.1.2.1
  exact ⟨L, hL, hw.1.2.2 L (List.mem_of_getElem? hL), by omega, (w2 L hL).1, (w2 L hL).2, hM.vl hL, a1, a2, a3⟩
theorem c_Model_fieldOf {i v : Nat} {L : List KF} {p so : Int32} (hL : q_L 11 t_Model m T R) (hi : i < 16) (hv8 : v < 8) (hr : I (m + 10) (nI i) = nI v) (hV : m_vl m v L I) (hd : k_dis L) (hok : k_okf L) (h24 : L.length ≤ 24) : q_Ci g M_Model_fieldOf [.ref m, .int (nI i), .int p, .int so] (sz, T, I, R, J) 0 0 (fun r h' => r = p_idx (a_pl L p so) ∧ h' = (sz, T, I, R, J)) := by
  have loop : ∀ (j k : Nat), k + j = L.length → (∀ (q : Nat) (f : KF), q < k → L[q]? = some f → ¬ (nI (k_path f.1) = p ∧ f.2.1 = so)) → q_V g M_Model_fieldOf 0 0 0 0 (sz, T, I, R, J) (fun o h' => ∃ r : Int32, o = .inl (some (.int r)) ∧ (r = p_idx (a_pl L p so) ∧ h' = (sz, T, I, R, J))) 11 [some (.ref m), some (.int (nI i)), some (.int p), some (.int so), some (.int (nI v)), some (.int (nI k))] [] := by
    intro j
    induction j with
    | zero =>
      intro k hk hno
      have hz : a_pl L p so = none := by
        cases ha : a_pl L p so with
        | none => rfl
        | some q =>
          obtain ⟨f, l, f1, f2, f3, f4, -⟩ := a_pl_some ha
          have hq := (List.getElem?_eq_some_iff.mp f1).1
          exact absurd ⟨(k_of_iff (hok f (List.mem_of_getElem? f1)).1 p).mpr (by rw [f2, f3]), f4⟩ (hno q f (by omega) f1)
      refine q_iload d_Model_fieldOf_11 rfl ?_
      refine q_aload_n d_Model_fieldOf_13 rfl rfl ?_
      refine q_getR (ci := 11) (fk := 2) d_Model_fieldOf_14 rfl (Nat.le_of_ble_eq_true rfl) w_1106 (fun _ _ => rfl) hL.1 (hL.2 2 _ _ _ rfl).1 ?_
      refine q_iload d_Model_fieldOf_17 rfl ?_
      refine q_iald d_Model_fieldOf_19 (hL.2 2 _ _ _ rfl).2 (by first | assumption | exact vp_in_nI (by omega) (by omega)) ?_
      rw [hV.1]
      refine q_icmp_ge (tgt := 66) d_Model_fieldOf_20 rfl (fun hc => ?_) (fun hc => ?_)
      · refine q_iconst (v := (-1)) d_Model_fieldOf_66 (by decide) ?_
        refine q_iret d_Model_fieldOf_67 rfl (by omega) (by omega) ?_
        exact ⟨_, rfl, by rw [hz]; rfl, rfl⟩
      · exact absurd (by rw [nI_leI (by omega) (by omega)]; omega) hc
    | succ j ih =>
      intro k hk hno
      have hkl : k < L.length := by omega
      obtain ⟨f, hf⟩ : ∃ f, L[k]? = some f := ⟨_, List.getElem?_eq_getElem hkl⟩
      obtain ⟨v1, v2, v3, v4⟩ := hV.2 k f hf
      have next : ¬ (nI (k_path f.1) = p ∧ f.2.1 = so) → q_V g M_Model_fieldOf 0 0 0 0 (sz, T, I, R, J) (fun o h' => ∃ r : Int32, o = .inl (some (.int r)) ∧ (r = p_idx (a_pl L p so) ∧ h' = (sz, T, I, R, J))) 60 [some (.ref m), some (.int (nI i)), some (.int p), some (.int so), some (.int (nI v)), some (.int (nI k))] [] := by
        intro hn
        first | refine q_iincN d_Model_fieldOf_60 rfl (Nat.le_of_ble_eq_true rfl) (by first | exact q_ok0 | exact q_okI rfl | exact q_okR rfl | exact q_okN rfl) rfl ?_ | refine q_iinc d_Model_fieldOf_60 rfl rfl (Nat.le_of_ble_eq_true rfl) (by first | exact q_ok0 | exact q_okI rfl | exact q_okR rfl | exact q_okN rfl) rfl ?_
        refine q_goto (tgt := 11) d_Model_fieldOf_63 rfl ?_
        refine ih (k + 1) (by omega) (fun q e hq he => ?_)
        by_cases hqk : q = k
        · subst hqk
          obtain rfl : f = e := Option.some.inj (hf.symm.trans he)
          exact hn
        · exact hno q e (by omega) he
      refine q_iload d_Model_fieldOf_11 rfl ?_
      refine q_aload_n d_Model_fieldOf_13 rfl rfl ?_
      refine q_getR (ci := 11) (fk := 2) d_Model_fieldOf_14 rfl (Nat.le_of_ble_eq_true rfl) w_1106 (fun _ _ => rfl) hL.1 (hL.2 2 _ _ _ rfl).1 ?_
      refine q_iload d_Model_fieldOf_17 rfl ?_
      refine q_iald d_Model_fieldOf_19 (hL.2 2 _ _ _ rfl).2 (by first | assumption | exact vp_in_nI (by omega) (by omega)) ?_
      rw [hV.1]
      refine q_icmp_ge (tgt := 66) d_Model_fieldOf_20 rfl (fun hc => ?_) (fun hc => ?_)
      · rw [nI_leI (by omega) (by omega)] at hc
        omega
      · refine q_aload_n d_Model_fieldOf_23 rfl rfl ?_
        refine q_getR (ci := 11) (fk := 3) d_Model_fieldOf_24 rfl (Nat.le_of_ble_eq_true rfl) w_1107 (fun _ _ => rfl) hL.1 (hL.2 3 _ _ _ rfl).1 ?_
        refine q_bipush (v := nI 24) d_Model_fieldOf_27 (by decide) ?_
        refine q_iload d_Model_fieldOf_29 rfl ?_
        first | refine q_imulN d_Model_fieldOf_31 ?_ | refine q_imul d_Model_fieldOf_31 ?_
        refine q_iload d_Model_fieldOf_32 rfl ?_
        first | refine q_iaddN d_Model_fieldOf_34 ?_ | refine q_iadd d_Model_fieldOf_34 ?_
        refine q_iald d_Model_fieldOf_35 (hL.2 3 _ _ _ rfl).2 (by first | assumption | exact vp_in_nI (by omega) (by omega)) ?_
        rw [v1]
        refine q_iload_n d_Model_fieldOf_36 rfl rfl ?_
        refine q_icmp_ne (tgt := 60) d_Model_fieldOf_37 rfl (fun hc => ?_) (fun hc => ?_)
        · have h9 : ¬ nI (k_path f.1) = p := hc
          exact next (fun z => h9 z.1)
        · have h9 : nI (k_path f.1) = p := by have := hc; exact this
          refine q_aload_n d_Model_fieldOf_40 rfl rfl ?_
          refine q_getR (ci := 11) (fk := 4) d_Model_fieldOf_41 rfl (Nat.le_of_ble_eq_true rfl) w_1108 (fun _ _ => rfl) hL.1 (hL.2 4 _ _ _ rfl).1 ?_
          refine q_bipush (v := nI 24) d_Model_fieldOf_44 (by decide) ?_
          refine q_iload d_Model_fieldOf_46 rfl ?_
          first | refine q_imulN d_Model_fieldOf_48 ?_ | refine q_imul d_Model_fieldOf_48 ?_
          refine q_iload d_Model_fieldOf_49 rfl ?_
          first | refine q_iaddN d_Model_fieldOf_51 ?_ | refine q_iadd d_Model_fieldOf_51 ?_
          refine q_iald d_Model_fieldOf_52 (hL.2 4 _ _ _ rfl).2 (by first | assumption | exact vp_in_nI (by omega) (by omega)) ?_
          rw [v2]
          refine q_iload_n d_Model_fieldOf_53 rfl rfl ?_
          refine q_icmp_ne (tgt := 60) d_Model_fieldOf_54 rfl (fun hc => ?_) (fun hc => ?_)
          · have h8 : ¬ f.2.1 = so := hc
            exact next (fun z => h8 z.2)
          · have h8 : f.2.1 = so := by have := hc; exact this
            refine q_iload d_Model_fieldOf_57 rfl ?_
            refine q_iret d_Model_fieldOf_59 rfl (by omega) (by omega) ?_
            exact ⟨_, rfl, by rw [a_pl_at hd hok hf h9 h8]; rfl, rfl⟩
  refine q_C.of (ls0 := [some (.ref m), some (.int (nI i)), some (.int p), some (.int so), none, none]) (by decide) rfl (by decide) (Nat.le_of_ble_eq_true rfl) rfl ?_
  refine q_aload_n d_Model_fieldOf_0 rfl rfl ?_
  refine q_getR (ci := 11) (fk := 14) d_Model_fieldOf_1 rfl (Nat.le_of_ble_eq_true rfl) w_1118 (fun _ _ => rfl) hL.1 (hL.2 14 _ _ _ rfl).1 ?_
  refine q_iload_n d_Model_fieldOf_4 rfl rfl ?_
  refine q_iald d_Model_fieldOf_5 (hL.2 14 _ _ _ rfl).2 (by first | assumption | exact vp_in_nI (by omega) (by omega)) ?_
  rw [hr]
  refine q_istore d_Model_fieldOf_6 (Nat.le_of_ble_eq_true rfl) (by first | exact q_ok0 | exact q_okI rfl | exact q_okR rfl | exact q_okN rfl) rfl ?_
  refine q_iconst (v := nI 0) d_Model_fieldOf_8 (by decide) ?_
  refine q_istore d_Model_fieldOf_9 (Nat.le_of_ble_eq_true rfl) (by first | exact q_ok0 | exact q_okI rfl | exact q_okR rfl | exact q_okN rfl) rfl ?_
  exact loop L.length 0 (by omega) (fun q f hq => absurd hq (Nat.not_lt_zero _))
theorem c_Model_fits {i v k : Nat} {L : List KF} {f : KF} {y : Int32} (hL : q_L 11 t_Model m T R) (hi : i < 16) (hv8 : v < 8) (hr : I (m + 10) (nI i) = nI v) (hV : m_vl m v L I) (h24 : L.length ≤ 24) (hf : L[k]? = some f) : q_Ci g M_Model_fits [.ref m, .int (nI i), .int (nI k), .int y] (sz, T, I, R, J) 0 0 (fun r h' => r = p_b (decide (f.2.2.1 ≤ y) && decide (y ≤ f.2.2.2.1)) ∧ h' = (sz, T, I, R, J)) := by
  obtain ⟨v1, v2, v3, v4⟩ := hV.2 k f hf
  have hk := (List.getElem?_eq_some_iff.mp hf).1
  refine q_C.of (ls0 := [some (.ref m), some (.int (nI i)), some (.int (nI k)), some (.int y), none]) (by decide) rfl (by decide) (Nat.le_of_ble_eq_true rfl) rfl ?_
  refine q_aload_n d_Model_fits_0 rfl rfl ?_
  refine q_getR (ci := 11) (fk := 14) d_Model_fits_1 rfl (Nat.le_of_ble_eq_true rfl) w_1118 (fun _ _ => rfl) hL.1 (hL.2 14 _ _ _ rfl).1 ?_
  refine q_iload_n d_Model_fits_4 rfl rfl ?_
  refine q_iald d_Model_fits_5 (hL.2 14 _ _ _ rfl).2 (by first | assumption | exact vp_in_nI (by omega) (by omega)) ?_
  rw [hr]
  refine q_istore d_Model_fits_6 (Nat.le_of_ble_eq_true rfl) (by first | exact q_ok0 | exact q_okI rfl | exact q_okR rfl | exact q_okN rfl) rfl ?_
  refine q_iload_n d_Model_fits_8 rfl rfl ?_
  refine q_aload_n d_Model_fits_9 rfl rfl ?_
  refine q_getR (ci := 11) (fk := 5) d_Model_fits_10 rfl (Nat.le_of_ble_eq_true rfl) w_1109 (fun _ _ => rfl) hL.1 (hL.2 5 _ _ _ rfl).1 ?_
  refine q_bipush (v := nI 24) d_Model_fits_13 (by decide) ?_
  refine q_iload d_Model_fits_15 rfl ?_
  first | refine q_imulN d_Model_fits_17 ?_ | refine q_imul d_Model_fits_17 ?_
  refine q_iload_n d_Model_fits_18 rfl rfl ?_
  first | refine q_iaddN d_Model_fits_19 ?_ | refine q_iadd d_Model_fits_19 ?_
  refine q_iald d_Model_fits_20 (hL.2 5 _ _ _ rfl).2 (by first | assumption | exact vp_in_nI (by omega) (by omega)) ?_
  rw [v3]
  refine q_icmp_lt (tgt := 44) d_Model_fits_21 rfl (fun hc => ?_) (fun hc => ?_)
  · refine q_iconst (v := nI 0) d_Model_fits_44 (by decide) ?_
    refine q_zret d_Model_fits_45 rfl (by first | exact Or.inl rfl | exact Or.inr rfl | assumption) (by omega) (by omega) ?_
    exact ⟨_, rfl, by rw [decide_eq_false (Int32.not_le.mpr hc)]; rfl, rfl⟩
  · have h1 := Int32.not_lt.mp hc
    refine q_iload_n d_Model_fits_24 rfl rfl ?_
    refine q_aload_n d_Model_fits_25 rfl rfl ?_
    refine q_getR (ci := 11) (fk := 6) d_Model_fits_26 rfl (Nat.le_of_ble_eq_true rfl) w_1110 (fun _ _ => rfl) hL.1 (hL.2 6 _ _ _ rfl).1 ?_
    refine q_bipush (v := nI 24) d_Model_fits_29 (by decide) ?_
    refine q_iload d_Model_fits_31 rfl ?_
    first | refine q_imulN d_Model_fits_33 ?_ | refine q_imul d_Model_fits_33 ?_
    refine q_iload_n d_Model_fits_34 rfl rfl ?_
    first | refine q_iaddN d_Model_fits_35 ?_ | refine q_iadd d_Model_fits_35 ?_
    refine q_iald d_Model_fits_36 (hL.2 6 _ _ _ rfl).2 (by first | assumption | exact vp_in_nI (by omega) (by omega)) ?_
    rw [v4]
    refine q_icmp_gt (tgt := 44) d_Model_fits_37 rfl (fun hc => ?_) (fun hc => ?_)
    · refine q_iconst (v := nI 0) d_Model_fits_44 (by decide) ?_
      refine q_zret d_Model_fits_45 rfl (by first | exact Or.inl rfl | exact Or.inr rfl | assumption) (by omega) (by omega) ?_
      exact ⟨_, rfl, by rw [decide_eq_false (Int32.not_le.mpr hc), Bool.and_false]; rfl, rfl⟩
    · refine q_iconst (v := nI 1) d_Model_fits_40 (by decide) ?_
      refine q_goto (tgt := 45) d_Model_fits_41 rfl ?_
      refine q_zret d_Model_fits_45 rfl (by first | exact Or.inl rfl | exact Or.inr rfl | assumption) (by omega) (by omega) ?_
      exact ⟨_, rfl, by rw [decide_eq_true h1, decide_eq_true (Int32.not_lt.mp hc)]; rfl, rfl⟩

theorem c_Model_version_no (hw : wf S) (hM : relM S m T I R) {v : Int32} (hb : k_ish S.lv v = false) : q_Ci g M_Model_version [.ref m, .int v] (sz, T, I, R, J) 0 0 (m_spm m sz T I R J (nI 1, 0, S)) := by
  have hL := hM.1
  have hH := hM.mh hw
  refine q_C.of (ls0 := [some (.ref m), some (.int v)]) (by decide) rfl (by decide) (Nat.le_of_ble_eq_true rfl) rfl ?_
  refine q_aload_n d_Model_version_0 rfl rfl ?_
  refine q_aload_n d_Model_version_1 rfl rfl ?_
  refine q_iload_n d_Model_version_2 rfl rfl ?_
  refine q_callVi (M2 := M_Model_isRecordHandle) d_Model_version_3 ⟨(Nat.le_of_ble_eq_true rfl), (Nat.le_of_ble_eq_true rfl), w_1417, w_10, ⟨by decide, by decide⟩, show _ = some 1 by decide +kernel⟩ w_1414 w_1416 (ci := 11) rfl s_74 hL.1 rfl (Nat.le_of_ble_eq_true rfl) (by omega) (by omega) (c_Model_isRecordHandle hL hH v) ?_
  rintro _ _ ⟨rfl, rfl⟩
  rw [hb]
  refine q_if_eq (tgt := 13) d_Model_version_6 rfl (fun hc => ?_) (fun hc => ?_)
  rotate_left
  · exact absurd rfl hc
  refine q_iconst (v := nI 1) d_Model_version_13 (by decide) ?_
  refine q_putI (ci := 11) (fk := 0) d_Model_version_14 rfl (Nat.le_of_ble_eq_true rfl) w_1104 (Or.inl rfl) (fun _ _ => rfl) rfl rfl hL.1 ?_
  refine q_aload_n d_Model_version_17 rfl rfl ?_
  refine q_getI (ci := 11) (fk := 0) d_Model_version_18 rfl (Nat.le_of_ble_eq_true rfl) w_1104 (fun _ _ => rfl) hL.1 ?_
  rw [q_upI_self]
  refine q_if_le (tgt := 28) d_Model_version_21 rfl (fun hc => ?_) (fun hc => ?_)
  · exact absurd hc (by decide)
  · refine q_iconst (v := nI 0) d_Model_version_24 (by decide) ?_
    refine q_goto (tgt := 34) d_Model_version_25 rfl ?_
    refine q_iret d_Model_version_34 rfl (by omega) (by omega) ?_
    exact ⟨_, rfl, m_no hM (by decide) _⟩

theorem c_Model_drop_no (hw : wf S) (hM : relM S m T I R) {v : Int32} (hb : k_ish S.lv v = false) : q_Cv g M_Model_drop [.ref m, .int v] (sz, T, I, R, J) 0 0 (m_spm m sz T I R J (nI 1, 0, S) 0) := by
  have hL := hM.1
  have hH := hM.mh hw
  refine q_C.of (ls0 := [some (.ref m), some (.int v)]) (by decide) rfl (by decide) (Nat.le_of_ble_eq_true rfl) rfl ?_
  refine q_aload_n d_Model_drop_0 rfl rfl ?_
  refine q_aload_n d_Model_drop_1 rfl rfl ?_
  refine q_iload_n d_Model_drop_2 rfl rfl ?_
  refine q_callVi (M2 := M_Model_isRecordHandle) d_Model_drop_3 ⟨(Nat.le_of_ble_eq_true rfl), (Nat.le_of_ble_eq_true rfl), w_1417, w_10, ⟨by decide, by decide⟩, show _ = some 1 by decide +kernel⟩ w_1414 w_1416 (ci := 11) rfl s_74 hL.1 rfl (Nat.le_of_ble_eq_true rfl) (by omega) (by omega) (c_Model_isRecordHandle hL hH v) ?_
  rintro _ _ ⟨rfl, rfl⟩
  rw [hb]
  refine q_if_eq (tgt := 13) d_Model_drop_6 rfl (fun hc => ?_) (fun hc => ?_)
  rotate_left
  · exact absurd rfl hc
  refine q_iconst (v := nI 1) d_Model_drop_13 (by decide) ?_
  refine q_putI (ci := 11) (fk := 0) d_Model_drop_14 rfl (Nat.le_of_ble_eq_true rfl) w_1104 (Or.inl rfl) (fun _ _ => rfl) rfl rfl hL.1 ?_
  refine q_aload_n d_Model_drop_17 rfl rfl ?_
  refine q_getI (ci := 11) (fk := 0) d_Model_drop_18 rfl (Nat.le_of_ble_eq_true rfl) w_1104 (fun _ _ => rfl) hL.1 ?_
  rw [q_upI_self]
  refine q_if_ne (tgt := 31) d_Model_drop_21 rfl (fun hc => ?_) (fun hc => ?_)
  · refine q_vret d_Model_drop_31 rfl (by omega) (by omega) ?_
    exact ⟨rfl, m_no hM (by decide) _⟩
  · exact absurd hc (by decide)

theorem c_Model_version (hw : wf S) (hM : relM S m T I R) {i : Nat} {c : KR} (hi : i < 16) (hc : S.rs i = some c) (hb : k_ish S.lv (nI i) = true) : q_Ci g M_Model_version [.ref m, .int (nI i)] (sz, T, I, R, J) 0 0 (m_spm m sz T I R J (0, nI c.ver, S)) := by
  have hL := hM.1
  have hH := hM.mh hw
  obtain ⟨L, e1, e2, e3, e4, e5, e6, e7, e8, e9⟩ := hM.of hw hi hc
  refine q_C.of (ls0 := [some (.ref m), some (.int (nI i))]) (by decide) rfl (by decide) (Nat.le_of_ble_eq_true rfl) rfl ?_
  refine q_aload_n d_Model_version_0 rfl rfl ?_
  refine q_aload_n d_Model_version_1 rfl rfl ?_
  refine q_iload_n d_Model_version_2 rfl rfl ?_
  refine q_callVi (M2 := M_Model_isRecordHandle) d_Model_version_3 ⟨(Nat.le_of_ble_eq_true rfl), (Nat.le_of_ble_eq_true rfl), w_1417, w_10, ⟨by decide, by decide⟩, show _ = some 1 by decide +kernel⟩ w_1414 w_1416 (ci := 11) rfl s_74 hL.1 rfl (Nat.le_of_ble_eq_true rfl) (by omega) (by omega) (c_Model_isRecordHandle hL hH _) ?_
  rintro _ _ ⟨rfl, rfl⟩
  rw [hb]
  refine q_if_eq (tgt := 13) d_Model_version_6 rfl (fun hc => ?_) (fun hc => ?_)
  · exact absurd hc (by decide)
  refine q_iconst (v := nI 0) d_Model_version_9 (by decide) ?_
  refine q_goto (tgt := 14) d_Model_version_10 rfl ?_
  refine q_putI (ci := 11) (fk := 0) d_Model_version_14 rfl (Nat.le_of_ble_eq_true rfl) w_1104 (Or.inl rfl) (fun _ _ => rfl) rfl rfl hL.1 ?_
  refine q_aload_n d_Model_version_17 rfl rfl ?_
  refine q_getI (ci := 11) (fk := 0) d_Model_version_18 rfl (Nat.le_of_ble_eq_true rfl) w_1104 (fun _ _ => rfl) hL.1 ?_
  rw [q_upI_self]
  refine q_if_le (tgt := 28) d_Model_version_21 rfl (fun hc => ?_) (fun hc => ?_)
  · refine q_aload_n d_Model_version_28 rfl rfl ?_
    refine q_getR (ci := 11) (fk := 14) d_Model_version_29 rfl (Nat.le_of_ble_eq_true rfl) w_1118 (fun _ _ => rfl) hL.1 (hL.2 14 _ _ _ rfl).1 ?_
    refine q_iload_n d_Model_version_32 rfl rfl ?_
    refine q_iald d_Model_version_33 (hL.2 14 _ _ _ rfl).2 (by first | assumption | exact vp_in_nI (by omega) (by omega)) ?_
    rw [q_upI_nea (by omega), e7]
    refine q_iret d_Model_version_34 rfl (by omega) (by omega) ?_
    exact ⟨_, rfl, m_is hM _⟩
  · exact absurd (Int32.le_refl _) hc

/-- another record stands under the handle -/
theorem relM.row (hM : relM S m T I R) {i : Nat} {o : Option KR} {I' : q_I} (hp : m_p9 m I I') (h1 : o = none → I' (m + 10) (nI i) = -1) (h2 : ∀ c, o = some c → I' (m + 10) (nI i) = nI c.ver ∧ (∀ k v, c.val[k]? = some v → k_rw (I' (m + 11)) (7 * (24 * i + k)) v) ∧ m_kpt (m + 12) (m + 13) i c.kp I')
    (h3 : ∀ h, h < 16 → h ≠ i → I' (m + 10) (nI h) = I (m + 10) (nI h) ∧ (∀ j, 168 * h ≤ j → j < 168 * h + 168 → I' (m + 11) (nI j) = I (m + 11) (nI j)) ∧ (∀ j, 128 * h ≤ j → j < 128 * h + 128 → I' (m + 12) (nI j) = I (m + 12) (nI j)) ∧ ∀ j, 1792 * h ≤ j → j < 1792 * h + 1792 → I' (m + 13) (nI j) = I (m + 13) (nI j)) (h24 : ∀ h c, h < 16 → S.rs h = some c → c.val.length ≤ 24) : relM (S.setR i o) m T I' R := by
  refine hM.p9 hp (fun h hh => ?_)
  by_cases hi : h = i
  · subst hi
    have e : (if h = h then o else S.rs h) = o := if_pos rfl
    rw [e]
    exact ⟨h1, h2⟩
  · have e : (if h = i then o else S.rs h) = S.rs h := if_neg hi
    rw [e]
    obtain ⟨a1, a2⟩ := hM.2.2.2.1 h hh
    obtain ⟨b1, b2, b3, b4⟩ := h3 h hh hi
    refine ⟨fun z => by rw [b1]; exact a1 z, fun c hc => ?_⟩
    obtain ⟨c1, c2, c3⟩ := a2 c hc
    have hl := h24 h c hh hc
    refine ⟨by rw [b1]; exact c1, fun k v hk => ?_, fun k hk => ?_⟩
    · have hk2 := (List.getElem?_eq_some_iff.mp hk).1
      exact (c2 k v hk).cong (fun j j1 j2 => b2 j (by omega) (by omega))
    · obtain ⟨d1, d2, d3⟩ := c3 k hk
      exact ⟨by rw [b3 _ (by omega) (by omega)]; exact d1, fun z => (d2 z).cong (fun j j1 j2 => b4 j (by omega) (by omega)), fun z => (d3 z).cong (fun j j1 j2 => b4 j (by omega) (by omega))⟩
theorem wf.v24 (hw : wf S) {h : Nat} {c : KR} (hh : h < 16) (hc : S.rs h = some c) : c.val.length ≤ 24 := by
  obtain ⟨w1, w2, -⟩ := hw.2.2.2.1 h c hh hc
  obtain ⟨L, hL⟩ : ∃ L, S.vs[c.ver]? = some L := ⟨_, List.getElem?_eq_getElem w1⟩
  rw [(w2 L hL).1]
  exact (hw.1.2.2 L (List.mem_of_getElem? hL)).1.1

theorem c_Model_drop (hw : wf S) (hM : relM S m T I R) {i : Nat} {c : KR} (hi : i < 16) (hc : S.rs i = some c) (hb : k_ish S.lv (nI i) = true) : q_Cv g M_Model_drop [.ref m, .int (nI i)] (sz, T, I, R, J) 0 0 (m_spm m sz T I R J (0, 0, S.setR i none) 0) := by
  have hL := hM.1
  have hH := hM.mh hw
  obtain ⟨L, e1, e2, e3, e4, e5, e6, e7, e8, e9⟩ := hM.of hw hi hc
  refine q_C.of (ls0 := [some (.ref m), some (.int (nI i))]) (by decide) rfl (by decide) (Nat.le_of_ble_eq_true rfl) rfl ?_
  refine q_aload_n d_Model_drop_0 rfl rfl ?_
  refine q_aload_n d_Model_drop_1 rfl rfl ?_
  refine q_iload_n d_Model_drop_2 rfl rfl ?_
  refine q_callVi (M2 := M_Model_isRecordHandle) d_Model_drop_3 ⟨(Nat.le_of_ble_eq_true rfl), (Nat.le_of_ble_eq_true rfl), w_1417, w_10, ⟨by decide, by decide⟩, show _ = some 1 by decide +kernel⟩ w_1414 w_1416 (ci := 11) rfl s_74 hL.1 rfl (Nat.le_of_ble_eq_true rfl) (by omega) (by omega) (c_Model_isRecordHandle hL hH _) ?_
  rintro _ _ ⟨rfl, rfl⟩
  rw [hb]
  refine q_if_eq (tgt := 13) d_Model_drop_6 rfl (fun hc => ?_) (fun hc => ?_)
  · exact absurd hc (by decide)
  refine q_iconst (v := nI 0) d_Model_drop_9 (by decide) ?_
  refine q_goto (tgt := 14) d_Model_drop_10 rfl ?_
  refine q_putI (ci := 11) (fk := 0) d_Model_drop_14 rfl (Nat.le_of_ble_eq_true rfl) w_1104 (Or.inl rfl) (fun _ _ => rfl) rfl rfl hL.1 ?_
  refine q_aload_n d_Model_drop_17 rfl rfl ?_
  refine q_getI (ci := 11) (fk := 0) d_Model_drop_18 rfl (Nat.le_of_ble_eq_true rfl) w_1104 (fun _ _ => rfl) hL.1 ?_
  rw [q_upI_self]
  refine q_if_ne (tgt := 31) d_Model_drop_21 rfl (fun hc => ?_) (fun hc => ?_)
  · exact absurd rfl hc
  · refine q_aload_n d_Model_drop_24 rfl rfl ?_
    refine q_getR (ci := 11) (fk := 14) d_Model_drop_25 rfl (Nat.le_of_ble_eq_true rfl) w_1118 (fun _ _ => rfl) hL.1 (hL.2 14 _ _ _ rfl).1 ?_
    refine q_iload_n d_Model_drop_28 rfl rfl ?_
    refine q_iconst (v := (-1)) d_Model_drop_29 (by decide) ?_
    refine q_iast d_Model_drop_30 (hL.2 14 _ _ _ rfl).2 (by first | assumption | exact vp_in_nI (by omega) (by omega)) ?_
    refine q_vret d_Model_drop_31 rfl (by omega) (by omega) ?_
    refine ⟨rfl, fun _ => rfl, _, rfl, by rw [q_upI_nea (by omega), q_upI_self]; rfl, fun b hb => by funext j; rw [q_upI_nea (by omega), q_upI_nea (by omega)], hM.row (o := none) ⟨fun b hb => by funext j; rw [q_upI_nea (by omega), q_upI_nea (by omega)], fun j j1 j2 => by funext q; rw [q_upI_nea (by omega), q_upI_nea (by omega)], ?_, ?_, ?_, ?_⟩ (fun _ => q_upI_self) (fun c hc => by cases hc) (fun h hh hne => ⟨by rw [q_upI_nk (by omega), q_upI_nea (by omega)], fun j j1 j2 => by rw [q_upI_nea (by omega), q_upI_nea (by omega)], fun j j1 j2 => by rw [q_upI_nea (by omega), q_upI_nea (by omega)], fun j j1 j2 => by rw [q_upI_nea (by omega), q_upI_nea (by omega)]⟩) (fun h c hh hc => hw.v24 hh hc)⟩
    · rw [q_upI_nea (by omega), q_upI_nk (by omega)]
    · rw [q_upI_nea (by omega), q_upI_nk (by omega)]
    · rw [q_upI_nea (by omega), q_upI_nk (by omega)]
    · rw [q_upI_nea (by omega), q_upI_nk (by omega)]

theorem c_Model_kept_no (hw : wf S) (hM : relM S m T I R) {v : Int32} (hb : k_ish S.lv v = false) : q_Ci g M_Model_kept [.ref m, .int v] (sz, T, I, R, J) 0 0 (m_spm m sz T I R J (nI 1, 0, S)) := by
  have hL := hM.1
  have hH := hM.mh hw
  refine q_C.of (ls0 := [some (.ref m), some (.int v), none, none]) (by decide) rfl (by decide) (Nat.le_of_ble_eq_true rfl) rfl ?_
  refine q_aload_n d_Model_kept_0 rfl rfl ?_
  refine q_aload_n d_Model_kept_1 rfl rfl ?_
  refine q_iload_n d_Model_kept_2 rfl rfl ?_
  refine q_callVi (M2 := M_Model_isRecordHandle) d_Model_kept_3 ⟨(Nat.le_of_ble_eq_true rfl), (Nat.le_of_ble_eq_true rfl), w_1417, w_10, ⟨by decide, by decide⟩, show _ = some 1 by decide +kernel⟩ w_1414 w_1416 (ci := 11) rfl s_74 hL.1 rfl (Nat.le_of_ble_eq_true rfl) (by omega) (by omega) (c_Model_isRecordHandle hL hH v) ?_
  rintro _ _ ⟨rfl, rfl⟩
  rw [hb]
  refine q_if_eq (tgt := 13) d_Model_kept_6 rfl (fun hc => ?_) (fun hc => ?_)
  rotate_left
  · exact absurd rfl hc
  refine q_iconst (v := nI 1) d_Model_kept_13 (by decide) ?_
  refine q_putI (ci := 11) (fk := 0) d_Model_kept_14 rfl (Nat.le_of_ble_eq_true rfl) w_1104 (Or.inl rfl) (fun _ _ => rfl) rfl rfl hL.1 ?_
  refine q_iconst (v := nI 0) d_Model_kept_17 (by decide) ?_
  refine q_istore_n d_Model_kept_18 rfl (Nat.le_of_ble_eq_true rfl) (by first | exact q_ok0 | exact q_okI rfl | exact q_okR rfl | exact q_okN rfl) rfl ?_
  refine q_iconst (v := nI 0) d_Model_kept_19 (by decide) ?_
  refine q_istore_n d_Model_kept_20 rfl (Nat.le_of_ble_eq_true rfl) (by first | exact q_ok0 | exact q_okI rfl | exact q_okR rfl | exact q_okN rfl) rfl ?_
  refine q_iload_n d_Model_kept_21 rfl rfl ?_
  refine q_sipush (v := nI 128) d_Model_kept_22 (by decide) ?_
  refine q_icmp_ge (tgt := 64) d_Model_kept_25 rfl (fun hc => ?_) (fun hc => ?_)
  · exact absurd hc (by decide)
  · refine q_aload_n d_Model_kept_28 rfl rfl ?_
    refine q_getI (ci := 11) (fk := 0) d_Model_kept_29 rfl (Nat.le_of_ble_eq_true rfl) w_1104 (fun _ _ => rfl) hL.1 ?_
    rw [q_upI_self]
    refine q_if_ne (tgt := 64) d_Model_kept_32 rfl (fun hc => ?_) (fun hc => ?_)
    · refine q_iload_n d_Model_kept_64 rfl rfl ?_
      refine q_iret d_Model_kept_65 rfl (by omega) (by omega) ?_
      exact ⟨_, rfl, m_no hM (by decide) _⟩
    · exact absurd hc (by decide)

theorem c_Model_kept (hw : wf S) (hM : relM S m T I R) {i : Nat} {c : KR} (hi : i < 16) (hc : S.rs i = some c) (hb : k_ish S.lv (nI i) = true) : q_Ci g M_Model_kept [.ref m, .int (nI i)] (sz, T, I, R, J) 0 0 (m_spm m sz T I R J (0, nI (a_kn c.kp 0 128), S)) := by
  have hL := hM.1
  have hH := hM.mh hw
  obtain ⟨L, e1, e2, e3, e4, e5, e6, e7, e8, e9⟩ := hM.of hw hi hc
  have loop : ∀ (j k n mcc msc : Nat), mcc = 0 → msc = 0 → k + j = 128 → n ≤ k → n + a_kn c.kp k j = a_kn c.kp 0 128 → q_V g M_Model_kept 0 0 mcc msc (sz, T, q_upI I m (nI 0) (nI 0), R, J) (fun o h' => ∃ r : Int32, o = .inl (some (.int r)) ∧ m_spm m sz T I R J (0, nI (a_kn c.kp 0 128), S) r h') 21 [some (.ref m), some (.int (nI i)), some (.int (nI n)), some (.int (nI k))] [] := by
    intro j
    induction j with
    | zero =>
      intro k n mcc msc m1 m2 hk hn he
      subst m1 m2
      obtain rfl : k = 128 := by omega
      refine q_iload_n d_Model_kept_21 rfl rfl ?_
      refine q_sipush (v := nI 128) d_Model_kept_22 (by decide) ?_
      refine q_icmp_ge (tgt := 64) d_Model_kept_25 rfl (fun hc => ?_) (fun hc => ?_)
      · refine q_iload_n d_Model_kept_64 rfl rfl ?_
        refine q_iret d_Model_kept_65 rfl (by omega) (by omega) ?_
        have : n = a_kn c.kp 0 128 := he
        rw [← this]
        exact ⟨_, rfl, m_is hM _⟩
      · exact absurd (Int32.le_refl _) hc
    | succ j ih =>
      intro k n mcc msc m1 m2 hk hn he
      subst m1 m2
      obtain ⟨k1, -, -⟩ := e9 k (by omega)
      have hkn : (c.kp k).1 < 2 ^ 31 := by
        rcases (hw.2.2.2.1 i c hi ‹_›).2.2 k (by omega) with z | ⟨p, -, ⟨-, z⟩ | ⟨-, z, -⟩⟩
        · omega
        · omega
        · omega
      rw [a_kn] at he
      refine q_iload_n d_Model_kept_21 rfl rfl ?_
      refine q_sipush (v := nI 128) d_Model_kept_22 (by decide) ?_
      refine q_icmp_ge (tgt := 64) d_Model_kept_25 rfl (fun hc => ?_) (fun hc => ?_)
      · rw [nI_leI (by omega) (by omega)] at hc
        omega
      · refine q_aload_n d_Model_kept_28 rfl rfl ?_
        refine q_getI (ci := 11) (fk := 0) d_Model_kept_29 rfl (Nat.le_of_ble_eq_true rfl) w_1104 (fun _ _ => rfl) hL.1 ?_
        rw [q_upI_self]
        refine q_if_ne (tgt := 64) d_Model_kept_32 rfl (fun hc => ?_) (fun hc => ?_)
        · exact absurd rfl hc
        · refine q_aload_n d_Model_kept_35 rfl rfl ?_
          refine q_getR (ci := 11) (fk := 16) d_Model_kept_36 rfl (Nat.le_of_ble_eq_true rfl) w_1120 (fun _ _ => rfl) hL.1 (hL.2 16 _ _ _ rfl).1 ?_
          refine q_sipush (v := nI 128) d_Model_kept_39 (by decide) ?_
          refine q_iload_n d_Model_kept_42 rfl rfl ?_
          first | refine q_imulN d_Model_kept_43 ?_ | refine q_imul d_Model_kept_43 ?_
          refine q_iload_n d_Model_kept_44 rfl rfl ?_
          first | refine q_iaddN d_Model_kept_45 ?_ | refine q_iadd d_Model_kept_45 ?_
          refine q_iald d_Model_kept_46 (hL.2 16 _ _ _ rfl).2 (by first | assumption | exact vp_in_nI (by omega) (by omega)) ?_
          rw [q_upI_nea (by omega), k1]
          by_cases hz : (c.kp k).1 = 0
          · rw [if_pos hz] at he
            rw [hz]
            refine q_if_le (tgt := 56) d_Model_kept_47 rfl (fun hc => ?_) (fun hc => ?_)
            · refine q_iload_n d_Model_kept_56 rfl rfl ?_
              refine q_istore_n d_Model_kept_57 rfl (Nat.le_of_ble_eq_true rfl) (by first | exact q_ok0 | exact q_okI rfl | exact q_okR rfl | exact q_okN rfl) rfl ?_
              first | refine q_iincN d_Model_kept_58 rfl (Nat.le_of_ble_eq_true rfl) (by first | exact q_ok0 | exact q_okI rfl | exact q_okR rfl | exact q_okN rfl) rfl ?_ | refine q_iinc d_Model_kept_58 rfl rfl (Nat.le_of_ble_eq_true rfl) (by first | exact q_ok0 | exact q_okI rfl | exact q_okR rfl | exact q_okN rfl) rfl ?_
              refine q_goto (tgt := 21) d_Model_kept_61 rfl ?_
              exact ih (k + 1) n _ _ rfl rfl (by omega) (by omega) (by omega)
            · exact absurd (Int32.le_refl _) hc
          · rw [if_neg hz] at he
            refine q_if_le (tgt := 56) d_Model_kept_47 rfl (fun hc => ?_) (fun hc => ?_)
            · exact absurd hc (nI_nle (by omega) hkn)
            · refine q_iload_n d_Model_kept_50 rfl rfl ?_
              refine q_iconst (v := nI 1) d_Model_kept_51 (by decide) ?_
              first | refine q_iaddN d_Model_kept_52 ?_ | refine q_iadd d_Model_kept_52 ?_
              refine q_goto (tgt := 57) d_Model_kept_53 rfl ?_
              refine q_istore_n d_Model_kept_57 rfl (Nat.le_of_ble_eq_true rfl) (by first | exact q_ok0 | exact q_okI rfl | exact q_okR rfl | exact q_okN rfl) rfl ?_
              first | refine q_iincN d_Model_kept_58 rfl (Nat.le_of_ble_eq_true rfl) (by first | exact q_ok0 | exact q_okI rfl | exact q_okR rfl | exact q_okN rfl) rfl ?_ | refine q_iinc d_Model_kept_58 rfl rfl (Nat.le_of_ble_eq_true rfl) (by first | exact q_ok0 | exact q_okI rfl | exact q_okR rfl | exact q_okN rfl) rfl ?_
              refine q_goto (tgt := 21) d_Model_kept_61 rfl ?_
              exact ih (k + 1) (n + 1) _ _ rfl rfl (by omega) (by omega) (by omega)
  refine q_C.of (ls0 := [some (.ref m), some (.int (nI i)), none, none]) (by decide) rfl (by decide) (Nat.le_of_ble_eq_true rfl) rfl ?_
  refine q_aload_n d_Model_kept_0 rfl rfl ?_
  refine q_aload_n d_Model_kept_1 rfl rfl ?_
  refine q_iload_n d_Model_kept_2 rfl rfl ?_
  refine q_callVi (M2 := M_Model_isRecordHandle) d_Model_kept_3 ⟨(Nat.le_of_ble_eq_true rfl), (Nat.le_of_ble_eq_true rfl), w_1417, w_10, ⟨by decide, by decide⟩, show _ = some 1 by decide +kernel⟩ w_1414 w_1416 (ci := 11) rfl s_74 hL.1 rfl (Nat.le_of_ble_eq_true rfl) (by omega) (by omega) (c_Model_isRecordHandle hL hH _) ?_
  rintro _ _ ⟨rfl, rfl⟩
  rw [hb]
  refine q_if_eq (tgt := 13) d_Model_kept_6 rfl (fun hc => ?_) (fun hc => ?_)
  · exact absurd hc (by decide)
  refine q_iconst (v := nI 0) d_Model_kept_9 (by decide) ?_
  refine q_goto (tgt := 14) d_Model_kept_10 rfl ?_
  refine q_putI (ci := 11) (fk := 0) d_Model_kept_14 rfl (Nat.le_of_ble_eq_true rfl) w_1104 (Or.inl rfl) (fun _ _ => rfl) rfl rfl hL.1 ?_
  refine q_iconst (v := nI 0) d_Model_kept_17 (by decide) ?_
  refine q_istore_n d_Model_kept_18 rfl (Nat.le_of_ble_eq_true rfl) (by first | exact q_ok0 | exact q_okI rfl | exact q_okR rfl | exact q_okN rfl) rfl ?_
  refine q_iconst (v := nI 0) d_Model_kept_19 (by decide) ?_
  refine q_istore_n d_Model_kept_20 rfl (Nat.le_of_ble_eq_true rfl) (by first | exact q_ok0 | exact q_okI rfl | exact q_okR rfl | exact q_okN rfl) rfl ?_
  exact loop 128 0 0 _ _ rfl rfl rfl (by omega) (by omega)

theorem c_Model_get_no (hw : wf S) (hM : relM S m T I R) {v p : Int32} (hb : k_ish S.lv v = false) : q_Ci g M_Model_get [.ref m, .int v, .int p] (sz, T, I, R, J) 0 0 (m_spm m sz T I R J (nI 1, 0, S)) := by
  have hL := hM.1
  have hH := hM.mh hw
  refine q_C.of (ls0 := [some (.ref m), some (.int v), some (.int p), none]) (by decide) rfl (by decide) (Nat.le_of_ble_eq_true rfl) rfl ?_
  refine q_aload_n d_Model_get_0 rfl rfl ?_
  refine q_iload_n d_Model_get_1 rfl rfl ?_
  refine q_callVi (M2 := M_Model_isRecordHandle) d_Model_get_2 ⟨(Nat.le_of_ble_eq_true rfl), (Nat.le_of_ble_eq_true rfl), w_1417, w_10, ⟨by decide, by decide⟩, show _ = some 1 by decide +kernel⟩ w_1414 w_1416 (ci := 11) rfl s_74 hL.1 rfl (Nat.le_of_ble_eq_true rfl) (by omega) (by omega) (c_Model_isRecordHandle hL hH v) ?_
  rintro _ _ ⟨rfl, rfl⟩
  rw [hb]
  refine q_if_eq (tgt := 18) d_Model_get_5 rfl (fun hc => ?_) (fun hc => ?_)
  rotate_left
  · exact absurd rfl hc
  refine q_iconst (v := (-1)) d_Model_get_18 (by decide) ?_
  refine q_istore_n d_Model_get_19 rfl (Nat.le_of_ble_eq_true rfl) (by first | exact q_ok0 | exact q_okI rfl | exact q_okR rfl | exact q_okN rfl) rfl ?_
  refine q_aload_n d_Model_get_20 rfl rfl ?_
  refine q_aload_n d_Model_get_21 rfl rfl ?_
  refine q_iload_n d_Model_get_22 rfl rfl ?_
  refine q_callVi (M2 := M_Model_isRecordHandle) d_Model_get_23 ⟨(Nat.le_of_ble_eq_true rfl), (Nat.le_of_ble_eq_true rfl), w_1417, w_10, ⟨by decide, by decide⟩, show _ = some 1 by decide +kernel⟩ w_1414 w_1416 (ci := 11) rfl s_74 hL.1 rfl (Nat.le_of_ble_eq_true rfl) (by omega) (by omega) (c_Model_isRecordHandle hL hH v) ?_
  rintro _ _ ⟨rfl, rfl⟩
  rw [hb]
  refine q_if_ne (tgt := 33) d_Model_get_26 rfl (fun hc => ?_) (fun hc => ?_)
  · exact absurd rfl hc
  refine q_iconst (v := nI 1) d_Model_get_29 (by decide) ?_
  refine q_goto (tgt := 42) d_Model_get_30 rfl ?_
  refine q_putI (ci := 11) (fk := 0) d_Model_get_42 rfl (Nat.le_of_ble_eq_true rfl) w_1104 (Or.inl rfl) (fun _ _ => rfl) rfl rfl hL.1 ?_
  refine q_aload_n d_Model_get_45 rfl rfl ?_
  refine q_getI (ci := 11) (fk := 0) d_Model_get_46 rfl (Nat.le_of_ble_eq_true rfl) w_1104 (fun _ _ => rfl) hL.1 ?_
  rw [q_upI_self]
  refine q_if_le (tgt := 56) d_Model_get_49 rfl (fun hc => ?_) (fun hc => ?_)
  · exact absurd hc (by decide)
  · refine q_iconst (v := nI 0) d_Model_get_52 (by decide) ?_
    refine q_goto (tgt := 69) d_Model_get_53 rfl ?_
    refine q_iret d_Model_get_69 rfl (by omega) (by omega) ?_
    exact ⟨_, rfl, m_no hM (by decide) _⟩

theorem c_Model_get_no2 (hw : wf S) (hM : relM S m T I R) {i : Nat} {c : KR} {L : List KF} {p : Int32} (hi : i < 16) (hc : S.rs i = some c) (hb : k_ish S.lv (nI i) = true) (hV : S.vs[c.ver]? = some L) (hp : a_pl L p 0 = none) : q_Ci g M_Model_get [.ref m, .int (nI i), .int p] (sz, T, I, R, J) 0 0 (m_spm m sz T I R J (nI 2, 0, S)) := by
  have hL := hM.1
  have hH := hM.mh hw
  obtain ⟨L2, e1, e2, e3, e4, e5, e6, e7, e8, e9⟩ := hM.of hw hi hc
  obtain rfl : L = L2 := Option.some.inj (hV.symm.trans e1)
  refine q_C.of (ls0 := [some (.ref m), some (.int (nI i)), some (.int p), none]) (by decide) rfl (by decide) (Nat.le_of_ble_eq_true rfl) rfl ?_
  refine q_aload_n d_Model_get_0 rfl rfl ?_
  refine q_iload_n d_Model_get_1 rfl rfl ?_
  refine q_callVi (M2 := M_Model_isRecordHandle) d_Model_get_2 ⟨(Nat.le_of_ble_eq_true rfl), (Nat.le_of_ble_eq_true rfl), w_1417, w_10, ⟨by decide, by decide⟩, show _ = some 1 by decide +kernel⟩ w_1414 w_1416 (ci := 11) rfl s_74 hL.1 rfl (Nat.le_of_ble_eq_true rfl) (by omega) (by omega) (c_Model_isRecordHandle hL hH _) ?_
  rintro _ _ ⟨rfl, rfl⟩
  rw [hb]
  refine q_if_eq (tgt := 18) d_Model_get_5 rfl (fun hc => ?_) (fun hc => ?_)
  · exact absurd hc (by decide)
  refine q_aload_n d_Model_get_8 rfl rfl ?_
  refine q_iload_n d_Model_get_9 rfl rfl ?_
  refine q_iload_n d_Model_get_10 rfl rfl ?_
  refine q_iconst (v := nI 0) d_Model_get_11 (by decide) ?_
  refine q_callVi (M2 := M_Model_fieldOf) d_Model_get_12 ⟨(Nat.le_of_ble_eq_true rfl), (Nat.le_of_ble_eq_true rfl), w_1429, w_10, ⟨by decide, by decide⟩, show _ = some 3 by decide +kernel⟩ w_1426 w_1428 (ci := 11) rfl s_75 hL.1 rfl (Nat.le_of_ble_eq_true rfl) (by omega) (by omega) (c_Model_fieldOf (so := nI 0) hL hi e3 e7 e6 e2.1.2.2.1 e2.1.2.1 e2.1.1) ?_
  rintro _ _ ⟨rfl, rfl⟩
  rw [show a_pl L p (nI 0) = none from hp]
  refine q_goto (tgt := 19) d_Model_get_15 rfl ?_
  refine q_istore_n d_Model_get_19 rfl (Nat.le_of_ble_eq_true rfl) (by first | exact q_ok0 | exact q_okI rfl | exact q_okR rfl | exact q_okN rfl) rfl ?_
  refine q_aload_n d_Model_get_20 rfl rfl ?_
  refine q_aload_n d_Model_get_21 rfl rfl ?_
  refine q_iload_n d_Model_get_22 rfl rfl ?_
  refine q_callVi (M2 := M_Model_isRecordHandle) d_Model_get_23 ⟨(Nat.le_of_ble_eq_true rfl), (Nat.le_of_ble_eq_true rfl), w_1417, w_10, ⟨by decide, by decide⟩, show _ = some 1 by decide +kernel⟩ w_1414 w_1416 (ci := 11) rfl s_74 hL.1 rfl (Nat.le_of_ble_eq_true rfl) (by omega) (by omega) (c_Model_isRecordHandle hL hH _) ?_
  rintro _ _ ⟨rfl, rfl⟩
  rw [hb]
  refine q_if_ne (tgt := 33) d_Model_get_26 rfl (fun hc => ?_) (fun hc => ?_)
  rotate_left
  · exact absurd hc (by decide)
  refine q_iload_n d_Model_get_33 rfl rfl ?_
  refine q_if_ge (tgt := 41) d_Model_get_34 rfl (fun hc => ?_) (fun hc => ?_)
  · exact absurd (show (0 : Int32) ≤ -1 from hc) (by decide)
  refine q_iconst (v := nI 2) d_Model_get_37 (by decide) ?_
  refine q_goto (tgt := 42) d_Model_get_38 rfl ?_
  refine q_putI (ci := 11) (fk := 0) d_Model_get_42 rfl (Nat.le_of_ble_eq_true rfl) w_1104 (Or.inl rfl) (fun _ _ => rfl) rfl rfl hL.1 ?_
  refine q_aload_n d_Model_get_45 rfl rfl ?_
  refine q_getI (ci := 11) (fk := 0) d_Model_get_46 rfl (Nat.le_of_ble_eq_true rfl) w_1104 (fun _ _ => rfl) hL.1 ?_
  rw [q_upI_self]
  refine q_if_le (tgt := 56) d_Model_get_49 rfl (fun hc => ?_) (fun hc => ?_)
  · exact absurd hc (by decide)
  · refine q_iconst (v := nI 0) d_Model_get_52 (by decide) ?_
    refine q_goto (tgt := 69) d_Model_get_53 rfl ?_
    refine q_iret d_Model_get_69 rfl (by omega) (by omega) ?_
    exact ⟨_, rfl, m_no hM (by decide) _⟩

theorem c_Model_size_no (hw : wf S) (hM : relM S m T I R) {v p : Int32} (hb : k_ish S.lv v = false) : q_Ci g M_Model_size [.ref m, .int v, .int p] (sz, T, I, R, J) 0 0 (m_spm m sz T I R J (nI 1, 0, S)) := by
  have hL := hM.1
  have hH := hM.mh hw
  refine q_C.of (ls0 := [some (.ref m), some (.int v), some (.int p), none]) (by decide) rfl (by decide) (Nat.le_of_ble_eq_true rfl) rfl ?_
  refine q_aload_n d_Model_size_0 rfl rfl ?_
  refine q_iload_n d_Model_size_1 rfl rfl ?_
  refine q_callVi (M2 := M_Model_isRecordHandle) d_Model_size_2 ⟨(Nat.le_of_ble_eq_true rfl), (Nat.le_of_ble_eq_true rfl), w_1417, w_10, ⟨by decide, by decide⟩, show _ = some 1 by decide +kernel⟩ w_1414 w_1416 (ci := 11) rfl s_74 hL.1 rfl (Nat.le_of_ble_eq_true rfl) (by omega) (by omega) (c_Model_isRecordHandle hL hH v) ?_
  rintro _ _ ⟨rfl, rfl⟩
  rw [hb]
  refine q_if_eq (tgt := 18) d_Model_size_5 rfl (fun hc => ?_) (fun hc => ?_)
  rotate_left
  · exact absurd rfl hc
  refine q_iconst (v := (-1)) d_Model_size_18 (by decide) ?_
  refine q_istore_n d_Model_size_19 rfl (Nat.le_of_ble_eq_true rfl) (by first | exact q_ok0 | exact q_okI rfl | exact q_okR rfl | exact q_okN rfl) rfl ?_
  refine q_aload_n d_Model_size_20 rfl rfl ?_
  refine q_aload_n d_Model_size_21 rfl rfl ?_
  refine q_iload_n d_Model_size_22 rfl rfl ?_
  refine q_callVi (M2 := M_Model_isRecordHandle) d_Model_size_23 ⟨(Nat.le_of_ble_eq_true rfl), (Nat.le_of_ble_eq_true rfl), w_1417, w_10, ⟨by decide, by decide⟩, show _ = some 1 by decide +kernel⟩ w_1414 w_1416 (ci := 11) rfl s_74 hL.1 rfl (Nat.le_of_ble_eq_true rfl) (by omega) (by omega) (c_Model_isRecordHandle hL hH v) ?_
  rintro _ _ ⟨rfl, rfl⟩
  rw [hb]
  refine q_if_ne (tgt := 33) d_Model_size_26 rfl (fun hc => ?_) (fun hc => ?_)
  · exact absurd rfl hc
  refine q_iconst (v := nI 1) d_Model_size_29 (by decide) ?_
  refine q_goto (tgt := 42) d_Model_size_30 rfl ?_
  refine q_putI (ci := 11) (fk := 0) d_Model_size_42 rfl (Nat.le_of_ble_eq_true rfl) w_1104 (Or.inl rfl) (fun _ _ => rfl) rfl rfl hL.1 ?_
  refine q_aload_n d_Model_size_45 rfl rfl ?_
  refine q_getI (ci := 11) (fk := 0) d_Model_size_46 rfl (Nat.le_of_ble_eq_true rfl) w_1104 (fun _ _ => rfl) hL.1 ?_
  rw [q_upI_self]
  refine q_if_le (tgt := 56) d_Model_size_49 rfl (fun hc => ?_) (fun hc => ?_)
  · exact absurd hc (by decide)
  · refine q_iconst (v := nI 0) d_Model_size_52 (by decide) ?_
    refine q_goto (tgt := 67) d_Model_size_53 rfl ?_
    refine q_iret d_Model_size_67 rfl (by omega) (by omega) ?_
    exact ⟨_, rfl, m_no hM (by decide) _⟩

theorem c_Model_size_no2 (hw : wf S) (hM : relM S m T I R) {i : Nat} {c : KR} {L : List KF} {p : Int32} (hi : i < 16) (hc : S.rs i = some c) (hb : k_ish S.lv (nI i) = true) (hV : S.vs[c.ver]? = some L) (hp : a_pl L p 1 = none) : q_Ci g M_Model_size [.ref m, .int (nI i), .int p] (sz, T, I, R, J) 0 0 (m_spm m sz T I R J (nI 2, 0, S)) := by
  have hL := hM.1
  have hH := hM.mh hw
  obtain ⟨L2, e1, e2, e3, e4, e5, e6, e7, e8, e9⟩ := hM.of hw hi hc
  obtain rfl : L = L2 := Option.some.inj (hV.symm.trans e1)
  refine q_C.of (ls0 := [some (.ref m), some (.int (nI i)), some (.int p), none]) (by decide) rfl (by decide) (Nat.le_of_ble_eq_true rfl) rfl ?_
  refine q_aload_n d_Model_size_0 rfl rfl ?_
  refine q_iload_n d_Model_size_1 rfl rfl ?_
  refine q_callVi (M2 := M_Model_isRecordHandle) d_Model_size_2 ⟨(Nat.le_of_ble_eq_true rfl), (Nat.le_of_ble_eq_true rfl), w_1417, w_10, ⟨by decide, by decide⟩, show _ = some 1 by decide +kernel⟩ w_1414 w_1416 (ci := 11) rfl s_74 hL.1 rfl (Nat.le_of_ble_eq_true rfl) (by omega) (by omega) (c_Model_isRecordHandle hL hH _) ?_
  rintro _ _ ⟨rfl, rfl⟩
  rw [hb]
  refine q_if_eq (tgt := 18) d_Model_size_5 rfl (fun hc => ?_) (fun hc => ?_)
  · exact absurd hc (by decide)
  refine q_aload_n d_Model_size_8 rfl rfl ?_
  refine q_iload_n d_Model_size_9 rfl rfl ?_
  refine q_iload_n d_Model_size_10 rfl rfl ?_
  refine q_iconst (v := nI 1) d_Model_size_11 (by decide) ?_
  refine q_callVi (M2 := M_Model_fieldOf) d_Model_size_12 ⟨(Nat.le_of_ble_eq_true rfl), (Nat.le_of_ble_eq_true rfl), w_1429, w_10, ⟨by decide, by decide⟩, show _ = some 3 by decide +kernel⟩ w_1426 w_1428 (ci := 11) rfl s_75 hL.1 rfl (Nat.le_of_ble_eq_true rfl) (by omega) (by omega) (c_Model_fieldOf (so := nI 1) hL hi e3 e7 e6 e2.1.2.2.1 e2.1.2.1 e2.1.1) ?_
  rintro _ _ ⟨rfl, rfl⟩
  rw [show a_pl L p (nI 1) = none from hp]
  refine q_goto (tgt := 19) d_Model_size_15 rfl ?_
  refine q_istore_n d_Model_size_19 rfl (Nat.le_of_ble_eq_true rfl) (by first | exact q_ok0 | exact q_okI rfl | exact q_okR rfl | exact q_okN rfl) rfl ?_
  refine q_aload_n d_Model_size_20 rfl rfl ?_
  refine q_aload_n d_Model_size_21 rfl rfl ?_
  refine q_iload_n d_Model_size_22 rfl rfl ?_
  refine q_callVi (M2 := M_Model_isRecordHandle) d_Model_size_23 ⟨(Nat.le_of_ble_eq_true rfl), (Nat.le_of_ble_eq_true rfl), w_1417, w_10, ⟨by decide, by decide⟩, show _ = some 1 by decide +kernel⟩ w_1414 w_1416 (ci := 11) rfl s_74 hL.1 rfl (Nat.le_of_ble_eq_true rfl) (by omega) (by omega) (c_Model_isRecordHandle hL hH _) ?_
  rintro _ _ ⟨rfl, rfl⟩
  rw [hb]
  refine q_if_ne (tgt := 33) d_Model_size_26 rfl (fun hc => ?_) (fun hc => ?_)
  rotate_left
  · exact absurd hc (by decide)
  refine q_iload_n d_Model_size_33 rfl rfl ?_
  refine q_if_ge (tgt := 41) d_Model_size_34 rfl (fun hc => ?_) (fun hc => ?_)
  · exact absurd (show (0 : Int32) ≤ -1 from hc) (by decide)
  refine q_iconst (v := nI 2) d_Model_size_37 (by decide) ?_
  refine q_goto (tgt := 42) d_Model_size_38 rfl ?_
  refine q_putI (ci := 11) (fk := 0) d_Model_size_42 rfl (Nat.le_of_ble_eq_true rfl) w_1104 (Or.inl rfl) (fun _ _ => rfl) rfl rfl hL.1 ?_
  refine q_aload_n d_Model_size_45 rfl rfl ?_
  refine q_getI (ci := 11) (fk := 0) d_Model_size_46 rfl (Nat.le_of_ble_eq_true rfl) w_1104 (fun _ _ => rfl) hL.1 ?_
  rw [q_upI_self]
  refine q_if_le (tgt := 56) d_Model_size_49 rfl (fun hc => ?_) (fun hc => ?_)
  · exact absurd hc (by decide)
  · refine q_iconst (v := nI 0) d_Model_size_52 (by decide) ?_
    refine q_goto (tgt := 67) d_Model_size_53 rfl ?_
    refine q_iret d_Model_size_67 rfl (by omega) (by omega) ?_
    exact ⟨_, rfl, m_no hM (by decide) _⟩

theorem c_Model_item_no (hw : wf S) (hM : relM S m T I R) {v p n : Int32} (hb : k_ish S.lv v = false) : q_Ci g M_Model_item [.ref m, .int v, .int p, .int n] (sz, T, I, R, J) 0 0 (m_spm m sz T I R J (nI 1, 0, S)) := by
  have hL := hM.1
  have hH := hM.mh hw
  refine q_C.of (ls0 := [some (.ref m), some (.int v), some (.int p), some (.int n), none]) (by decide) rfl (by decide) (Nat.le_of_ble_eq_true rfl) rfl ?_
  refine q_aload_n d_Model_item_0 rfl rfl ?_
  refine q_iload_n d_Model_item_1 rfl rfl ?_
  refine q_callVi (M2 := M_Model_isRecordHandle) d_Model_item_2 ⟨(Nat.le_of_ble_eq_true rfl), (Nat.le_of_ble_eq_true rfl), w_1417, w_10, ⟨by decide, by decide⟩, show _ = some 1 by decide +kernel⟩ w_1414 w_1416 (ci := 11) rfl s_74 hL.1 rfl (Nat.le_of_ble_eq_true rfl) (by omega) (by omega) (c_Model_isRecordHandle hL hH v) ?_
  rintro _ _ ⟨rfl, rfl⟩
  rw [hb]
  refine q_if_eq (tgt := 18) d_Model_item_5 rfl (fun hc => ?_) (fun hc => ?_)
  rotate_left
  · exact absurd rfl hc
  refine q_iconst (v := (-1)) d_Model_item_18 (by decide) ?_
  refine q_istore d_Model_item_19 (Nat.le_of_ble_eq_true rfl) (by first | exact q_ok0 | exact q_okI rfl | exact q_okR rfl | exact q_okN rfl) rfl ?_
  refine q_aload_n d_Model_item_21 rfl rfl ?_
  refine q_aload_n d_Model_item_22 rfl rfl ?_
  refine q_iload_n d_Model_item_23 rfl rfl ?_
  refine q_callVi (M2 := M_Model_isRecordHandle) d_Model_item_24 ⟨(Nat.le_of_ble_eq_true rfl), (Nat.le_of_ble_eq_true rfl), w_1417, w_10, ⟨by decide, by decide⟩, show _ = some 1 by decide +kernel⟩ w_1414 w_1416 (ci := 11) rfl s_74 hL.1 rfl (Nat.le_of_ble_eq_true rfl) (by omega) (by omega) (c_Model_isRecordHandle hL hH v) ?_
  rintro _ _ ⟨rfl, rfl⟩
  rw [hb]
  refine q_if_ne (tgt := 34) d_Model_item_27 rfl (fun hc => ?_) (fun hc => ?_)
  · exact absurd rfl hc
  refine q_iconst (v := nI 1) d_Model_item_30 (by decide) ?_
  refine q_goto (tgt := 64) d_Model_item_31 rfl ?_
  refine q_putI (ci := 11) (fk := 0) d_Model_item_64 rfl (Nat.le_of_ble_eq_true rfl) w_1104 (Or.inl rfl) (fun _ _ => rfl) rfl rfl hL.1 ?_
  refine q_aload_n d_Model_item_67 rfl rfl ?_
  refine q_getI (ci := 11) (fk := 0) d_Model_item_68 rfl (Nat.le_of_ble_eq_true rfl) w_1104 (fun _ _ => rfl) hL.1 ?_
  rw [q_upI_self]
  refine q_if_le (tgt := 78) d_Model_item_71 rfl (fun hc => ?_) (fun hc => ?_)
  · exact absurd hc (by decide)
  · refine q_iconst (v := nI 0) d_Model_item_74 (by decide) ?_
    refine q_goto (tgt := 94) d_Model_item_75 rfl ?_
    refine q_iret d_Model_item_94 rfl (by omega) (by omega) ?_
    exact ⟨_, rfl, m_no hM (by decide) _⟩

theorem c_Model_item_no2 (hw : wf S) (hM : relM S m T I R) {i : Nat} {c : KR} {L : List KF} {p n : Int32} (hi : i < 16) (hc : S.rs i = some c) (hb : k_ish S.lv (nI i) = true) (hV : S.vs[c.ver]? = some L) (hp : a_pl L p 1 = none) : q_Ci g M_Model_item [.ref m, .int (nI i), .int p, .int n] (sz, T, I, R, J) 0 0 (m_spm m sz T I R J (nI 2, 0, S)) := by
  have hL := hM.1
  have hH := hM.mh hw
  obtain ⟨L2, e1, e2, e3, e4, e5, e6, e7, e8, e9⟩ := hM.of hw hi hc
  obtain rfl : L = L2 := Option.some.inj (hV.symm.trans e1)
  refine q_C.of (ls0 := [some (.ref m), some (.int (nI i)), some (.int p), some (.int n), none]) (by decide) rfl (by decide) (Nat.le_of_ble_eq_true rfl) rfl ?_
  refine q_aload_n d_Model_item_0 rfl rfl ?_
  refine q_iload_n d_Model_item_1 rfl rfl ?_
  refine q_callVi (M2 := M_Model_isRecordHandle) d_Model_item_2 ⟨(Nat.le_of_ble_eq_true rfl), (Nat.le_of_ble_eq_true rfl), w_1417, w_10, ⟨by decide, by decide⟩, show _ = some 1 by decide +kernel⟩ w_1414 w_1416 (ci := 11) rfl s_74 hL.1 rfl (Nat.le_of_ble_eq_true rfl) (by omega) (by omega) (c_Model_isRecordHandle hL hH _) ?_
  rintro _ _ ⟨rfl, rfl⟩
  rw [hb]
  refine q_if_eq (tgt := 18) d_Model_item_5 rfl (fun hc => ?_) (fun hc => ?_)
  · exact absurd hc (by decide)
  refine q_aload_n d_Model_item_8 rfl rfl ?_
  refine q_iload_n d_Model_item_9 rfl rfl ?_
  refine q_iload_n d_Model_item_10 rfl rfl ?_
  refine q_iconst (v := nI 1) d_Model_item_11 (by decide) ?_
  refine q_callVi (M2 := M_Model_fieldOf) d_Model_item_12 ⟨(Nat.le_of_ble_eq_true rfl), (Nat.le_of_ble_eq_true rfl), w_1429, w_10, ⟨by decide, by decide⟩, show _ = some 3 by decide +kernel⟩ w_1426 w_1428 (ci := 11) rfl s_75 hL.1 rfl (Nat.le_of_ble_eq_true rfl) (by omega) (by omega) (c_Model_fieldOf (so := nI 1) hL hi e3 e7 e6 e2.1.2.2.1 e2.1.2.1 e2.1.1) ?_
  rintro _ _ ⟨rfl, rfl⟩
  rw [show a_pl L p (nI 1) = none from hp]
  refine q_goto (tgt := 19) d_Model_item_15 rfl ?_
  refine q_istore d_Model_item_19 (Nat.le_of_ble_eq_true rfl) (by first | exact q_ok0 | exact q_okI rfl | exact q_okR rfl | exact q_okN rfl) rfl ?_
  refine q_aload_n d_Model_item_21 rfl rfl ?_
  refine q_aload_n d_Model_item_22 rfl rfl ?_
  refine q_iload_n d_Model_item_23 rfl rfl ?_
  refine q_callVi (M2 := M_Model_isRecordHandle) d_Model_item_24 ⟨(Nat.le_of_ble_eq_true rfl), (Nat.le_of_ble_eq_true rfl), w_1417, w_10, ⟨by decide, by decide⟩, show _ = some 1 by decide +kernel⟩ w_1414 w_1416 (ci := 11) rfl s_74 hL.1 rfl (Nat.le_of_ble_eq_true rfl) (by omega) (by omega) (c_Model_isRecordHandle hL hH _) ?_
  rintro _ _ ⟨rfl, rfl⟩
  rw [hb]
  refine q_if_ne (tgt := 34) d_Model_item_27 rfl (fun hc => ?_) (fun hc => ?_)
  rotate_left
  · exact absurd hc (by decide)
  refine q_iload d_Model_item_34 rfl ?_
  refine q_if_lt (tgt := 59) d_Model_item_36 rfl (fun hc => ?_) (fun hc => ?_)
  rotate_left
  · exact absurd (show (-1 : Int32) < 0 by decide) hc
  refine q_iconst (v := nI 2) d_Model_item_59 (by decide) ?_
  refine q_goto (tgt := 64) d_Model_item_60 rfl ?_
  refine q_putI (ci := 11) (fk := 0) d_Model_item_64 rfl (Nat.le_of_ble_eq_true rfl) w_1104 (Or.inl rfl) (fun _ _ => rfl) rfl rfl hL.1 ?_
  refine q_aload_n d_Model_item_67 rfl rfl ?_
  refine q_getI (ci := 11) (fk := 0) d_Model_item_68 rfl (Nat.le_of_ble_eq_true rfl) w_1104 (fun _ _ => rfl) hL.1 ?_
  rw [q_upI_self]
  refine q_if_le (tgt := 78) d_Model_item_71 rfl (fun hc => ?_) (fun hc => ?_)
  · exact absurd hc (by decide)
  · refine q_iconst (v := nI 0) d_Model_item_74 (by decide) ?_
    refine q_goto (tgt := 94) d_Model_item_75 rfl ?_
    refine q_iret d_Model_item_94 rfl (by omega) (by omega) ?_
    exact ⟨_, rfl, m_no hM (by decide) _⟩

theorem c_Model_set_no (hw : wf S) (hM : relM S m T I R) {v p n : Int32} (hb : k_ish S.lv v = false) : q_Cv g M_Model_set [.ref m, .int v, .int p, .int n] (sz, T, I, R, J) 0 0 (m_spm m sz T I R J (nI 1, 0, S) 0) := by
  have hL := hM.1
  have hH := hM.mh hw
  refine q_C.of (ls0 := [some (.ref m), some (.int v), some (.int p), some (.int n), none]) (by decide) rfl (by decide) (Nat.le_of_ble_eq_true rfl) rfl ?_
  refine q_aload_n d_Model_set_0 rfl rfl ?_
  refine q_iload_n d_Model_set_1 rfl rfl ?_
  refine q_callVi (M2 := M_Model_isRecordHandle) d_Model_set_2 ⟨(Nat.le_of_ble_eq_true rfl), (Nat.le_of_ble_eq_true rfl), w_1417, w_10, ⟨by decide, by decide⟩, show _ = some 1 by decide +kernel⟩ w_1414 w_1416 (ci := 11) rfl s_74 hL.1 rfl (Nat.le_of_ble_eq_true rfl) (by omega) (by omega) (c_Model_isRecordHandle hL hH v) ?_
  rintro _ _ ⟨rfl, rfl⟩
  rw [hb]
  refine q_if_eq (tgt := 18) d_Model_set_5 rfl (fun hc => ?_) (fun hc => ?_)
  rotate_left
  · exact absurd rfl hc
  refine q_iconst (v := (-1)) d_Model_set_18 (by decide) ?_
  refine q_istore d_Model_set_19 (Nat.le_of_ble_eq_true rfl) (by first | exact q_ok0 | exact q_okI rfl | exact q_okR rfl | exact q_okN rfl) rfl ?_
  refine q_aload_n d_Model_set_21 rfl rfl ?_
  refine q_aload_n d_Model_set_22 rfl rfl ?_
  refine q_iload_n d_Model_set_23 rfl rfl ?_
  refine q_callVi (M2 := M_Model_isRecordHandle) d_Model_set_24 ⟨(Nat.le_of_ble_eq_true rfl), (Nat.le_of_ble_eq_true rfl), w_1417, w_10, ⟨by decide, by decide⟩, show _ = some 1 by decide +kernel⟩ w_1414 w_1416 (ci := 11) rfl s_74 hL.1 rfl (Nat.le_of_ble_eq_true rfl) (by omega) (by omega) (c_Model_isRecordHandle hL hH v) ?_
  rintro _ _ ⟨rfl, rfl⟩
  rw [hb]
  refine q_if_ne (tgt := 34) d_Model_set_27 rfl (fun hc => ?_) (fun hc => ?_)
  · exact absurd rfl hc
  refine q_iconst (v := nI 1) d_Model_set_30 (by decide) ?_
  refine q_goto (tgt := 55) d_Model_set_31 rfl ?_
  refine q_putI (ci := 11) (fk := 0) d_Model_set_55 rfl (Nat.le_of_ble_eq_true rfl) w_1104 (Or.inl rfl) (fun _ _ => rfl) rfl rfl hL.1 ?_
  refine q_aload_n d_Model_set_58 rfl rfl ?_
  refine q_getI (ci := 11) (fk := 0) d_Model_set_59 rfl (Nat.le_of_ble_eq_true rfl) w_1104 (fun _ _ => rfl) hL.1 ?_
  rw [q_upI_self]
  refine q_if_ne (tgt := 80) d_Model_set_62 rfl (fun hc => ?_) (fun hc => ?_)
  · refine q_vret d_Model_set_80 rfl (by omega) (by omega) ?_
    exact ⟨rfl, m_no hM (by decide) _⟩
  · exact absurd hc (by decide)

theorem c_Model_set_no2 (hw : wf S) (hM : relM S m T I R) {i : Nat} {c : KR} {L : List KF} {p n : Int32} (hi : i < 16) (hc : S.rs i = some c) (hb : k_ish S.lv (nI i) = true) (hV : S.vs[c.ver]? = some L) (hp : a_pl L p 0 = none) : q_Cv g M_Model_set [.ref m, .int (nI i), .int p, .int n] (sz, T, I, R, J) 0 0 (m_spm m sz T I R J (nI 2, 0, S) 0) := by
  have hL := hM.1
  have hH := hM.mh hw
  obtain ⟨L2, e1, e2, e3, e4, e5, e6, e7, e8, e9⟩ := hM.of hw hi hc
  obtain rfl : L = L2 := Option.some.inj (hV.symm.trans e1)
  refine q_C.of (ls0 := [some (.ref m), some (.int (nI i)), some (.int p), some (.int n), none]) (by decide) rfl (by decide) (Nat.le_of_ble_eq_true rfl) rfl ?_
  refine q_aload_n d_Model_set_0 rfl rfl ?_
  refine q_iload_n d_Model_set_1 rfl rfl ?_
  refine q_callVi (M2 := M_Model_isRecordHandle) d_Model_set_2 ⟨(Nat.le_of_ble_eq_true rfl), (Nat.le_of_ble_eq_true rfl), w_1417, w_10, ⟨by decide, by decide⟩, show _ = some 1 by decide +kernel⟩ w_1414 w_1416 (ci := 11) rfl s_74 hL.1 rfl (Nat.le_of_ble_eq_true rfl) (by omega) (by omega) (c_Model_isRecordHandle hL hH _) ?_
  rintro _ _ ⟨rfl, rfl⟩
  rw [hb]
  refine q_if_eq (tgt := 18) d_Model_set_5 rfl (fun hc => ?_) (fun hc => ?_)
  · exact absurd hc (by decide)
  refine q_aload_n d_Model_set_8 rfl rfl ?_
  refine q_iload_n d_Model_set_9 rfl rfl ?_
  refine q_iload_n d_Model_set_10 rfl rfl ?_
  refine q_iconst (v := nI 0) d_Model_set_11 (by decide) ?_
  refine q_callVi (M2 := M_Model_fieldOf) d_Model_set_12 ⟨(Nat.le_of_ble_eq_true rfl), (Nat.le_of_ble_eq_true rfl), w_1429, w_10, ⟨by decide, by decide⟩, show _ = some 3 by decide +kernel⟩ w_1426 w_1428 (ci := 11) rfl s_75 hL.1 rfl (Nat.le_of_ble_eq_true rfl) (by omega) (by omega) (c_Model_fieldOf (so := nI 0) hL hi e3 e7 e6 e2.1.2.2.1 e2.1.2.1 e2.1.1) ?_
  rintro _ _ ⟨rfl, rfl⟩
  rw [show a_pl L p (nI 0) = none from hp]
  refine q_goto (tgt := 19) d_Model_set_15 rfl ?_
  refine q_istore d_Model_set_19 (Nat.le_of_ble_eq_true rfl) (by first | exact q_ok0 | exact q_okI rfl | exact q_okR rfl | exact q_okN rfl) rfl ?_
  refine q_aload_n d_Model_set_21 rfl rfl ?_
  refine q_aload_n d_Model_set_22 rfl rfl ?_
  refine q_iload_n d_Model_set_23 rfl rfl ?_
  refine q_callVi (M2 := M_Model_isRecordHandle) d_Model_set_24 ⟨(Nat.le_of_ble_eq_true rfl), (Nat.le_of_ble_eq_true rfl), w_1417, w_10, ⟨by decide, by decide⟩, show _ = some 1 by decide +kernel⟩ w_1414 w_1416 (ci := 11) rfl s_74 hL.1 rfl (Nat.le_of_ble_eq_true rfl) (by omega) (by omega) (c_Model_isRecordHandle hL hH _) ?_
  rintro _ _ ⟨rfl, rfl⟩
  rw [hb]
  refine q_if_ne (tgt := 34) d_Model_set_27 rfl (fun hc => ?_) (fun hc => ?_)
  rotate_left
  · exact absurd hc (by decide)
  refine q_iload d_Model_set_34 rfl ?_
  refine q_if_lt (tgt := 50) d_Model_set_36 rfl (fun hc => ?_) (fun hc => ?_)
  rotate_left
  · exact absurd (show (-1 : Int32) < 0 by decide) hc
  refine q_iconst (v := nI 2) d_Model_set_50 (by decide) ?_
  refine q_goto (tgt := 55) d_Model_set_51 rfl ?_
  refine q_putI (ci := 11) (fk := 0) d_Model_set_55 rfl (Nat.le_of_ble_eq_true rfl) w_1104 (Or.inl rfl) (fun _ _ => rfl) rfl rfl hL.1 ?_
  refine q_aload_n d_Model_set_58 rfl rfl ?_
  refine q_getI (ci := 11) (fk := 0) d_Model_set_59 rfl (Nat.le_of_ble_eq_true rfl) w_1104 (fun _ _ => rfl) hL.1 ?_
  rw [q_upI_self]
  refine q_if_ne (tgt := 80) d_Model_set_62 rfl (fun hc => ?_) (fun hc => ?_)
  · refine q_vret d_Model_set_80 rfl (by omega) (by omega) ?_
    exact ⟨rfl, m_no hM (by decide) _⟩
  · exact absurd hc (by decide)

theorem c_Model_cut_no (hw : wf S) (hM : relM S m T I R) {v p n : Int32} (hb : k_ish S.lv v = false) : q_Cv g M_Model_cut [.ref m, .int v, .int p, .int n] (sz, T, I, R, J) 0 0 (m_spm m sz T I R J (nI 1, 0, S) 0) := by
  have hL := hM.1
  have hH := hM.mh hw
  refine q_C.of (ls0 := [some (.ref m), some (.int v), some (.int p), some (.int n), none]) (by decide) rfl (by decide) (Nat.le_of_ble_eq_true rfl) rfl ?_
  refine q_aload_n d_Model_cut_0 rfl rfl ?_
  refine q_iload_n d_Model_cut_1 rfl rfl ?_
  refine q_callVi (M2 := M_Model_isRecordHandle) d_Model_cut_2 ⟨(Nat.le_of_ble_eq_true rfl), (Nat.le_of_ble_eq_true rfl), w_1417, w_10, ⟨by decide, by decide⟩, show _ = some 1 by decide +kernel⟩ w_1414 w_1416 (ci := 11) rfl s_74 hL.1 rfl (Nat.le_of_ble_eq_true rfl) (by omega) (by omega) (c_Model_isRecordHandle hL hH v) ?_
  rintro _ _ ⟨rfl, rfl⟩
  rw [hb]
  refine q_if_eq (tgt := 18) d_Model_cut_5 rfl (fun hc => ?_) (fun hc => ?_)
  rotate_left
  · exact absurd rfl hc
  refine q_iconst (v := (-1)) d_Model_cut_18 (by decide) ?_
  refine q_istore d_Model_cut_19 (Nat.le_of_ble_eq_true rfl) (by first | exact q_ok0 | exact q_okI rfl | exact q_okR rfl | exact q_okN rfl) rfl ?_
  refine q_aload_n d_Model_cut_21 rfl rfl ?_
  refine q_aload_n d_Model_cut_22 rfl rfl ?_
  refine q_iload_n d_Model_cut_23 rfl rfl ?_
  refine q_callVi (M2 := M_Model_isRecordHandle) d_Model_cut_24 ⟨(Nat.le_of_ble_eq_true rfl), (Nat.le_of_ble_eq_true rfl), w_1417, w_10, ⟨by decide, by decide⟩, show _ = some 1 by decide +kernel⟩ w_1414 w_1416 (ci := 11) rfl s_74 hL.1 rfl (Nat.le_of_ble_eq_true rfl) (by omega) (by omega) (c_Model_isRecordHandle hL hH v) ?_
  rintro _ _ ⟨rfl, rfl⟩
  rw [hb]
  refine q_if_ne (tgt := 34) d_Model_cut_27 rfl (fun hc => ?_) (fun hc => ?_)
  · exact absurd rfl hc
  refine q_iconst (v := nI 1) d_Model_cut_30 (by decide) ?_
  refine q_goto (tgt := 64) d_Model_cut_31 rfl ?_
  refine q_putI (ci := 11) (fk := 0) d_Model_cut_64 rfl (Nat.le_of_ble_eq_true rfl) w_1104 (Or.inl rfl) (fun _ _ => rfl) rfl rfl hL.1 ?_
  refine q_aload_n d_Model_cut_67 rfl rfl ?_
  refine q_getI (ci := 11) (fk := 0) d_Model_cut_68 rfl (Nat.le_of_ble_eq_true rfl) w_1104 (fun _ _ => rfl) hL.1 ?_
  rw [q_upI_self]
  refine q_if_ne (tgt := 87) d_Model_cut_71 rfl (fun hc => ?_) (fun hc => ?_)
  · refine q_vret d_Model_cut_87 rfl (by omega) (by omega) ?_
    exact ⟨rfl, m_no hM (by decide) _⟩
  · exact absurd hc (by decide)

theorem c_Model_cut_no2 (hw : wf S) (hM : relM S m T I R) {i : Nat} {c : KR} {L : List KF} {p n : Int32} (hi : i < 16) (hc : S.rs i = some c) (hb : k_ish S.lv (nI i) = true) (hV : S.vs[c.ver]? = some L) (hp : a_pl L p 1 = none) : q_Cv g M_Model_cut [.ref m, .int (nI i), .int p, .int n] (sz, T, I, R, J) 0 0 (m_spm m sz T I R J (nI 2, 0, S) 0) := by
  have hL := hM.1
  have hH := hM.mh hw
  obtain ⟨L2, e1, e2, e3, e4, e5, e6, e7, e8, e9⟩ := hM.of hw hi hc
  obtain rfl : L = L2 := Option.some.inj (hV.symm.trans e1)
  refine q_C.of (ls0 := [some (.ref m), some (.int (nI i)), some (.int p), some (.int n), none]) (by decide) rfl (by decide) (Nat.le_of_ble_eq_true rfl) rfl ?_
  refine q_aload_n d_Model_cut_0 rfl rfl ?_
  refine q_iload_n d_Model_cut_1 rfl rfl ?_
  refine q_callVi (M2 := M_Model_isRecordHandle) d_Model_cut_2 ⟨(Nat.le_of_ble_eq_true rfl), (Nat.le_of_ble_eq_true rfl), w_1417, w_10, ⟨by decide, by decide⟩, show _ = some 1 by decide +kernel⟩ w_1414 w_1416 (ci := 11) rfl s_74 hL.1 rfl (Nat.le_of_ble_eq_true rfl) (by omega) (by omega) (c_Model_isRecordHandle hL hH _) ?_
  rintro _ _ ⟨rfl, rfl⟩
  rw [hb]
  refine q_if_eq (tgt := 18) d_Model_cut_5 rfl (fun hc => ?_) (fun hc => ?_)
  · exact absurd hc (by decide)
  refine q_aload_n d_Model_cut_8 rfl rfl ?_
  refine q_iload_n d_Model_cut_9 rfl rfl ?_
  refine q_iload_n d_Model_cut_10 rfl rfl ?_
  refine q_iconst (v := nI 1) d_Model_cut_11 (by decide) ?_
  refine q_callVi (M2 := M_Model_fieldOf) d_Model_cut_12 ⟨(Nat.le_of_ble_eq_true rfl), (Nat.le_of_ble_eq_true rfl), w_1429, w_10, ⟨by decide, by decide⟩, show _ = some 3 by decide +kernel⟩ w_1426 w_1428 (ci := 11) rfl s_75 hL.1 rfl (Nat.le_of_ble_eq_true rfl) (by omega) (by omega) (c_Model_fieldOf (so := nI 1) hL hi e3 e7 e6 e2.1.2.2.1 e2.1.2.1 e2.1.1) ?_
  rintro _ _ ⟨rfl, rfl⟩
  rw [show a_pl L p (nI 1) = none from hp]
  refine q_goto (tgt := 19) d_Model_cut_15 rfl ?_
  refine q_istore d_Model_cut_19 (Nat.le_of_ble_eq_true rfl) (by first | exact q_ok0 | exact q_okI rfl | exact q_okR rfl | exact q_okN rfl) rfl ?_
  refine q_aload_n d_Model_cut_21 rfl rfl ?_
  refine q_aload_n d_Model_cut_22 rfl rfl ?_
  refine q_iload_n d_Model_cut_23 rfl rfl ?_
  refine q_callVi (M2 := M_Model_isRecordHandle) d_Model_cut_24 ⟨(Nat.le_of_ble_eq_true rfl), (Nat.le_of_ble_eq_true rfl), w_1417, w_10, ⟨by decide, by decide⟩, show _ = some 1 by decide +kernel⟩ w_1414 w_1416 (ci := 11) rfl s_74 hL.1 rfl (Nat.le_of_ble_eq_true rfl) (by omega) (by omega) (c_Model_isRecordHandle hL hH _) ?_
  rintro _ _ ⟨rfl, rfl⟩
  rw [hb]
  refine q_if_ne (tgt := 34) d_Model_cut_27 rfl (fun hc => ?_) (fun hc => ?_)
  rotate_left
  · exact absurd hc (by decide)
  refine q_iload d_Model_cut_34 rfl ?_
  refine q_if_lt (tgt := 59) d_Model_cut_36 rfl (fun hc => ?_) (fun hc => ?_)
  rotate_left
  · exact absurd (show (-1 : Int32) < 0 by decide) hc
  refine q_iconst (v := nI 2) d_Model_cut_59 (by decide) ?_
  refine q_goto (tgt := 64) d_Model_cut_60 rfl ?_
  refine q_putI (ci := 11) (fk := 0) d_Model_cut_64 rfl (Nat.le_of_ble_eq_true rfl) w_1104 (Or.inl rfl) (fun _ _ => rfl) rfl rfl hL.1 ?_
  refine q_aload_n d_Model_cut_67 rfl rfl ?_
  refine q_getI (ci := 11) (fk := 0) d_Model_cut_68 rfl (Nat.le_of_ble_eq_true rfl) w_1104 (fun _ _ => rfl) hL.1 ?_
  rw [q_upI_self]
  refine q_if_ne (tgt := 87) d_Model_cut_71 rfl (fun hc => ?_) (fun hc => ?_)
  · refine q_vret d_Model_cut_87 rfl (by omega) (by omega) ?_
    exact ⟨rfl, m_no hM (by decide) _⟩
  · exact absurd hc (by decide)

theorem c_Model_put_no (hw : wf S) (hM : relM S m T I R) {v p n y : Int32} (hb : k_ish S.lv v = false) : q_Ci g M_Model_put [.ref m, .int v, .int p, .int n, .int y] (sz, T, I, R, J) 0 0 (m_spm m sz T I R J (nI 1, 0, S)) := by
  have hL := hM.1
  have hH := hM.mh hw
  refine q_C.of (ls0 := [some (.ref m), some (.int v), some (.int p), some (.int n), some (.int y), none, none]) (by decide) rfl (by decide) (Nat.le_of_ble_eq_true rfl) rfl ?_
  refine q_aload_n d_Model_put_0 rfl rfl ?_
  refine q_iload_n d_Model_put_1 rfl rfl ?_
  refine q_callVi (M2 := M_Model_isRecordHandle) d_Model_put_2 ⟨(Nat.le_of_ble_eq_true rfl), (Nat.le_of_ble_eq_true rfl), w_1417, w_10, ⟨by decide, by decide⟩, show _ = some 1 by decide +kernel⟩ w_1414 w_1416 (ci := 11) rfl s_74 hL.1 rfl (Nat.le_of_ble_eq_true rfl) (by omega) (by omega) (c_Model_isRecordHandle hL hH v) ?_
  rintro _ _ ⟨rfl, rfl⟩
  rw [hb]
  refine q_if_eq (tgt := 18) d_Model_put_5 rfl (fun hc => ?_) (fun hc => ?_)
  rotate_left
  · exact absurd rfl hc
  refine q_iconst (v := (-1)) d_Model_put_18 (by decide) ?_
  refine q_istore d_Model_put_19 (Nat.le_of_ble_eq_true rfl) (by first | exact q_ok0 | exact q_okI rfl | exact q_okR rfl | exact q_okN rfl) rfl ?_
  refine q_aload_n d_Model_put_21 rfl rfl ?_
  refine q_aload_n d_Model_put_22 rfl rfl ?_
  refine q_iload_n d_Model_put_23 rfl rfl ?_
  refine q_callVi (M2 := M_Model_isRecordHandle) d_Model_put_24 ⟨(Nat.le_of_ble_eq_true rfl), (Nat.le_of_ble_eq_true rfl), w_1417, w_10, ⟨by decide, by decide⟩, show _ = some 1 by decide +kernel⟩ w_1414 w_1416 (ci := 11) rfl s_74 hL.1 rfl (Nat.le_of_ble_eq_true rfl) (by omega) (by omega) (c_Model_isRecordHandle hL hH v) ?_
  rintro _ _ ⟨rfl, rfl⟩
  rw [hb]
  refine q_if_ne (tgt := 34) d_Model_put_27 rfl (fun hc => ?_) (fun hc => ?_)
  · exact absurd rfl hc
  refine q_iconst (v := nI 1) d_Model_put_30 (by decide) ?_
  refine q_goto (tgt := 82) d_Model_put_31 rfl ?_
  refine q_putI (ci := 11) (fk := 0) d_Model_put_82 rfl (Nat.le_of_ble_eq_true rfl) w_1104 (Or.inl rfl) (fun _ _ => rfl) rfl rfl hL.1 ?_
  refine q_aload_n d_Model_put_85 rfl rfl ?_
  refine q_getI (ci := 11) (fk := 0) d_Model_put_86 rfl (Nat.le_of_ble_eq_true rfl) w_1104 (fun _ _ => rfl) hL.1 ?_
  rw [q_upI_self]
  refine q_if_le (tgt := 94) d_Model_put_89 rfl (fun hc => ?_) (fun hc => ?_)
  · exact absurd hc (by decide)
  · refine q_iconst (v := nI 0) d_Model_put_92 (by decide) ?_
    refine q_iret d_Model_put_93 rfl (by omega) (by omega) ?_
    exact ⟨_, rfl, m_no hM (by decide) _⟩

theorem c_Model_put_no2 (hw : wf S) (hM : relM S m T I R) {i : Nat} {c : KR} {L : List KF} {p n y : Int32} (hi : i < 16) (hc : S.rs i = some c) (hb : k_ish S.lv (nI i) = true) (hV : S.vs[c.ver]? = some L) (hp : a_pl L p 1 = none) : q_Ci g M_Model_put [.ref m, .int (nI i), .int p, .int n, .int y] (sz, T, I, R, J) 0 0 (m_spm m sz T I R J (nI 2, 0, S)) := by
  have hL := hM.1
  have hH := hM.mh hw
  obtain ⟨L2, e1, e2, e3, e4, e5, e6, e7, e8, e9⟩ := hM.of hw hi hc
  obtain rfl : L = L2 := Option.some.inj (hV.symm.trans e1)
  refine q_C.of (ls0 := [some (.ref m), some (.int (nI i)), some (.int p), some (.int n), some (.int y), none, none]) (by decide) rfl (by decide) (Nat.le_of_ble_eq_true rfl) rfl ?_
  refine q_aload_n d_Model_put_0 rfl rfl ?_
  refine q_iload_n d_Model_put_1 rfl rfl ?_
  refine q_callVi (M2 := M_Model_isRecordHandle) d_Model_put_2 ⟨(Nat.le_of_ble_eq_true rfl), (Nat.le_of_ble_eq_true rfl), w_1417, w_10, ⟨by decide, by decide⟩, show _ = some 1 by decide +kernel⟩ w_1414 w_1416 (ci := 11) rfl s_74 hL.1 rfl (Nat.le_of_ble_eq_true rfl) (by omega) (by omega) (c_Model_isRecordHandle hL hH _) ?_
  rintro _ _ ⟨rfl, rfl⟩
  rw [hb]
  refine q_if_eq (tgt := 18) d_Model_put_5 rfl (fun hc => ?_) (fun hc => ?_)
  · exact absurd hc (by decide)
  refine q_aload_n d_Model_put_8 rfl rfl ?_
  refine q_iload_n d_Model_put_9 rfl rfl ?_
  refine q_iload_n d_Model_put_10 rfl rfl ?_
  refine q_iconst (v := nI 1) d_Model_put_11 (by decide) ?_
  refine q_callVi (M2 := M_Model_fieldOf) d_Model_put_12 ⟨(Nat.le_of_ble_eq_true rfl), (Nat.le_of_ble_eq_true rfl), w_1429, w_10, ⟨by decide, by decide⟩, show _ = some 3 by decide +kernel⟩ w_1426 w_1428 (ci := 11) rfl s_75 hL.1 rfl (Nat.le_of_ble_eq_true rfl) (by omega) (by omega) (c_Model_fieldOf (so := nI 1) hL hi e3 e7 e6 e2.1.2.2.1 e2.1.2.1 e2.1.1) ?_
  rintro _ _ ⟨rfl, rfl⟩
  rw [show a_pl L p (nI 1) = none from hp]
  refine q_goto (tgt := 19) d_Model_put_15 rfl ?_
  refine q_istore d_Model_put_19 (Nat.le_of_ble_eq_true rfl) (by first | exact q_ok0 | exact q_okI rfl | exact q_okR rfl | exact q_okN rfl) rfl ?_
  refine q_aload_n d_Model_put_21 rfl rfl ?_
  refine q_aload_n d_Model_put_22 rfl rfl ?_
  refine q_iload_n d_Model_put_23 rfl rfl ?_
  refine q_callVi (M2 := M_Model_isRecordHandle) d_Model_put_24 ⟨(Nat.le_of_ble_eq_true rfl), (Nat.le_of_ble_eq_true rfl), w_1417, w_10, ⟨by decide, by decide⟩, show _ = some 1 by decide +kernel⟩ w_1414 w_1416 (ci := 11) rfl s_74 hL.1 rfl (Nat.le_of_ble_eq_true rfl) (by omega) (by omega) (c_Model_isRecordHandle hL hH _) ?_
  rintro _ _ ⟨rfl, rfl⟩
  rw [hb]
  refine q_if_ne (tgt := 34) d_Model_put_27 rfl (fun hc => ?_) (fun hc => ?_)
  rotate_left
  · exact absurd hc (by decide)
  refine q_iload d_Model_put_34 rfl ?_
  refine q_if_lt (tgt := 77) d_Model_put_36 rfl (fun hc => ?_) (fun hc => ?_)
  rotate_left
  · exact absurd (show (-1 : Int32) < 0 by decide) hc
  refine q_iconst (v := nI 2) d_Model_put_77 (by decide) ?_
  refine q_goto (tgt := 82) d_Model_put_78 rfl ?_
  refine q_putI (ci := 11) (fk := 0) d_Model_put_82 rfl (Nat.le_of_ble_eq_true rfl) w_1104 (Or.inl rfl) (fun _ _ => rfl) rfl rfl hL.1 ?_
  refine q_aload_n d_Model_put_85 rfl rfl ?_
  refine q_getI (ci := 11) (fk := 0) d_Model_put_86 rfl (Nat.le_of_ble_eq_true rfl) w_1104 (fun _ _ => rfl) hL.1 ?_
  rw [q_upI_self]
  refine q_if_le (tgt := 94) d_Model_put_89 rfl (fun hc => ?_) (fun hc => ?_)
  · exact absurd hc (by decide)
  · refine q_iconst (v := nI 0) d_Model_put_92 (by decide) ?_
    refine q_iret d_Model_put_93 rfl (by omega) (by omega) ?_
    exact ⟨_, rfl, m_no hM (by decide) _⟩

end MPub
