/-! translate: what a primitive makes of values and kept things; the carrier -/
abbrev M_Carrier_keepUnless : q_M := (⟨"LensPaths$Carrier", "keepUnless", "(ZLLensPaths$Primitive;LLensPaths$Row;I)V"⟩, prog_2_method_7_code, 5, none, "LensPaths$Carrier", [], false, 3, 63)
theorem d_Carrier_keepUnless_0 : decode prog_2_method_7_code 0 = .ok (.aload_n 3, 1) := by decide +kernel
theorem d_Carrier_keepUnless_1 : decode prog_2_method_7_code 1 = .ok (.getfield 119, 3) := by decide +kernel
theorem d_Carrier_keepUnless_4 : decode prog_2_method_7_code 4 = .ok (.iload 4, 2) := by decide +kernel
theorem d_Carrier_keepUnless_6 : decode prog_2_method_7_code 6 = .ok (.iload_n 1, 1) := by decide +kernel
theorem d_Carrier_keepUnless_7 : decode prog_2_method_7_code 7 = .ok (.ifCond .eq 7, 3) := by decide +kernel
theorem d_Carrier_keepUnless_10 : decode prog_2_method_7_code 10 = .ok (.iconst 0, 1) := by decide +kernel
theorem d_Carrier_keepUnless_11 : decode prog_2_method_7_code 11 = .ok (.goto 4, 3) := by decide +kernel
theorem d_Carrier_keepUnless_14 : decode prog_2_method_7_code 14 = .ok (.iconst 2, 1) := by decide +kernel
theorem d_Carrier_keepUnless_15 : decode prog_2_method_7_code 15 = .ok (.iastore, 1) := by decide +kernel
theorem d_Carrier_keepUnless_16 : decode prog_2_method_7_code 16 = .ok (.iload_n 1, 1) := by decide +kernel
theorem d_Carrier_keepUnless_17 : decode prog_2_method_7_code 17 = .ok (.ifCond .ne 20, 3) := by decide +kernel
theorem d_Carrier_keepUnless_20 : decode prog_2_method_7_code 20 = .ok (.aload_n 3, 1) := by decide +kernel
theorem d_Carrier_keepUnless_21 : decode prog_2_method_7_code 21 = .ok (.getfield 122, 3) := by decide +kernel
theorem d_Carrier_keepUnless_24 : decode prog_2_method_7_code 24 = .ok (.iload 4, 2) := by decide +kernel
theorem d_Carrier_keepUnless_26 : decode prog_2_method_7_code 26 = .ok (.aload_n 0, 1) := by decide +kernel
theorem d_Carrier_keepUnless_27 : decode prog_2_method_7_code 27 = .ok (.getfield 14, 3) := by decide +kernel
theorem d_Carrier_keepUnless_30 : decode prog_2_method_7_code 30 = .ok (.aload_n 2, 1) := by decide +kernel
theorem d_Carrier_keepUnless_31 : decode prog_2_method_7_code 31 = .ok (.getfield 108, 3) := by decide +kernel
theorem d_Carrier_keepUnless_34 : decode prog_2_method_7_code 34 = .ok (.invokevirtual 56, 3) := by decide +kernel
theorem d_Carrier_keepUnless_37 : decode prog_2_method_7_code 37 = .ok (.return_, 1) := by decide +kernel
abbrev M_Carrier_comeOrGo : q_M := (⟨"LensPaths$Carrier", "comeOrGo", "(LLensPaths$Primitive;LLensPaths$Row;IZ)V"⟩, prog_2_method_6_code, 5, none, "LensPaths$Carrier", [], false, 4, 87)
theorem d_Carrier_comeOrGo_0 : decode prog_2_method_6_code 0 = .ok (.iload 4, 2) := by decide +kernel
theorem d_Carrier_comeOrGo_2 : decode prog_2_method_6_code 2 = .ok (.ifCond .ne 49, 3) := by decide +kernel
theorem d_Carrier_comeOrGo_5 : decode prog_2_method_6_code 5 = .ok (.aload_n 0, 1) := by decide +kernel
theorem d_Carrier_comeOrGo_6 : decode prog_2_method_6_code 6 = .ok (.getfield 14, 3) := by decide +kernel
theorem d_Carrier_comeOrGo_9 : decode prog_2_method_6_code 9 = .ok (.bipush 33, 2) := by decide +kernel
theorem d_Carrier_comeOrGo_11 : decode prog_2_method_6_code 11 = .ok (.aload_n 1, 1) := by decide +kernel
theorem d_Carrier_comeOrGo_12 : decode prog_2_method_6_code 12 = .ok (.getfield 95, 3) := by decide +kernel
theorem d_Carrier_comeOrGo_15 : decode prog_2_method_6_code 15 = .ok (.aload_n 1, 1) := by decide +kernel
theorem d_Carrier_comeOrGo_16 : decode prog_2_method_6_code 16 = .ok (.getfield 98, 3) := by decide +kernel
theorem d_Carrier_comeOrGo_19 : decode prog_2_method_6_code 19 = .ok (.aload_n 1, 1) := by decide +kernel
theorem d_Carrier_comeOrGo_20 : decode prog_2_method_6_code 20 = .ok (.getfield 101, 3) := by decide +kernel
theorem d_Carrier_comeOrGo_23 : decode prog_2_method_6_code 23 = .ok (.invokevirtual 104, 3) := by decide +kernel
theorem d_Carrier_comeOrGo_26 : decode prog_2_method_6_code 26 = .ok (.aload_n 0, 1) := by decide +kernel
theorem d_Carrier_comeOrGo_27 : decode prog_2_method_6_code 27 = .ok (.aload_n 0, 1) := by decide +kernel
theorem d_Carrier_comeOrGo_28 : decode prog_2_method_6_code 28 = .ok (.getfield 14, 3) := by decide +kernel
theorem d_Carrier_comeOrGo_31 : decode prog_2_method_6_code 31 = .ok (.aload_n 1, 1) := by decide +kernel
theorem d_Carrier_comeOrGo_32 : decode prog_2_method_6_code 32 = .ok (.getfield 108, 3) := by decide +kernel
theorem d_Carrier_comeOrGo_35 : decode prog_2_method_6_code 35 = .ok (.aload_n 0, 1) := by decide +kernel
theorem d_Carrier_comeOrGo_36 : decode prog_2_method_6_code 36 = .ok (.getfield 14, 3) := by decide +kernel
theorem d_Carrier_comeOrGo_39 : decode prog_2_method_6_code 39 = .ok (.bipush 33, 2) := by decide +kernel
theorem d_Carrier_comeOrGo_41 : decode prog_2_method_6_code 41 = .ok (.invokevirtual 111, 3) := by decide +kernel
theorem d_Carrier_comeOrGo_44 : decode prog_2_method_6_code 44 = .ok (.aload_n 1, 1) := by decide +kernel
theorem d_Carrier_comeOrGo_45 : decode prog_2_method_6_code 45 = .ok (.aload_n 2, 1) := by decide +kernel
theorem d_Carrier_comeOrGo_46 : decode prog_2_method_6_code 46 = .ok (.iload_n 3, 1) := by decide +kernel
theorem d_Carrier_comeOrGo_47 : decode prog_2_method_6_code 47 = .ok (.invokevirtual 115, 3) := by decide +kernel
theorem d_Carrier_comeOrGo_50 : decode prog_2_method_6_code 50 = .ok (.return_, 1) := by decide +kernel
theorem d_Carrier_comeOrGo_51 : decode prog_2_method_6_code 51 = .ok (.aload_n 2, 1) := by decide +kernel
theorem d_Carrier_comeOrGo_52 : decode prog_2_method_6_code 52 = .ok (.getfield 119, 3) := by decide +kernel
theorem d_Carrier_comeOrGo_55 : decode prog_2_method_6_code 55 = .ok (.iload_n 3, 1) := by decide +kernel
theorem d_Carrier_comeOrGo_56 : decode prog_2_method_6_code 56 = .ok (.iaload, 1) := by decide +kernel
theorem d_Carrier_comeOrGo_57 : decode prog_2_method_6_code 57 = .ok (.ifCond .eq 22, 3) := by decide +kernel
theorem d_Carrier_comeOrGo_60 : decode prog_2_method_6_code 60 = .ok (.aload_n 0, 1) := by decide +kernel
theorem d_Carrier_comeOrGo_61 : decode prog_2_method_6_code 61 = .ok (.getfield 14, 3) := by decide +kernel
theorem d_Carrier_comeOrGo_64 : decode prog_2_method_6_code 64 = .ok (.aload_n 1, 1) := by decide +kernel
theorem d_Carrier_comeOrGo_65 : decode prog_2_method_6_code 65 = .ok (.getfield 108, 3) := by decide +kernel
theorem d_Carrier_comeOrGo_68 : decode prog_2_method_6_code 68 = .ok (.aload_n 2, 1) := by decide +kernel
theorem d_Carrier_comeOrGo_69 : decode prog_2_method_6_code 69 = .ok (.getfield 122, 3) := by decide +kernel
theorem d_Carrier_comeOrGo_72 : decode prog_2_method_6_code 72 = .ok (.iload_n 3, 1) := by decide +kernel
theorem d_Carrier_comeOrGo_73 : decode prog_2_method_6_code 73 = .ok (.invokevirtual 56, 3) := by decide +kernel
theorem d_Carrier_comeOrGo_76 : decode prog_2_method_6_code 76 = .ok (.goto 26, 3) := by decide +kernel
theorem d_Carrier_comeOrGo_79 : decode prog_2_method_6_code 79 = .ok (.aload_n 0, 1) := by decide +kernel
theorem d_Carrier_comeOrGo_80 : decode prog_2_method_6_code 80 = .ok (.getfield 14, 3) := by decide +kernel
theorem d_Carrier_comeOrGo_83 : decode prog_2_method_6_code 83 = .ok (.aload_n 1, 1) := by decide +kernel
theorem d_Carrier_comeOrGo_84 : decode prog_2_method_6_code 84 = .ok (.getfield 108, 3) := by decide +kernel
theorem d_Carrier_comeOrGo_87 : decode prog_2_method_6_code 87 = .ok (.aload_n 1, 1) := by decide +kernel
theorem d_Carrier_comeOrGo_88 : decode prog_2_method_6_code 88 = .ok (.getfield 95, 3) := by decide +kernel
theorem d_Carrier_comeOrGo_91 : decode prog_2_method_6_code 91 = .ok (.aload_n 1, 1) := by decide +kernel
theorem d_Carrier_comeOrGo_92 : decode prog_2_method_6_code 92 = .ok (.getfield 98, 3) := by decide +kernel
theorem d_Carrier_comeOrGo_95 : decode prog_2_method_6_code 95 = .ok (.aload_n 1, 1) := by decide +kernel
theorem d_Carrier_comeOrGo_96 : decode prog_2_method_6_code 96 = .ok (.getfield 101, 3) := by decide +kernel
theorem d_Carrier_comeOrGo_99 : decode prog_2_method_6_code 99 = .ok (.invokevirtual 104, 3) := by decide +kernel
theorem d_Carrier_comeOrGo_102 : decode prog_2_method_6_code 102 = .ok (.aload_n 2, 1) := by decide +kernel
theorem d_Carrier_comeOrGo_103 : decode prog_2_method_6_code 103 = .ok (.getfield 119, 3) := by decide +kernel
theorem d_Carrier_comeOrGo_106 : decode prog_2_method_6_code 106 = .ok (.iload_n 3, 1) := by decide +kernel
theorem d_Carrier_comeOrGo_107 : decode prog_2_method_6_code 107 = .ok (.iconst 0, 1) := by decide +kernel
theorem d_Carrier_comeOrGo_108 : decode prog_2_method_6_code 108 = .ok (.iastore, 1) := by decide +kernel
theorem d_Carrier_comeOrGo_109 : decode prog_2_method_6_code 109 = .ok (.return_, 1) := by decide +kernel
abbrev M_Carrier_wrap : q_M := (⟨"LensPaths$Carrier", "wrap", "(LLensPaths$Primitive;LLensPaths$Row;I)V"⟩, prog_2_method_8_code, 5, none, "LensPaths$Carrier", [], false, 3, 63)
theorem d_Carrier_wrap_0 : decode prog_2_method_8_code 0 = .ok (.aload_n 0, 1) := by decide +kernel
theorem d_Carrier_wrap_1 : decode prog_2_method_8_code 1 = .ok (.getfield 14, 3) := by decide +kernel
theorem d_Carrier_wrap_4 : decode prog_2_method_8_code 4 = .ok (.aload_n 1, 1) := by decide +kernel
theorem d_Carrier_wrap_5 : decode prog_2_method_8_code 5 = .ok (.getfield 108, 3) := by decide +kernel
theorem d_Carrier_wrap_8 : decode prog_2_method_8_code 8 = .ok (.iconst 0, 1) := by decide +kernel
theorem d_Carrier_wrap_9 : decode prog_2_method_8_code 9 = .ok (.invokevirtual 125, 3) := by decide +kernel
theorem d_Carrier_wrap_12 : decode prog_2_method_8_code 12 = .ok (.istore 4, 2) := by decide +kernel
theorem d_Carrier_wrap_14 : decode prog_2_method_8_code 14 = .ok (.aload_n 2, 1) := by decide +kernel
theorem d_Carrier_wrap_15 : decode prog_2_method_8_code 15 = .ok (.getfield 119, 3) := by decide +kernel
theorem d_Carrier_wrap_18 : decode prog_2_method_8_code 18 = .ok (.iload_n 3, 1) := by decide +kernel
theorem d_Carrier_wrap_19 : decode prog_2_method_8_code 19 = .ok (.iaload, 1) := by decide +kernel
theorem d_Carrier_wrap_20 : decode prog_2_method_8_code 20 = .ok (.ifCond .eq 72, 3) := by decide +kernel
theorem d_Carrier_wrap_23 : decode prog_2_method_8_code 23 = .ok (.aload_n 0, 1) := by decide +kernel
theorem d_Carrier_wrap_24 : decode prog_2_method_8_code 24 = .ok (.getfield 14, 3) := by decide +kernel
theorem d_Carrier_wrap_27 : decode prog_2_method_8_code 27 = .ok (.aload_n 1, 1) := by decide +kernel
theorem d_Carrier_wrap_28 : decode prog_2_method_8_code 28 = .ok (.getfield 108, 3) := by decide +kernel
theorem d_Carrier_wrap_31 : decode prog_2_method_8_code 31 = .ok (.aload_n 2, 1) := by decide +kernel
theorem d_Carrier_wrap_32 : decode prog_2_method_8_code 32 = .ok (.getfield 122, 3) := by decide +kernel
theorem d_Carrier_wrap_35 : decode prog_2_method_8_code 35 = .ok (.iload_n 3, 1) := by decide +kernel
theorem d_Carrier_wrap_36 : decode prog_2_method_8_code 36 = .ok (.invokevirtual 56, 3) := by decide +kernel
theorem d_Carrier_wrap_39 : decode prog_2_method_8_code 39 = .ok (.aload_n 0, 1) := by decide +kernel
theorem d_Carrier_wrap_40 : decode prog_2_method_8_code 40 = .ok (.getfield 14, 3) := by decide +kernel
theorem d_Carrier_wrap_43 : decode prog_2_method_8_code 43 = .ok (.aload_n 1, 1) := by decide +kernel
theorem d_Carrier_wrap_44 : decode prog_2_method_8_code 44 = .ok (.getfield 108, 3) := by decide +kernel
theorem d_Carrier_wrap_47 : decode prog_2_method_8_code 47 = .ok (.invokevirtual 129, 3) := by decide +kernel
theorem d_Carrier_wrap_50 : decode prog_2_method_8_code 50 = .ok (.ifCond .le 20, 3) := by decide +kernel
theorem d_Carrier_wrap_53 : decode prog_2_method_8_code 53 = .ok (.aload_n 0, 1) := by decide +kernel
theorem d_Carrier_wrap_54 : decode prog_2_method_8_code 54 = .ok (.getfield 14, 3) := by decide +kernel
theorem d_Carrier_wrap_57 : decode prog_2_method_8_code 57 = .ok (.aload_n 1, 1) := by decide +kernel
theorem d_Carrier_wrap_58 : decode prog_2_method_8_code 58 = .ok (.getfield 108, 3) := by decide +kernel
theorem d_Carrier_wrap_61 : decode prog_2_method_8_code 61 = .ok (.iconst 0, 1) := by decide +kernel
theorem d_Carrier_wrap_62 : decode prog_2_method_8_code 62 = .ok (.iload 4, 2) := by decide +kernel
theorem d_Carrier_wrap_64 : decode prog_2_method_8_code 64 = .ok (.invokevirtual 133, 3) := by decide +kernel
theorem d_Carrier_wrap_67 : decode prog_2_method_8_code 67 = .ok (.goto 25, 3) := by decide +kernel
theorem d_Carrier_wrap_70 : decode prog_2_method_8_code 70 = .ok (.iload 4, 2) := by decide +kernel
theorem d_Carrier_wrap_72 : decode prog_2_method_8_code 72 = .ok (.aload_n 1, 1) := by decide +kernel
theorem d_Carrier_wrap_73 : decode prog_2_method_8_code 73 = .ok (.invokevirtual 137, 3) := by decide +kernel
theorem d_Carrier_wrap_76 : decode prog_2_method_8_code 76 = .ok (.if_icmp .eq 16, 3) := by decide +kernel
theorem d_Carrier_wrap_79 : decode prog_2_method_8_code 79 = .ok (.aload_n 0, 1) := by decide +kernel
theorem d_Carrier_wrap_80 : decode prog_2_method_8_code 80 = .ok (.getfield 14, 3) := by decide +kernel
theorem d_Carrier_wrap_83 : decode prog_2_method_8_code 83 = .ok (.aload_n 1, 1) := by decide +kernel
theorem d_Carrier_wrap_84 : decode prog_2_method_8_code 84 = .ok (.getfield 108, 3) := by decide +kernel
theorem d_Carrier_wrap_87 : decode prog_2_method_8_code 87 = .ok (.iload 4, 2) := by decide +kernel
theorem d_Carrier_wrap_89 : decode prog_2_method_8_code 89 = .ok (.invokevirtual 141, 3) := by decide +kernel
theorem d_Carrier_wrap_92 : decode prog_2_method_8_code 92 = .ok (.aload_n 2, 1) := by decide +kernel
theorem d_Carrier_wrap_93 : decode prog_2_method_8_code 93 = .ok (.getfield 119, 3) := by decide +kernel
theorem d_Carrier_wrap_96 : decode prog_2_method_8_code 96 = .ok (.iload_n 3, 1) := by decide +kernel
theorem d_Carrier_wrap_97 : decode prog_2_method_8_code 97 = .ok (.iconst 0, 1) := by decide +kernel
theorem d_Carrier_wrap_98 : decode prog_2_method_8_code 98 = .ok (.iastore, 1) := by decide +kernel
theorem d_Carrier_wrap_99 : decode prog_2_method_8_code 99 = .ok (.return_, 1) := by decide +kernel
abbrev M_Carrier_unwrap : q_M := (⟨"LensPaths$Carrier", "unwrap", "(LLensPaths$Primitive;LLensPaths$Row;I)V"⟩, prog_2_method_9_code, 5, none, "LensPaths$Carrier", [], false, 4, 87)
theorem d_Carrier_unwrap_0 : decode prog_2_method_9_code 0 = .ok (.aload_n 0, 1) := by decide +kernel
theorem d_Carrier_unwrap_1 : decode prog_2_method_9_code 1 = .ok (.getfield 14, 3) := by decide +kernel
theorem d_Carrier_unwrap_4 : decode prog_2_method_9_code 4 = .ok (.aload_n 1, 1) := by decide +kernel
theorem d_Carrier_unwrap_5 : decode prog_2_method_9_code 5 = .ok (.getfield 108, 3) := by decide +kernel
theorem d_Carrier_unwrap_8 : decode prog_2_method_9_code 8 = .ok (.invokevirtual 129, 3) := by decide +kernel
theorem d_Carrier_unwrap_11 : decode prog_2_method_9_code 11 = .ok (.istore 4, 2) := by decide +kernel
theorem d_Carrier_unwrap_13 : decode prog_2_method_9_code 13 = .ok (.aload_n 0, 1) := by decide +kernel
theorem d_Carrier_unwrap_14 : decode prog_2_method_9_code 14 = .ok (.iload 4, 2) := by decide +kernel
theorem d_Carrier_unwrap_16 : decode prog_2_method_9_code 16 = .ok (.iconst 1, 1) := by decide +kernel
theorem d_Carrier_unwrap_17 : decode prog_2_method_9_code 17 = .ok (.if_icmp .ne 7, 3) := by decide +kernel
theorem d_Carrier_unwrap_20 : decode prog_2_method_9_code 20 = .ok (.iconst 1, 1) := by decide +kernel
theorem d_Carrier_unwrap_21 : decode prog_2_method_9_code 21 = .ok (.goto 4, 3) := by decide +kernel
theorem d_Carrier_unwrap_24 : decode prog_2_method_9_code 24 = .ok (.iconst 0, 1) := by decide +kernel
theorem d_Carrier_unwrap_25 : decode prog_2_method_9_code 25 = .ok (.aload_n 1, 1) := by decide +kernel
theorem d_Carrier_unwrap_26 : decode prog_2_method_9_code 26 = .ok (.aload_n 2, 1) := by decide +kernel
theorem d_Carrier_unwrap_27 : decode prog_2_method_9_code 27 = .ok (.iload_n 3, 1) := by decide +kernel
theorem d_Carrier_unwrap_28 : decode prog_2_method_9_code 28 = .ok (.invokevirtual 115, 3) := by decide +kernel
theorem d_Carrier_unwrap_31 : decode prog_2_method_9_code 31 = .ok (.aload_n 0, 1) := by decide +kernel
theorem d_Carrier_unwrap_32 : decode prog_2_method_9_code 32 = .ok (.getfield 14, 3) := by decide +kernel
theorem d_Carrier_unwrap_35 : decode prog_2_method_9_code 35 = .ok (.aload_n 1, 1) := by decide +kernel
theorem d_Carrier_unwrap_36 : decode prog_2_method_9_code 36 = .ok (.getfield 108, 3) := by decide +kernel
theorem d_Carrier_unwrap_39 : decode prog_2_method_9_code 39 = .ok (.iload 4, 2) := by decide +kernel
theorem d_Carrier_unwrap_41 : decode prog_2_method_9_code 41 = .ok (.ifCond .le 18, 3) := by decide +kernel
theorem d_Carrier_unwrap_44 : decode prog_2_method_9_code 44 = .ok (.aload_n 0, 1) := by decide +kernel
theorem d_Carrier_unwrap_45 : decode prog_2_method_9_code 45 = .ok (.getfield 14, 3) := by decide +kernel
theorem d_Carrier_unwrap_48 : decode prog_2_method_9_code 48 = .ok (.aload_n 1, 1) := by decide +kernel
theorem d_Carrier_unwrap_49 : decode prog_2_method_9_code 49 = .ok (.getfield 108, 3) := by decide +kernel
theorem d_Carrier_unwrap_52 : decode prog_2_method_9_code 52 = .ok (.iconst 0, 1) := by decide +kernel
theorem d_Carrier_unwrap_53 : decode prog_2_method_9_code 53 = .ok (.invokevirtual 125, 3) := by decide +kernel
theorem d_Carrier_unwrap_56 : decode prog_2_method_9_code 56 = .ok (.goto 7, 3) := by decide +kernel
theorem d_Carrier_unwrap_59 : decode prog_2_method_9_code 59 = .ok (.aload_n 1, 1) := by decide +kernel
theorem d_Carrier_unwrap_60 : decode prog_2_method_9_code 60 = .ok (.invokevirtual 137, 3) := by decide +kernel
theorem d_Carrier_unwrap_63 : decode prog_2_method_9_code 63 = .ok (.invokevirtual 141, 3) := by decide +kernel
theorem d_Carrier_unwrap_66 : decode prog_2_method_9_code 66 = .ok (.return_, 1) := by decide +kernel
abbrev M_Carrier_split : q_M := (⟨"LensPaths$Carrier", "split", "(LLensPaths$Primitive;)Z"⟩, prog_2_method_10_code, 3, (some .boolean), "LensPaths$Carrier", [], false, 1, 22)
theorem d_Carrier_split_0 : decode prog_2_method_10_code 0 = .ok (.aload_n 0, 1) := by decide +kernel
theorem d_Carrier_split_1 : decode prog_2_method_10_code 1 = .ok (.getfield 14, 3) := by decide +kernel
theorem d_Carrier_split_4 : decode prog_2_method_10_code 4 = .ok (.aload_n 1, 1) := by decide +kernel
theorem d_Carrier_split_5 : decode prog_2_method_10_code 5 = .ok (.getfield 108, 3) := by decide +kernel
theorem d_Carrier_split_8 : decode prog_2_method_10_code 8 = .ok (.iconst 0, 1) := by decide +kernel
theorem d_Carrier_split_9 : decode prog_2_method_10_code 9 = .ok (.invokevirtual 125, 3) := by decide +kernel
theorem d_Carrier_split_12 : decode prog_2_method_10_code 12 = .ok (.istore_n 2, 1) := by decide +kernel
theorem d_Carrier_split_13 : decode prog_2_method_10_code 13 = .ok (.aload_n 0, 1) := by decide +kernel
theorem d_Carrier_split_14 : decode prog_2_method_10_code 14 = .ok (.getfield 14, 3) := by decide +kernel
theorem d_Carrier_split_17 : decode prog_2_method_10_code 17 = .ok (.aload_n 1, 1) := by decide +kernel
theorem d_Carrier_split_18 : decode prog_2_method_10_code 18 = .ok (.getfield 108, 3) := by decide +kernel
theorem d_Carrier_split_21 : decode prog_2_method_10_code 21 = .ok (.iload_n 2, 1) := by decide +kernel
theorem d_Carrier_split_22 : decode prog_2_method_10_code 22 = .ok (.aload_n 1, 1) := by decide +kernel
theorem d_Carrier_split_23 : decode prog_2_method_10_code 23 = .ok (.getfield 145, 3) := by decide +kernel
theorem d_Carrier_split_26 : decode prog_2_method_10_code 26 = .ok (.invokestatic 148, 3) := by decide +kernel
theorem d_Carrier_split_29 : decode prog_2_method_10_code 29 = .ok (.invokevirtual 141, 3) := by decide +kernel
theorem d_Carrier_split_32 : decode prog_2_method_10_code 32 = .ok (.aload_n 0, 1) := by decide +kernel
theorem d_Carrier_split_33 : decode prog_2_method_10_code 33 = .ok (.getfield 14, 3) := by decide +kernel
theorem d_Carrier_split_36 : decode prog_2_method_10_code 36 = .ok (.aload_n 1, 1) := by decide +kernel
theorem d_Carrier_split_37 : decode prog_2_method_10_code 37 = .ok (.getfield 153, 3) := by decide +kernel
theorem d_Carrier_split_40 : decode prog_2_method_10_code 40 = .ok (.iload_n 2, 1) := by decide +kernel
theorem d_Carrier_split_41 : decode prog_2_method_10_code 41 = .ok (.aload_n 1, 1) := by decide +kernel
theorem d_Carrier_split_42 : decode prog_2_method_10_code 42 = .ok (.getfield 145, 3) := by decide +kernel
theorem d_Carrier_split_45 : decode prog_2_method_10_code 45 = .ok (.invokestatic 156, 3) := by decide +kernel
theorem d_Carrier_split_48 : decode prog_2_method_10_code 48 = .ok (.invokevirtual 141, 3) := by decide +kernel
theorem d_Carrier_split_51 : decode prog_2_method_10_code 51 = .ok (.iconst 1, 1) := by decide +kernel
theorem d_Carrier_split_52 : decode prog_2_method_10_code 52 = .ok (.ireturn, 1) := by decide +kernel
abbrev M_Carrier_join : q_M := (⟨"LensPaths$Carrier", "join", "(LLensPaths$Primitive;)Z"⟩, prog_2_method_11_code, 4, (some .boolean), "LensPaths$Carrier", [], false, 1, 22)
theorem d_Carrier_join_0 : decode prog_2_method_11_code 0 = .ok (.aload_n 0, 1) := by decide +kernel
theorem d_Carrier_join_1 : decode prog_2_method_11_code 1 = .ok (.getfield 14, 3) := by decide +kernel
theorem d_Carrier_join_4 : decode prog_2_method_11_code 4 = .ok (.aload_n 1, 1) := by decide +kernel
theorem d_Carrier_join_5 : decode prog_2_method_11_code 5 = .ok (.getfield 108, 3) := by decide +kernel
theorem d_Carrier_join_8 : decode prog_2_method_11_code 8 = .ok (.iconst 0, 1) := by decide +kernel
theorem d_Carrier_join_9 : decode prog_2_method_11_code 9 = .ok (.invokevirtual 125, 3) := by decide +kernel
theorem d_Carrier_join_12 : decode prog_2_method_11_code 12 = .ok (.i2l, 1) := by decide +kernel
theorem d_Carrier_join_13 : decode prog_2_method_11_code 13 = .ok (.aload_n 1, 1) := by decide +kernel
theorem d_Carrier_join_14 : decode prog_2_method_11_code 14 = .ok (.getfield 145, 3) := by decide +kernel
theorem d_Carrier_join_17 : decode prog_2_method_11_code 17 = .ok (.i2l, 1) := by decide +kernel
theorem d_Carrier_join_18 : decode prog_2_method_11_code 18 = .ok (.lmul, 1) := by decide +kernel
theorem d_Carrier_join_19 : decode prog_2_method_11_code 19 = .ok (.aload_n 0, 1) := by decide +kernel
theorem d_Carrier_join_20 : decode prog_2_method_11_code 20 = .ok (.getfield 14, 3) := by decide +kernel
theorem d_Carrier_join_23 : decode prog_2_method_11_code 23 = .ok (.aload_n 1, 1) := by decide +kernel
theorem d_Carrier_join_24 : decode prog_2_method_11_code 24 = .ok (.getfield 153, 3) := by decide +kernel
theorem d_Carrier_join_27 : decode prog_2_method_11_code 27 = .ok (.iconst 0, 1) := by decide +kernel
theorem d_Carrier_join_28 : decode prog_2_method_11_code 28 = .ok (.invokevirtual 125, 3) := by decide +kernel
theorem d_Carrier_join_31 : decode prog_2_method_11_code 31 = .ok (.i2l, 1) := by decide +kernel
theorem d_Carrier_join_32 : decode prog_2_method_11_code 32 = .ok (.ladd, 1) := by decide +kernel
theorem d_Carrier_join_33 : decode prog_2_method_11_code 33 = .ok (.lstore_n 2, 1) := by decide +kernel
theorem d_Carrier_join_34 : decode prog_2_method_11_code 34 = .ok (.aload_n 1, 1) := by decide +kernel
theorem d_Carrier_join_35 : decode prog_2_method_11_code 35 = .ok (.lload_n 2, 1) := by decide +kernel
theorem d_Carrier_join_36 : decode prog_2_method_11_code 36 = .ok (.invokevirtual 159, 3) := by decide +kernel
theorem d_Carrier_join_39 : decode prog_2_method_11_code 39 = .ok (.ifCond .ne 5, 3) := by decide +kernel
theorem d_Carrier_join_42 : decode prog_2_method_11_code 42 = .ok (.iconst 0, 1) := by decide +kernel
theorem d_Carrier_join_43 : decode prog_2_method_11_code 43 = .ok (.ireturn, 1) := by decide +kernel
theorem d_Carrier_join_44 : decode prog_2_method_11_code 44 = .ok (.aload_n 0, 1) := by decide +kernel
theorem d_Carrier_join_45 : decode prog_2_method_11_code 45 = .ok (.getfield 14, 3) := by decide +kernel
theorem d_Carrier_join_48 : decode prog_2_method_11_code 48 = .ok (.aload_n 1, 1) := by decide +kernel
theorem d_Carrier_join_49 : decode prog_2_method_11_code 49 = .ok (.getfield 108, 3) := by decide +kernel
theorem d_Carrier_join_52 : decode prog_2_method_11_code 52 = .ok (.lload_n 2, 1) := by decide +kernel
theorem d_Carrier_join_53 : decode prog_2_method_11_code 53 = .ok (.l2i, 1) := by decide +kernel
theorem d_Carrier_join_54 : decode prog_2_method_11_code 54 = .ok (.invokevirtual 141, 3) := by decide +kernel
theorem d_Carrier_join_57 : decode prog_2_method_11_code 57 = .ok (.iconst 1, 1) := by decide +kernel
theorem d_Carrier_join_58 : decode prog_2_method_11_code 58 = .ok (.ireturn, 1) := by decide +kernel
abbrev M_Carrier_apply : q_M := (⟨"LensPaths$Carrier", "apply", "(LLensPaths$Primitive;IZ)V"⟩, prog_2_method_13_code, 5, none, "LensPaths$Carrier", [], false, 2, 48)
theorem d_Carrier_apply_0 : decode prog_2_method_13_code 0 = .ok (.aload_n 1, 1) := by decide +kernel
theorem d_Carrier_apply_1 : decode prog_2_method_13_code 1 = .ok (.getfield 69, 3) := by decide +kernel
theorem d_Carrier_apply_4 : decode prog_2_method_13_code 4 = .ok (.bipush 6, 2) := by decide +kernel
theorem d_Carrier_apply_6 : decode prog_2_method_13_code 6 = .ok (.if_icmp .ne 44, 3) := by decide +kernel
theorem d_Carrier_apply_9 : decode prog_2_method_13_code 9 = .ok (.aload_n 0, 1) := by decide +kernel
theorem d_Carrier_apply_10 : decode prog_2_method_13_code 10 = .ok (.getfield 14, 3) := by decide +kernel
theorem d_Carrier_apply_13 : decode prog_2_method_13_code 13 = .ok (.iload_n 2, 1) := by decide +kernel
theorem d_Carrier_apply_14 : decode prog_2_method_13_code 14 = .ok (.iconst 0, 1) := by decide +kernel
theorem d_Carrier_apply_15 : decode prog_2_method_13_code 15 = .ok (.invokevirtual 125, 3) := by decide +kernel
theorem d_Carrier_apply_18 : decode prog_2_method_13_code 18 = .ok (.istore 4, 2) := by decide +kernel
theorem d_Carrier_apply_20 : decode prog_2_method_13_code 20 = .ok (.aload_n 0, 1) := by decide +kernel
theorem d_Carrier_apply_21 : decode prog_2_method_13_code 21 = .ok (.getfield 14, 3) := by decide +kernel
theorem d_Carrier_apply_24 : decode prog_2_method_13_code 24 = .ok (.iload_n 2, 1) := by decide +kernel
theorem d_Carrier_apply_25 : decode prog_2_method_13_code 25 = .ok (.iload_n 3, 1) := by decide +kernel
theorem d_Carrier_apply_26 : decode prog_2_method_13_code 26 = .ok (.ifCond .eq 12, 3) := by decide +kernel
theorem d_Carrier_apply_29 : decode prog_2_method_13_code 29 = .ok (.aload_n 1, 1) := by decide +kernel
theorem d_Carrier_apply_30 : decode prog_2_method_13_code 30 = .ok (.iload 4, 2) := by decide +kernel
theorem d_Carrier_apply_32 : decode prog_2_method_13_code 32 = .ok (.invokevirtual 170, 3) := by decide +kernel
theorem d_Carrier_apply_35 : decode prog_2_method_13_code 35 = .ok (.goto 9, 3) := by decide +kernel
theorem d_Carrier_apply_38 : decode prog_2_method_13_code 38 = .ok (.aload_n 1, 1) := by decide +kernel
theorem d_Carrier_apply_39 : decode prog_2_method_13_code 39 = .ok (.iload 4, 2) := by decide +kernel
theorem d_Carrier_apply_41 : decode prog_2_method_13_code 41 = .ok (.invokevirtual 173, 3) := by decide +kernel
theorem d_Carrier_apply_44 : decode prog_2_method_13_code 44 = .ok (.invokevirtual 141, 3) := by decide +kernel
theorem d_Carrier_apply_47 : decode prog_2_method_13_code 47 = .ok (.goto 61, 3) := by decide +kernel
theorem d_Carrier_apply_50 : decode prog_2_method_13_code 50 = .ok (.aload_n 1, 1) := by decide +kernel
theorem d_Carrier_apply_51 : decode prog_2_method_13_code 51 = .ok (.getfield 69, 3) := by decide +kernel
theorem d_Carrier_apply_54 : decode prog_2_method_13_code 54 = .ok (.bipush 7, 2) := by decide +kernel
theorem d_Carrier_apply_56 : decode prog_2_method_13_code 56 = .ok (.if_icmp .ne 31, 3) := by decide +kernel
theorem d_Carrier_apply_59 : decode prog_2_method_13_code 59 = .ok (.iload_n 3, 1) := by decide +kernel
theorem d_Carrier_apply_60 : decode prog_2_method_13_code 60 = .ok (.ifCond .eq 27, 3) := by decide +kernel
theorem d_Carrier_apply_63 : decode prog_2_method_13_code 63 = .ok (.aload_n 0, 1) := by decide +kernel
theorem d_Carrier_apply_64 : decode prog_2_method_13_code 64 = .ok (.getfield 14, 3) := by decide +kernel
theorem d_Carrier_apply_67 : decode prog_2_method_13_code 67 = .ok (.iload_n 2, 1) := by decide +kernel
theorem d_Carrier_apply_68 : decode prog_2_method_13_code 68 = .ok (.aload_n 1, 1) := by decide +kernel
theorem d_Carrier_apply_69 : decode prog_2_method_13_code 69 = .ok (.aload_n 0, 1) := by decide +kernel
theorem d_Carrier_apply_70 : decode prog_2_method_13_code 70 = .ok (.getfield 14, 3) := by decide +kernel
theorem d_Carrier_apply_73 : decode prog_2_method_13_code 73 = .ok (.iload_n 2, 1) := by decide +kernel
theorem d_Carrier_apply_74 : decode prog_2_method_13_code 74 = .ok (.iconst 0, 1) := by decide +kernel
theorem d_Carrier_apply_75 : decode prog_2_method_13_code 75 = .ok (.invokevirtual 125, 3) := by decide +kernel
theorem d_Carrier_apply_78 : decode prog_2_method_13_code 78 = .ok (.invokevirtual 176, 3) := by decide +kernel
theorem d_Carrier_apply_81 : decode prog_2_method_13_code 81 = .ok (.invokevirtual 141, 3) := by decide +kernel
theorem d_Carrier_apply_84 : decode prog_2_method_13_code 84 = .ok (.goto 24, 3) := by decide +kernel
theorem d_Carrier_apply_87 : decode prog_2_method_13_code 87 = .ok (.aload_n 1, 1) := by decide +kernel
theorem d_Carrier_apply_88 : decode prog_2_method_13_code 88 = .ok (.getfield 69, 3) := by decide +kernel
theorem d_Carrier_apply_91 : decode prog_2_method_13_code 91 = .ok (.bipush 8, 2) := by decide +kernel
theorem d_Carrier_apply_93 : decode prog_2_method_13_code 93 = .ok (.if_icmp .ne 15, 3) := by decide +kernel
theorem d_Carrier_apply_96 : decode prog_2_method_13_code 96 = .ok (.iload_n 3, 1) := by decide +kernel
theorem d_Carrier_apply_97 : decode prog_2_method_13_code 97 = .ok (.ifCond .eq 11, 3) := by decide +kernel
theorem d_Carrier_apply_100 : decode prog_2_method_13_code 100 = .ok (.aload_n 0, 1) := by decide +kernel
theorem d_Carrier_apply_101 : decode prog_2_method_13_code 101 = .ok (.getfield 14, 3) := by decide +kernel
theorem d_Carrier_apply_104 : decode prog_2_method_13_code 104 = .ok (.iload_n 2, 1) := by decide +kernel
theorem d_Carrier_apply_105 : decode prog_2_method_13_code 105 = .ok (.invokevirtual 179, 3) := by decide +kernel
theorem d_Carrier_apply_108 : decode prog_2_method_13_code 108 = .ok (.return_, 1) := by decide +kernel
abbrev M_Carrier_change : q_M := (⟨"LensPaths$Carrier", "change", "(LLensPaths$Primitive;LLensPaths$Row;IZ)V"⟩, prog_2_method_12_code, 7, none, "LensPaths$Carrier", [], false, 3, 72)
theorem d_Carrier_change_0 : decode prog_2_method_12_code 0 = .ok (.iload 4, 2) := by decide +kernel
theorem d_Carrier_change_2 : decode prog_2_method_12_code 2 = .ok (.ifCond .eq 7, 3) := by decide +kernel
theorem d_Carrier_change_5 : decode prog_2_method_12_code 5 = .ok (.iconst 2, 1) := by decide +kernel
theorem d_Carrier_change_6 : decode prog_2_method_12_code 6 = .ok (.goto 4, 3) := by decide +kernel
theorem d_Carrier_change_9 : decode prog_2_method_12_code 9 = .ok (.iconst 1, 1) := by decide +kernel
theorem d_Carrier_change_10 : decode prog_2_method_12_code 10 = .ok (.istore 5, 2) := by decide +kernel
theorem d_Carrier_change_12 : decode prog_2_method_12_code 12 = .ok (.aload_n 2, 1) := by decide +kernel
theorem d_Carrier_change_13 : decode prog_2_method_12_code 13 = .ok (.getfield 119, 3) := by decide +kernel
theorem d_Carrier_change_16 : decode prog_2_method_12_code 16 = .ok (.iload_n 3, 1) := by decide +kernel
theorem d_Carrier_change_17 : decode prog_2_method_12_code 17 = .ok (.iaload, 1) := by decide +kernel
theorem d_Carrier_change_18 : decode prog_2_method_12_code 18 = .ok (.iload 5, 2) := by decide +kernel
theorem d_Carrier_change_20 : decode prog_2_method_12_code 20 = .ok (.if_icmp .ne 26, 3) := by decide +kernel
theorem d_Carrier_change_23 : decode prog_2_method_12_code 23 = .ok (.aload_n 0, 1) := by decide +kernel
theorem d_Carrier_change_24 : decode prog_2_method_12_code 24 = .ok (.getfield 14, 3) := by decide +kernel
theorem d_Carrier_change_27 : decode prog_2_method_12_code 27 = .ok (.aload_n 1, 1) := by decide +kernel
theorem d_Carrier_change_28 : decode prog_2_method_12_code 28 = .ok (.getfield 108, 3) := by decide +kernel
theorem d_Carrier_change_31 : decode prog_2_method_12_code 31 = .ok (.aload_n 2, 1) := by decide +kernel
theorem d_Carrier_change_32 : decode prog_2_method_12_code 32 = .ok (.getfield 163, 3) := by decide +kernel
theorem d_Carrier_change_35 : decode prog_2_method_12_code 35 = .ok (.iload_n 3, 1) := by decide +kernel
theorem d_Carrier_change_36 : decode prog_2_method_12_code 36 = .ok (.invokevirtual 111, 3) := by decide +kernel
theorem d_Carrier_change_39 : decode prog_2_method_12_code 39 = .ok (.ifCond .eq 7, 3) := by decide +kernel
theorem d_Carrier_change_42 : decode prog_2_method_12_code 42 = .ok (.iconst 1, 1) := by decide +kernel
theorem d_Carrier_change_43 : decode prog_2_method_12_code 43 = .ok (.goto 4, 3) := by decide +kernel
theorem d_Carrier_change_46 : decode prog_2_method_12_code 46 = .ok (.iconst 0, 1) := by decide +kernel
theorem d_Carrier_change_47 : decode prog_2_method_12_code 47 = .ok (.istore 6, 2) := by decide +kernel
theorem d_Carrier_change_49 : decode prog_2_method_12_code 49 = .ok (.aload_n 2, 1) := by decide +kernel
theorem d_Carrier_change_50 : decode prog_2_method_12_code 50 = .ok (.getfield 119, 3) := by decide +kernel
theorem d_Carrier_change_53 : decode prog_2_method_12_code 53 = .ok (.iload_n 3, 1) := by decide +kernel
theorem d_Carrier_change_54 : decode prog_2_method_12_code 54 = .ok (.iconst 0, 1) := by decide +kernel
theorem d_Carrier_change_55 : decode prog_2_method_12_code 55 = .ok (.iastore, 1) := by decide +kernel
theorem d_Carrier_change_56 : decode prog_2_method_12_code 56 = .ok (.iload 6, 2) := by decide +kernel
theorem d_Carrier_change_58 : decode prog_2_method_12_code 58 = .ok (.ifCond .eq 20, 3) := by decide +kernel
theorem d_Carrier_change_61 : decode prog_2_method_12_code 61 = .ok (.aload_n 0, 1) := by decide +kernel
theorem d_Carrier_change_62 : decode prog_2_method_12_code 62 = .ok (.getfield 14, 3) := by decide +kernel
theorem d_Carrier_change_65 : decode prog_2_method_12_code 65 = .ok (.aload_n 1, 1) := by decide +kernel
theorem d_Carrier_change_66 : decode prog_2_method_12_code 66 = .ok (.getfield 108, 3) := by decide +kernel
theorem d_Carrier_change_69 : decode prog_2_method_12_code 69 = .ok (.aload_n 2, 1) := by decide +kernel
theorem d_Carrier_change_70 : decode prog_2_method_12_code 70 = .ok (.getfield 122, 3) := by decide +kernel
theorem d_Carrier_change_73 : decode prog_2_method_12_code 73 = .ok (.iload_n 3, 1) := by decide +kernel
theorem d_Carrier_change_74 : decode prog_2_method_12_code 74 = .ok (.invokevirtual 56, 3) := by decide +kernel
theorem d_Carrier_change_77 : decode prog_2_method_12_code 77 = .ok (.return_, 1) := by decide +kernel
theorem d_Carrier_change_78 : decode prog_2_method_12_code 78 = .ok (.aload_n 0, 1) := by decide +kernel
theorem d_Carrier_change_79 : decode prog_2_method_12_code 79 = .ok (.getfield 14, 3) := by decide +kernel
theorem d_Carrier_change_82 : decode prog_2_method_12_code 82 = .ok (.bipush 32, 2) := by decide +kernel
theorem d_Carrier_change_84 : decode prog_2_method_12_code 84 = .ok (.aload_n 0, 1) := by decide +kernel
theorem d_Carrier_change_85 : decode prog_2_method_12_code 85 = .ok (.getfield 14, 3) := by decide +kernel
theorem d_Carrier_change_88 : decode prog_2_method_12_code 88 = .ok (.aload_n 1, 1) := by decide +kernel
theorem d_Carrier_change_89 : decode prog_2_method_12_code 89 = .ok (.getfield 108, 3) := by decide +kernel
theorem d_Carrier_change_92 : decode prog_2_method_12_code 92 = .ok (.invokevirtual 56, 3) := by decide +kernel
theorem d_Carrier_change_95 : decode prog_2_method_12_code 95 = .ok (.aload_n 0, 1) := by decide +kernel
theorem d_Carrier_change_96 : decode prog_2_method_12_code 96 = .ok (.aload_n 1, 1) := by decide +kernel
theorem d_Carrier_change_97 : decode prog_2_method_12_code 97 = .ok (.aload_n 1, 1) := by decide +kernel
theorem d_Carrier_change_98 : decode prog_2_method_12_code 98 = .ok (.getfield 108, 3) := by decide +kernel
theorem d_Carrier_change_101 : decode prog_2_method_12_code 101 = .ok (.iload 4, 2) := by decide +kernel
theorem d_Carrier_change_103 : decode prog_2_method_12_code 103 = .ok (.invokevirtual 166, 3) := by decide +kernel
theorem d_Carrier_change_106 : decode prog_2_method_12_code 106 = .ok (.aload_n 0, 1) := by decide +kernel
theorem d_Carrier_change_107 : decode prog_2_method_12_code 107 = .ok (.getfield 14, 3) := by decide +kernel
theorem d_Carrier_change_110 : decode prog_2_method_12_code 110 = .ok (.bipush 33, 2) := by decide +kernel
theorem d_Carrier_change_112 : decode prog_2_method_12_code 112 = .ok (.aload_n 0, 1) := by decide +kernel
theorem d_Carrier_change_113 : decode prog_2_method_12_code 113 = .ok (.getfield 14, 3) := by decide +kernel
theorem d_Carrier_change_116 : decode prog_2_method_12_code 116 = .ok (.aload_n 1, 1) := by decide +kernel
theorem d_Carrier_change_117 : decode prog_2_method_12_code 117 = .ok (.getfield 108, 3) := by decide +kernel
theorem d_Carrier_change_120 : decode prog_2_method_12_code 120 = .ok (.invokevirtual 56, 3) := by decide +kernel
theorem d_Carrier_change_123 : decode prog_2_method_12_code 123 = .ok (.aload_n 0, 1) := by decide +kernel
theorem d_Carrier_change_124 : decode prog_2_method_12_code 124 = .ok (.aload_n 1, 1) := by decide +kernel
theorem d_Carrier_change_125 : decode prog_2_method_12_code 125 = .ok (.bipush 33, 2) := by decide +kernel
theorem d_Carrier_change_127 : decode prog_2_method_12_code 127 = .ok (.iload 4, 2) := by decide +kernel
theorem d_Carrier_change_129 : decode prog_2_method_12_code 129 = .ok (.ifCond .ne 7, 3) := by decide +kernel
theorem d_Carrier_change_132 : decode prog_2_method_12_code 132 = .ok (.iconst 1, 1) := by decide +kernel
theorem d_Carrier_change_133 : decode prog_2_method_12_code 133 = .ok (.goto 4, 3) := by decide +kernel
theorem d_Carrier_change_136 : decode prog_2_method_12_code 136 = .ok (.iconst 0, 1) := by decide +kernel
theorem d_Carrier_change_137 : decode prog_2_method_12_code 137 = .ok (.invokevirtual 166, 3) := by decide +kernel
theorem d_Carrier_change_140 : decode prog_2_method_12_code 140 = .ok (.aload_n 0, 1) := by decide +kernel
theorem d_Carrier_change_141 : decode prog_2_method_12_code 141 = .ok (.getfield 14, 3) := by decide +kernel
theorem d_Carrier_change_144 : decode prog_2_method_12_code 144 = .ok (.bipush 33, 2) := by decide +kernel
theorem d_Carrier_change_146 : decode prog_2_method_12_code 146 = .ok (.aload_n 0, 1) := by decide +kernel
theorem d_Carrier_change_147 : decode prog_2_method_12_code 147 = .ok (.getfield 14, 3) := by decide +kernel
theorem d_Carrier_change_150 : decode prog_2_method_12_code 150 = .ok (.bipush 32, 2) := by decide +kernel
theorem d_Carrier_change_152 : decode prog_2_method_12_code 152 = .ok (.invokevirtual 111, 3) := by decide +kernel
theorem d_Carrier_change_155 : decode prog_2_method_12_code 155 = .ok (.ifCond .ne 49, 3) := by decide +kernel
theorem d_Carrier_change_158 : decode prog_2_method_12_code 158 = .ok (.aload_n 2, 1) := by decide +kernel
theorem d_Carrier_change_159 : decode prog_2_method_12_code 159 = .ok (.getfield 119, 3) := by decide +kernel
theorem d_Carrier_change_162 : decode prog_2_method_12_code 162 = .ok (.iload_n 3, 1) := by decide +kernel
theorem d_Carrier_change_163 : decode prog_2_method_12_code 163 = .ok (.iload 4, 2) := by decide +kernel
theorem d_Carrier_change_165 : decode prog_2_method_12_code 165 = .ok (.ifCond .eq 7, 3) := by decide +kernel
theorem d_Carrier_change_168 : decode prog_2_method_12_code 168 = .ok (.iconst 1, 1) := by decide +kernel
theorem d_Carrier_change_169 : decode prog_2_method_12_code 169 = .ok (.goto 4, 3) := by decide +kernel
theorem d_Carrier_change_172 : decode prog_2_method_12_code 172 = .ok (.iconst 2, 1) := by decide +kernel
theorem d_Carrier_change_173 : decode prog_2_method_12_code 173 = .ok (.iastore, 1) := by decide +kernel
theorem d_Carrier_change_174 : decode prog_2_method_12_code 174 = .ok (.aload_n 2, 1) := by decide +kernel
theorem d_Carrier_change_175 : decode prog_2_method_12_code 175 = .ok (.getfield 122, 3) := by decide +kernel
theorem d_Carrier_change_178 : decode prog_2_method_12_code 178 = .ok (.iload_n 3, 1) := by decide +kernel
theorem d_Carrier_change_179 : decode prog_2_method_12_code 179 = .ok (.aload_n 0, 1) := by decide +kernel
theorem d_Carrier_change_180 : decode prog_2_method_12_code 180 = .ok (.getfield 14, 3) := by decide +kernel
theorem d_Carrier_change_183 : decode prog_2_method_12_code 183 = .ok (.bipush 32, 2) := by decide +kernel
theorem d_Carrier_change_185 : decode prog_2_method_12_code 185 = .ok (.invokevirtual 56, 3) := by decide +kernel
theorem d_Carrier_change_188 : decode prog_2_method_12_code 188 = .ok (.aload_n 2, 1) := by decide +kernel
theorem d_Carrier_change_189 : decode prog_2_method_12_code 189 = .ok (.getfield 163, 3) := by decide +kernel
theorem d_Carrier_change_192 : decode prog_2_method_12_code 192 = .ok (.iload_n 3, 1) := by decide +kernel
theorem d_Carrier_change_193 : decode prog_2_method_12_code 193 = .ok (.aload_n 0, 1) := by decide +kernel
theorem d_Carrier_change_194 : decode prog_2_method_12_code 194 = .ok (.getfield 14, 3) := by decide +kernel
theorem d_Carrier_change_197 : decode prog_2_method_12_code 197 = .ok (.aload_n 1, 1) := by decide +kernel
theorem d_Carrier_change_198 : decode prog_2_method_12_code 198 = .ok (.getfield 108, 3) := by decide +kernel
theorem d_Carrier_change_201 : decode prog_2_method_12_code 201 = .ok (.invokevirtual 56, 3) := by decide +kernel
theorem d_Carrier_change_204 : decode prog_2_method_12_code 204 = .ok (.return_, 1) := by decide +kernel
abbrev M_Carrier_pass : q_M := (⟨"LensPaths$Carrier", "pass", "(LLensPaths$Primitive;LLensPaths$Row;IZ)Z"⟩, prog_2_method_5_code, 5, (some .boolean), "LensPaths$Carrier", [], false, 5, 111)
theorem d_Carrier_pass_0 : decode prog_2_method_5_code 0 = .ok (.aload_n 1, 1) := by decide +kernel
theorem d_Carrier_pass_1 : decode prog_2_method_5_code 1 = .ok (.getfield 69, 3) := by decide +kernel
theorem d_Carrier_pass_4 : decode prog_2_method_5_code 4 = .ok (.tableswitch 132 1 8 #[48, 59, 78, 132, 102, 121, 121, 121], 48) := by decide +kernel
theorem d_Carrier_pass_52 : decode prog_2_method_5_code 52 = .ok (.aload_n 0, 1) := by decide +kernel
theorem d_Carrier_pass_53 : decode prog_2_method_5_code 53 = .ok (.aload_n 1, 1) := by decide +kernel
theorem d_Carrier_pass_54 : decode prog_2_method_5_code 54 = .ok (.aload_n 2, 1) := by decide +kernel
theorem d_Carrier_pass_55 : decode prog_2_method_5_code 55 = .ok (.iload_n 3, 1) := by decide +kernel
theorem d_Carrier_pass_56 : decode prog_2_method_5_code 56 = .ok (.iload 4, 2) := by decide +kernel
theorem d_Carrier_pass_58 : decode prog_2_method_5_code 58 = .ok (.invokevirtual 74, 3) := by decide +kernel
theorem d_Carrier_pass_61 : decode prog_2_method_5_code 61 = .ok (.iconst 1, 1) := by decide +kernel
theorem d_Carrier_pass_62 : decode prog_2_method_5_code 62 = .ok (.ireturn, 1) := by decide +kernel
theorem d_Carrier_pass_63 : decode prog_2_method_5_code 63 = .ok (.aload_n 0, 1) := by decide +kernel
theorem d_Carrier_pass_64 : decode prog_2_method_5_code 64 = .ok (.aload_n 1, 1) := by decide +kernel
theorem d_Carrier_pass_65 : decode prog_2_method_5_code 65 = .ok (.aload_n 2, 1) := by decide +kernel
theorem d_Carrier_pass_66 : decode prog_2_method_5_code 66 = .ok (.iload_n 3, 1) := by decide +kernel
theorem d_Carrier_pass_67 : decode prog_2_method_5_code 67 = .ok (.iload 4, 2) := by decide +kernel
theorem d_Carrier_pass_69 : decode prog_2_method_5_code 69 = .ok (.ifCond .ne 7, 3) := by decide +kernel
theorem d_Carrier_pass_72 : decode prog_2_method_5_code 72 = .ok (.iconst 1, 1) := by decide +kernel
theorem d_Carrier_pass_73 : decode prog_2_method_5_code 73 = .ok (.goto 4, 3) := by decide +kernel
theorem d_Carrier_pass_76 : decode prog_2_method_5_code 76 = .ok (.iconst 0, 1) := by decide +kernel
theorem d_Carrier_pass_77 : decode prog_2_method_5_code 77 = .ok (.invokevirtual 74, 3) := by decide +kernel
theorem d_Carrier_pass_80 : decode prog_2_method_5_code 80 = .ok (.iconst 1, 1) := by decide +kernel
theorem d_Carrier_pass_81 : decode prog_2_method_5_code 81 = .ok (.ireturn, 1) := by decide +kernel
theorem d_Carrier_pass_82 : decode prog_2_method_5_code 82 = .ok (.iload 4, 2) := by decide +kernel
theorem d_Carrier_pass_84 : decode prog_2_method_5_code 84 = .ok (.ifCond .eq 13, 3) := by decide +kernel
theorem d_Carrier_pass_87 : decode prog_2_method_5_code 87 = .ok (.aload_n 0, 1) := by decide +kernel
theorem d_Carrier_pass_88 : decode prog_2_method_5_code 88 = .ok (.aload_n 1, 1) := by decide +kernel
theorem d_Carrier_pass_89 : decode prog_2_method_5_code 89 = .ok (.aload_n 2, 1) := by decide +kernel
theorem d_Carrier_pass_90 : decode prog_2_method_5_code 90 = .ok (.iload_n 3, 1) := by decide +kernel
theorem d_Carrier_pass_91 : decode prog_2_method_5_code 91 = .ok (.invokevirtual 78, 3) := by decide +kernel
theorem d_Carrier_pass_94 : decode prog_2_method_5_code 94 = .ok (.goto 10, 3) := by decide +kernel
theorem d_Carrier_pass_97 : decode prog_2_method_5_code 97 = .ok (.aload_n 0, 1) := by decide +kernel
theorem d_Carrier_pass_98 : decode prog_2_method_5_code 98 = .ok (.aload_n 1, 1) := by decide +kernel
theorem d_Carrier_pass_99 : decode prog_2_method_5_code 99 = .ok (.aload_n 2, 1) := by decide +kernel
theorem d_Carrier_pass_100 : decode prog_2_method_5_code 100 = .ok (.iload_n 3, 1) := by decide +kernel
theorem d_Carrier_pass_101 : decode prog_2_method_5_code 101 = .ok (.invokevirtual 82, 3) := by decide +kernel
theorem d_Carrier_pass_104 : decode prog_2_method_5_code 104 = .ok (.iconst 1, 1) := by decide +kernel
theorem d_Carrier_pass_105 : decode prog_2_method_5_code 105 = .ok (.ireturn, 1) := by decide +kernel
theorem d_Carrier_pass_106 : decode prog_2_method_5_code 106 = .ok (.iload 4, 2) := by decide +kernel
theorem d_Carrier_pass_108 : decode prog_2_method_5_code 108 = .ok (.ifCond .eq 11, 3) := by decide +kernel
theorem d_Carrier_pass_111 : decode prog_2_method_5_code 111 = .ok (.aload_n 0, 1) := by decide +kernel
theorem d_Carrier_pass_112 : decode prog_2_method_5_code 112 = .ok (.aload_n 1, 1) := by decide +kernel
theorem d_Carrier_pass_113 : decode prog_2_method_5_code 113 = .ok (.invokevirtual 85, 3) := by decide +kernel
theorem d_Carrier_pass_116 : decode prog_2_method_5_code 116 = .ok (.goto 8, 3) := by decide +kernel
theorem d_Carrier_pass_119 : decode prog_2_method_5_code 119 = .ok (.aload_n 0, 1) := by decide +kernel
theorem d_Carrier_pass_120 : decode prog_2_method_5_code 120 = .ok (.aload_n 1, 1) := by decide +kernel
theorem d_Carrier_pass_121 : decode prog_2_method_5_code 121 = .ok (.invokevirtual 89, 3) := by decide +kernel
theorem d_Carrier_pass_124 : decode prog_2_method_5_code 124 = .ok (.ireturn, 1) := by decide +kernel
theorem d_Carrier_pass_125 : decode prog_2_method_5_code 125 = .ok (.aload_n 0, 1) := by decide +kernel
theorem d_Carrier_pass_126 : decode prog_2_method_5_code 126 = .ok (.aload_n 1, 1) := by decide +kernel
theorem d_Carrier_pass_127 : decode prog_2_method_5_code 127 = .ok (.aload_n 2, 1) := by decide +kernel
theorem d_Carrier_pass_128 : decode prog_2_method_5_code 128 = .ok (.iload_n 3, 1) := by decide +kernel
theorem d_Carrier_pass_129 : decode prog_2_method_5_code 129 = .ok (.iload 4, 2) := by decide +kernel
theorem d_Carrier_pass_131 : decode prog_2_method_5_code 131 = .ok (.invokevirtual 92, 3) := by decide +kernel
theorem d_Carrier_pass_134 : decode prog_2_method_5_code 134 = .ok (.iconst 1, 1) := by decide +kernel
theorem d_Carrier_pass_135 : decode prog_2_method_5_code 135 = .ok (.ireturn, 1) := by decide +kernel
theorem d_Carrier_pass_136 : decode prog_2_method_5_code 136 = .ok (.iconst 1, 1) := by decide +kernel
theorem d_Carrier_pass_137 : decode prog_2_method_5_code 137 = .ok (.ireturn, 1) := by decide +kernel
/-- values by slot, kept things by place, 'cannot' -/
abbrev KV : Type := (Nat → List Int32) × (Nat → KK) × Bool
def k_ud {α : Type} (f : Nat → α) (s : Nat) (v : α) : Nat → α := fun k => if k = s then v else f k
theorem k_ud_self {α : Type} {f : Nat → α} {s : Nat} {v : α} : k_ud f s v s = v := if_pos rfl
theorem k_ud_ne {α : Type} {f : Nat → α} {s t : Nat} {v : α} (h : t ≠ s) : k_ud f s v t = f t := if_neg h
def k_n0 : KK := (0, [], [])
/-- SCALE, MAP, SORT where nothing is kept -/
def a_ap (p : KP) (fw : Bool) (v : List Int32) : List Int32 := if p.kind = 6 then [if fw = true then z_scf p.a p.b (v.headD 0) else z_scb p.a p.b p.lo p.hi (v.headD 0)] else if p.kind = 7 ∧ fw = true then [if v.headD 0 = p.a then p.b else v.headD 0] else if p.kind = 8 ∧ fw = true then k_sort v else v
def t_arr (p : KP) (k : Nat) (X : KV) : KV := (k_ud X.1 p.sl (if (X.2.1 k).1 = 0 then k_dfl p.so p.lo p.hi else (X.2.1 k).2.1), k_ud X.2.1 k k_n0, X.2.2)
def t_dep (p : KP) (k : Nat) (X : KV) : KV := (X.1, k_ud X.2.1 k (if X.1 p.sl = k_dfl p.so p.lo p.hi then k_n0 else (1, X.1 p.sl, [])), X.2.2)
def a_wrp (p : KP) (x : Int32) (w : List Int32) : List Int32 := if 0 < w.length then w.set 0 x else if x = p_near p.lo p.hi then [] else [x]
def t_wrp (p : KP) (k : Nat) (X : KV) : KV := (k_ud X.1 p.sl (if (X.2.1 k).1 = 0 then X.1 p.sl else a_wrp p ((X.1 p.sl).headD 0) (X.2.1 k).2.1), k_ud X.2.1 k k_n0, X.2.2)
def t_unw (p : KP) (k : Nat) (X : KV) : KV := (k_ud X.1 p.sl [(X.1 p.sl).headD (p_near p.lo p.hi)], k_ud X.2.1 k (if (X.1 p.sl).length = 1 then k_n0 else (1, X.1 p.sl, [])), X.2.2)
def t_spl (p : KP) (X : KV) : KV := (k_ud (k_ud X.1 p.sl [z_div ((X.1 p.sl).headD 0) p.a]) p.rs [z_mod ((X.1 p.sl).headD 0) p.a], X.2.1, X.2.2)
def a_whl (p : KP) (X : KV) : Int := ((X.1 p.sl).headD 0).toInt * p.a.toInt + ((X.1 p.rs).headD 0).toInt
def t_joi (p : KP) (X : KV) : KV := (k_ud X.1 p.sl [Int32.ofInt (a_whl p X)], X.2.1, X.2.2 || !decide (p.lo.toInt ≤ a_whl p X ∧ a_whl p X ≤ p.hi.toInt))
def t_chg (fw : Bool) (p : KP) (k : Nat) (X : KV) : KV := if (X.2.1 k).1 = (if fw = true then 3 else 2) ∧ X.1 p.sl = (X.2.1 k).2.2 then (k_ud X.1 p.sl (X.2.1 k).2.1, k_ud X.2.1 k k_n0, X.2.2) else (k_ud X.1 p.sl (a_ap p fw (X.1 p.sl)), k_ud X.2.1 k (if a_ap p (!fw) (a_ap p fw (X.1 p.sl)) = X.1 p.sl then k_n0 else (if fw = true then 2 else 3, X.1 p.sl, a_ap p fw (X.1 p.sl))), X.2.2)
/-- one primitive, forth or back -/
def t_go (fw : Bool) (p : KP) (k : Nat) (X : KV) : KV := match p.kind with
  | 1 => if fw = true then t_arr p k X else t_dep p k X
  | 2 => if fw = true then t_dep p k X else t_arr p k X
  | 3 => if fw = true then t_wrp p k X else t_unw p k X
  | 5 => if fw = true then t_spl p X else t_joi p X
  | 6 => t_chg fw p k X
  | 7 => t_chg fw p k X
  | 8 => t_chg fw p k X
  | _ => X
section Carr
variable {g : q_G} {sz c r po : Nat} {T : q_T} {I : q_I} {R : q_R} {J : q_J} {p : KP} {P : Nat → Prop} {X : KV}
/-- a row is written into cells -/
def w_at (a s : Nat) (v : List Int32) (I I' : q_I) : Prop := (∀ b, b ≠ a → I' b = I b) ∧ (∀ j, j < s * 7 ∨ s * 7 + 7 ≤ j → j < 2 ^ 31 → I' a (nI j) = I a (nI j)) ∧ k_rw (I' a) (s * 7) v
theorem w_at.keep {a s t : Nat} {u v : List Int32} {I' : q_I} (h : w_at a s v I I') (ht : t ≠ s) (h31 : t * 7 + 7 ≤ 2 ^ 31) (hu : k_rw (I a) (t * 7) u) : k_rw (I' a) (t * 7) u := hu.cong fun j j1 j2 => h.2.1 j (by omega) (by omega)
theorem w_at.wn {a s : Nat} (x : Int32) (h31 : s * 7 + 7 ≤ 2 ^ 31) : w_at a s [x] I (k_wn I a (s * 7) x) := by
  refine ⟨fun b hb => ?_, fun j hj hj2 => ?_, k_rw_wn _ _ _ _ (by omega)⟩
  · funext i; unfold k_wn; rw [q_upI_nea hb, q_upI_nea hb]
  · unfold k_wn; rw [q_upI_nk (by omega), q_upI_nk (by omega)]
theorem w_at.tk {a0 a s t : Nat} {v : List Int32} (h : k_rw (I a0) (t * 7) v) (h31 : s * 7 + 7 < 2 ^ 31) : w_at a s v I (k_acp I a0 (t * 7) a (s * 7) 7) := ⟨fun b hb => k_acp_ne hb, fun j hj hj2 => k_acp_out hj hj2, k_acp_rw h h31⟩
theorem k_wrx {f : Int32 → Int32} {a b : Nat} {v : List Int32} {x : Int32} (h : k_rw (I a) b v) (hv : 0 < v.length) (hb : b + 7 ≤ 2 ^ 31) : k_rw (q_upI I a (nI (b + 1 + 0)) x a) b (v.set 0 x) := by
  obtain ⟨h1, h2, h3⟩ := h
  refine ⟨by rw [List.length_set]; exact h1, by rw [List.length_set, q_upI_nk (by omega)]; exact h2, fun i y hy => ?_⟩
  rw [List.getElem?_set] at hy
  by_cases hi : 0 = i
  · rw [if_pos hi, if_pos hv] at hy
    cases hy
    rw [← hi, q_upI_self]
  · rw [if_neg hi] at hy
    have := (List.getElem?_eq_some_iff.mp hy).1
    rw [q_upI_nk (by omega)]
    exact h3 i y hy
/-- the carrier's and the row's objects -/
def c_cr (c r po : Nat) (p : KP) (T : q_T) (I : q_I) (R : q_R) : Prop := q_L 0 t_Carrier c T R ∧ q_L 1 (t_Cells 238) (c + 1) T R ∧ r_new r T R ∧ k_prm po p T I ∧ p.sl < 32 ∧ (p.kind = 5 → p.rs < 32)
def c_sl (c : Nat) (P : Nat → Prop) (V : Nat → List Int32) (I : q_I) : Prop := ∀ s, s < 32 → P s → k_rw (I (c + 2)) (s * 7) (V s)
def c_kk (r k : Nat) (K : KK) (I : q_I) : Prop := I (r + 3) (nI k) = k_cc K.1 ∧ (K.1 ≠ 0 → k_rw (I (r + 5)) (k * 7) K.2.1) ∧ (2 ≤ K.1 → k_rw (I (r + 7)) (k * 7) K.2.2)
def c_kp (r : Nat) (K : Nat → KK) (I : q_I) : Prop := ∀ k, k < 128 → c_kk r k (K k) I
/-- what stays -/
def c_xf (c r : Nat) (I I' : q_I) : Prop := ∀ b, b ≠ c + 2 → b ≠ r + 3 → b ≠ r + 5 → b ≠ r + 7 → I' b = I b
theorem c_xf.refl (c r : Nat) (I : q_I) : c_xf c r I I := fun _ _ _ _ _ => rfl
theorem c_xf.trans {I1 I2 : q_I} (h : c_xf c r I I1) (h2 : c_xf c r I1 I2) : c_xf c r I I2 := fun b a1 a2 a3 a4 => (h2 b a1 a2 a3 a4).trans (h b a1 a2 a3 a4)
theorem c_cr.ne (h : c_cr c r po p T I R) : c + 2 ≠ r + 3 ∧ c + 2 ≠ r + 5 ∧ c + 2 ≠ r + 7 ∧ c + 2 ≠ r + 2 ∧ po ≠ c + 2 ∧ po ≠ r + 3 ∧ po ≠ r + 5 ∧ po ≠ r + 7 := by
  obtain ⟨h1, h2, h3, h4, -⟩ := h
  obtain ⟨t0, t1, t2, t3, t4, t5, t6, t7⟩ := r_T0 h3
  have tc := (h2.2 0 _ _ _ rfl).2
  have tp := h4.1
  refine ⟨fun z => ?_, fun z => ?_, fun z => ?_, fun z => ?_, fun z => ?_, fun z => ?_, fun z => ?_, fun z => ?_⟩
  · rw [show c + 1 + 1 = c + 2 by omega, z, t3] at tc; cases tc
  · rw [show c + 1 + 1 = c + 2 by omega, z, t5] at tc; cases tc
  · rw [show c + 1 + 1 = c + 2 by omega, z, t7] at tc; cases tc
  · rw [show c + 1 + 1 = c + 2 by omega, z, t2] at tc; cases tc
  · rw [z, show c + 2 = c + 1 + 1 by omega, tc] at tp; cases tp
  · rw [z, t3] at tp; cases tp
  · rw [z, t5] at tp; cases tp
  · rw [z, t7] at tp; cases tp
theorem c_cr.cong {I' : q_I} (h : c_cr c r po p T I R) (hx : c_xf c r I I') : c_cr c r po p T I' R := by
  have hn := h.ne
  obtain ⟨h1, h2, h3, h4, h5, h6⟩ := h
  exact ⟨h1, h2, h3, h4.cong (hx po hn.2.2.2.2.1 hn.2.2.2.2.2.1 hn.2.2.2.2.2.2.1 hn.2.2.2.2.2.2.2), h5, h6⟩
theorem w_at.xf {s : Nat} {v : List Int32} {I' : q_I} (h : w_at (c + 2) s v I I') : c_xf c r I I' := fun b a1 _ _ _ => h.1 b a1
/-- a slot is written -/
theorem c_sl.put {V : Nat → List Int32} {s : Nat} {v : List Int32} {I' : q_I} (h : c_sl c P V I) (hw : w_at (c + 2) s v I I') : c_sl c (fun t => P t ∨ t = s) (k_ud V s v) I' := by
  intro t ht hP
  by_cases hts : t = s
  · subst hts
    rw [k_ud_self]; exact hw.2.2
  · rw [k_ud_ne hts]
    rcases hP with hP | hP
    · exact hw.keep hts (by omega) (h t ht hP)
    · exact absurd hP hts
theorem c_sl.imp {Q : Nat → Prop} {V : Nat → List Int32} (h : c_sl c P V I) (hq : ∀ s, Q s → P s) : c_sl c Q V I := fun s hs hQ => h s hs (hq s hQ)
theorem c_sl.cong {V : Nat → List Int32} {I' : q_I} (h : c_sl c P V I) (hI : I' (c + 2) = I (c + 2)) : c_sl c P V I' := fun s hs hP => by rw [hI]; exact h s hs hP
theorem c_kp.cong {K : Nat → KK} {I' : q_I} (h : c_kp r K I) (h3 : I' (r + 3) = I (r + 3)) (h5 : I' (r + 5) = I (r + 5)) (h7 : I' (r + 7) = I (r + 7)) : c_kp r K I' := fun k hk => by
  unfold c_kk
  rw [h3, h5, h7]; exact h k hk
/-- a place is written -/
theorem c_kp.put {K : Nat → KK} {k : Nat} {K' : KK} {I' : q_I} (h : c_kp r K I) (hk' : c_kk r k K' I') (h3 : ∀ j, j < 128 → j ≠ k → I' (r + 3) (nI j) = I (r + 3) (nI j)) (h5 : ∀ j, j < k * 7 ∨ k * 7 + 7 ≤ j → j < 2 ^ 31 → I' (r + 5) (nI j) = I (r + 5) (nI j)) (h7 : ∀ j, j < k * 7 ∨ k * 7 + 7 ≤ j → j < 2 ^ 31 → I' (r + 7) (nI j) = I (r + 7) (nI j)) : c_kp r (k_ud K k K') I' := by
  intro j hj
  by_cases hjk : j = k
  · subst hjk
    rw [k_ud_self]; exact hk'
  · rw [k_ud_ne hjk]
    obtain ⟨a1, a2, a3⟩ := h j hj
    exact ⟨by rw [h3 j hj hjk]; exact a1, fun z => (a2 z).cong fun i i1 i2 => h5 i (by omega) (by omega), fun z => (a3 z).cong fun i i1 i2 => h7 i (by omega) (by omega)⟩
theorem c_kp.zero {K : Nat → KK} {k : Nat} {I' : q_I} (h : c_kp r K I) (h0 : I' (r + 3) (nI k) = 0) (h3 : ∀ j, j < 128 → j ≠ k → I' (r + 3) (nI j) = I (r + 3) (nI j)) (h5 : I' (r + 5) = I (r + 5)) (h7 : I' (r + 7) = I (r + 7)) : c_kp r (k_ud K k k_n0) I' := by
  refine h.put ⟨by rw [h0]; rfl, fun z => absurd rfl z, fun z => absurd z (show ¬ 2 ≤ 0 by omega)⟩ h3 (fun j _ _ => by rw [h5]) (fun j _ _ => by rw [h7])
/-- the state of a record under way -/
def c_xx (c r : Nat) (P : Nat → Prop) (X : KV) (I : q_I) : Prop := c_sl c P X.1 I ∧ c_kp r X.2.1 I
/-- what a method of the carrier leaves -/
def c_xp (c r sz : Nat) (T : q_T) (I : q_I) (R : q_R) (J : q_J) (P : Nat → Prop) (X : KV) (h' : q_H) : Prop := ∃ I' : q_I, h' = (sz, T, I', R, J) ∧ c_xf c r I I' ∧ c_xx c r P X I'
theorem c_Carrier_keepUnless {b : Bool} {k : Nat} (h : c_cr c r po p T I R) (hX : c_xx c r P X I) (hP : P p.sl) (hk : k < 128) : q_Cv g M_Carrier_keepUnless [.ref c, .int (p_b b), .ref po, .ref r, .int (nI k)] (sz, T, I, R, J) 0 0 (c_xp c r sz T I R J P (X.1, k_ud X.2.1 k (if b = true then k_n0 else (1, X.1 p.sl, [])), X.2.2)) := by
  have hn := h.ne
  obtain ⟨h1, h2, h3, h4, h5, h6⟩ := h
  obtain ⟨t0, t1, t2, t3, t4, t5, t6, t7⟩ := r_T0 h3
  have hL := h1
  have tp := h4.1
  have r3 := (h3.1.2 3 _ _ _ rfl).1
  have r4 := (h3.1.2 4 _ _ _ rfl).1
  have hc1 := h2.1
  refine q_C.of (ls0 := [some (.ref c), some (.int (p_b b)), some (.ref po), some (.ref r), some (.int (nI k))]) (by decide) rfl (by decide) (Nat.le_of_ble_eq_true rfl) rfl ?_
  cases b with
  | true =>
    refine q_aload_n d_Carrier_keepUnless_0 rfl rfl ?_
    refine q_getR (ci := 5) (fk := 3) d_Carrier_keepUnless_1 rfl (Nat.le_of_ble_eq_true rfl) w_200 (fun _ _ => rfl) (by first | assumption | rfl | (simp (disch := omega) only [q_upT_self, q_upT_ne, q_upR_self, q_upR_nea, q_upR_nk, s_T_lo, s_T_hi, s_R_ne, *]; done) | (simp (disch := omega) only [q_upT_self, q_upT_ne, q_upR_self, q_upR_nea, q_upR_nk, s_T_lo, s_T_hi, s_R_ne, *]; rfl)) (by first | assumption | rfl | (simp (disch := omega) only [q_upT_self, q_upT_ne, q_upR_self, q_upR_nea, q_upR_nk, s_T_lo, s_T_hi, s_R_ne, *]; done) | (simp (disch := omega) only [q_upT_self, q_upT_ne, q_upR_self, q_upR_nea, q_upR_nk, s_T_lo, s_T_hi, s_R_ne, *]; rfl)) ?_
    refine q_iload d_Carrier_keepUnless_4 rfl ?_
    refine q_iload_n d_Carrier_keepUnless_6 rfl rfl ?_
    refine q_if_eq (tgt := 14) d_Carrier_keepUnless_7 rfl (fun hc => ?_) (fun hc => ?_)
    · exact absurd hc (by decide)
    refine q_iconst (v := nI 0) d_Carrier_keepUnless_10 (by decide) ?_
    refine q_goto (tgt := 15) d_Carrier_keepUnless_11 rfl ?_
    refine q_iast d_Carrier_keepUnless_15 (by first | assumption | rfl | (simp (disch := omega) only [q_upT_self, q_upT_ne, q_upR_self, q_upR_nea, q_upR_nk, s_T_lo, s_T_hi, s_R_ne, *]; done) | (simp (disch := omega) only [q_upT_self, q_upT_ne, q_upR_self, q_upR_nea, q_upR_nk, s_T_lo, s_T_hi, s_R_ne, *]; rfl)) (by first | assumption | exact vp_in_nI (by omega) (by omega)) ?_
    refine q_iload_n d_Carrier_keepUnless_16 rfl rfl ?_
    refine q_if_ne (tgt := 37) d_Carrier_keepUnless_17 rfl (fun hc => ?_) (fun hc => ?_)
    rotate_left
    · exact absurd hc (by decide)
    refine q_vret d_Carrier_keepUnless_37 rfl (by omega) (by omega) ?_
    refine ⟨rfl, _, rfl, fun b b1 b2 b3 b4 => by funext i; rw [q_upI_nea b2], hX.1.cong (by funext i; rw [q_upI_nea hn.1]), hX.2.zero (by rw [q_upI_self]; rfl) (fun j _ hj => q_upI_nk (by omega)) (by funext i; rw [q_upI_nea (by omega)]) (by funext i; rw [q_upI_nea (by omega)])⟩
  | false =>
    refine q_aload_n d_Carrier_keepUnless_0 rfl rfl ?_
    refine q_getR (ci := 5) (fk := 3) d_Carrier_keepUnless_1 rfl (Nat.le_of_ble_eq_true rfl) w_200 (fun _ _ => rfl) (by first | assumption | rfl | (simp (disch := omega) only [q_upT_self, q_upT_ne, q_upR_self, q_upR_nea, q_upR_nk, s_T_lo, s_T_hi, s_R_ne, *]; done) | (simp (disch := omega) only [q_upT_self, q_upT_ne, q_upR_self, q_upR_nea, q_upR_nk, s_T_lo, s_T_hi, s_R_ne, *]; rfl)) (by first | assumption | rfl | (simp (disch := omega) only [q_upT_self, q_upT_ne, q_upR_self, q_upR_nea, q_upR_nk, s_T_lo, s_T_hi, s_R_ne, *]; done) | (simp (disch := omega) only [q_upT_self, q_upT_ne, q_upR_self, q_upR_nea, q_upR_nk, s_T_lo, s_T_hi, s_R_ne, *]; rfl)) ?_
    refine q_iload d_Carrier_keepUnless_4 rfl ?_
    refine q_iload_n d_Carrier_keepUnless_6 rfl rfl ?_
    refine q_if_eq (tgt := 14) d_Carrier_keepUnless_7 rfl (fun hc => ?_) (fun hc => ?_)
    rotate_left
    · exact absurd rfl hc
    refine q_iconst (v := nI 2) d_Carrier_keepUnless_14 (by decide) ?_
    refine q_iast d_Carrier_keepUnless_15 (by first | assumption | rfl | (simp (disch := omega) only [q_upT_self, q_upT_ne, q_upR_self, q_upR_nea, q_upR_nk, s_T_lo, s_T_hi, s_R_ne, *]; done) | (simp (disch := omega) only [q_upT_self, q_upT_ne, q_upR_self, q_upR_nea, q_upR_nk, s_T_lo, s_T_hi, s_R_ne, *]; rfl)) (by first | assumption | exact vp_in_nI (by omega) (by omega)) ?_
    refine q_iload_n d_Carrier_keepUnless_16 rfl rfl ?_
    refine q_if_ne (tgt := 37) d_Carrier_keepUnless_17 rfl (fun hc => ?_) (fun hc => ?_)
    · exact absurd rfl hc
    obtain ⟨I1, hI1⟩ : ∃ I1, I1 = q_upI I (r + 3) (nI k) (nI 2) := ⟨_, rfl⟩
    rw [← hI1]
    have o1 : ∀ b, b ≠ r + 3 → I1 b = I b := fun b hb => by rw [hI1]; funext i; rw [q_upI_nea hb]
    have ps : I1 po (nI 1) = nI p.sl := by rw [o1 po hn.2.2.2.2.2.1]; exact h4.2.2.1
    refine q_aload_n d_Carrier_keepUnless_20 rfl rfl ?_
    refine q_getR (ci := 5) (fk := 4) d_Carrier_keepUnless_21 rfl (Nat.le_of_ble_eq_true rfl) w_202 (fun _ _ => rfl) (by first | assumption | rfl | (simp (disch := omega) only [q_upT_self, q_upT_ne, q_upR_self, q_upR_nea, q_upR_nk, s_T_lo, s_T_hi, s_R_ne, *]; done) | (simp (disch := omega) only [q_upT_self, q_upT_ne, q_upR_self, q_upR_nea, q_upR_nk, s_T_lo, s_T_hi, s_R_ne, *]; rfl)) (by first | assumption | rfl | (simp (disch := omega) only [q_upT_self, q_upT_ne, q_upR_self, q_upR_nea, q_upR_nk, s_T_lo, s_T_hi, s_R_ne, *]; done) | (simp (disch := omega) only [q_upT_self, q_upT_ne, q_upR_self, q_upR_nea, q_upR_nk, s_T_lo, s_T_hi, s_R_ne, *]; rfl)) ?_
    refine q_iload d_Carrier_keepUnless_24 rfl ?_
    refine q_aload_n d_Carrier_keepUnless_26 rfl rfl ?_
    refine q_getR (ci := 0) (fk := 0) d_Carrier_keepUnless_27 rfl (Nat.le_of_ble_eq_true rfl) w_226 (fun _ _ => rfl) hL.1 (hL.2 0 _ _ _ rfl).1 ?_
    refine q_aload_n d_Carrier_keepUnless_30 rfl rfl ?_
    refine q_getI (ci := 4) (fk := 1) d_Carrier_keepUnless_31 rfl (Nat.le_of_ble_eq_true rfl) w_495 (fun _ _ => rfl) (by first | assumption | rfl | (simp (disch := omega) only [q_upT_self, q_upT_ne, q_upR_self, q_upR_nea, q_upR_nk, s_T_lo, s_T_hi, s_R_ne, *]; done) | (simp (disch := omega) only [q_upT_self, q_upT_ne, q_upR_self, q_upR_nea, q_upR_nk, s_T_lo, s_T_hi, s_R_ne, *]; rfl)) ?_
    rw [ps]
    refine q_callVv (M2 := M_Cells_take) d_Carrier_keepUnless_34 ⟨(Nat.le_of_ble_eq_true rfl), (Nat.le_of_ble_eq_true rfl), w_920, w_7, ⟨by decide, by decide⟩, show _ = some 3 by decide +kernel⟩ w_917 w_918 (ci := 1) rfl w_919 (by first | assumption | rfl | (simp (disch := omega) only [q_upT_self, q_upT_ne, q_upR_self, q_upR_nea, q_upR_nk, s_T_lo, s_T_hi, s_R_ne, *]; done) | (simp (disch := omega) only [q_upT_self, q_upT_ne, q_upR_self, q_upR_nea, q_upR_nk, s_T_lo, s_T_hi, s_R_ne, *]; rfl)) rfl (Nat.le_of_ble_eq_true rfl) (by omega) (by omega) (c_Cells_take (N := 896) (N2 := 238) h3.2.2.1 h2 (by omega) (by omega) (by omega) (by omega)) ?_
    rintro _ rfl
    refine q_vret d_Carrier_keepUnless_37 rfl (by omega) (by omega) ?_
    have hrw : k_rw (I1 (c + 1 + 1)) (p.sl * 7) (X.1 p.sl) := by rw [o1 (c + 1 + 1) (by omega)]; exact hX.1 p.sl h5 hP
    have hw : w_at (r + 4 + 1) k (X.1 p.sl) I1 (k_acp I1 (c + 1 + 1) (p.sl * 7) (r + 4 + 1) (k * 7) 7) := w_at.tk hrw (by omega)
    refine ⟨rfl, _, rfl, fun b b1 b2 b3 b4 => by rw [hw.1 b (by omega), o1 b b2], hX.1.cong (by rw [hw.1 (c + 2) (by omega), o1 (c + 2) hn.1]), ?_⟩
    refine hX.2.put ⟨?_, fun _ => hw.2.2, fun z => absurd (show 2 ≤ 1 from z) (by omega)⟩ (fun j hj hjk => ?_) (fun j hj hj2 => ?_) (fun j hj hj2 => ?_)
    · rw [hw.1 (r + 3) (by omega), hI1, q_upI_self]; rfl
    · rw [hw.1 (r + 3) (by omega), hI1, q_upI_nk (by omega)]
    · rw [show r + 5 = r + 4 + 1 by omega, hw.2.1 j hj hj2, o1 (r + 4 + 1) (by omega)]
    · rw [hw.1 (r + 7) (by omega), o1 (r + 7) (by omega)]
theorem c_Carrier_depart {k : Nat} (h : c_cr c r po p T I R) (hX : c_xx c r P X I) (hP : P p.sl) (hk : k < 128) : q_Cv g M_Carrier_comeOrGo [.ref c, .ref po, .ref r, .int (nI k), .int 0] (sz, T, I, R, J) 0 0 (c_xp c r sz T I R J P (t_dep p k X)) := by
  have hn := h.ne
  have hh := h
  obtain ⟨h1, h2, h3, h4, h5, h6⟩ := h
  obtain ⟨t0, t1, t2, t3, t4, t5, t6, t7⟩ := r_T0 h3
  have hL := h1
  have tp := h4.1
  have r3 := (h3.1.2 3 _ _ _ rfl).1
  have r4 := (h3.1.2 4 _ _ _ rfl).1
  have r5 := (h3.1.2 5 _ _ _ rfl).1
  have hc1 := h2.1
  have psl := h4.2.2.1
  refine q_C.of (ls0 := [some (.ref c), some (.ref po), some (.ref r), some (.int (nI k)), some (.int 0)]) (by decide) rfl (by decide) (Nat.le_of_ble_eq_true rfl) rfl ?_
  refine q_iload d_Carrier_comeOrGo_0 rfl ?_
  refine q_if_ne (tgt := 51) d_Carrier_comeOrGo_2 rfl (fun hc => ?_) (fun hc => ?_)
  · exact absurd rfl hc
  refine q_aload_n d_Carrier_comeOrGo_5 rfl rfl ?_
  refine q_getR (ci := 0) (fk := 0) d_Carrier_comeOrGo_6 rfl (Nat.le_of_ble_eq_true rfl) w_226 (fun _ _ => rfl) hL.1 (hL.2 0 _ _ _ rfl).1 ?_
  refine q_bipush (v := nI 33) d_Carrier_comeOrGo_9 (by decide) ?_
  refine q_aload_n d_Carrier_comeOrGo_11 rfl rfl ?_
  refine q_getI (ci := 4) (fk := 2) d_Carrier_comeOrGo_12 rfl (Nat.le_of_ble_eq_true rfl) w_497 (fun _ _ => rfl) (by first | assumption | rfl | (simp (disch := omega) only [q_upT_self, q_upT_ne, q_upR_self, q_upR_nea, q_upR_nk, s_T_lo, s_T_hi, s_R_ne, *]; done) | (simp (disch := omega) only [q_upT_self, q_upT_ne, q_upR_self, q_upR_nea, q_upR_nk, s_T_lo, s_T_hi, s_R_ne, *]; rfl)) ?_
  rw [h4.2.2.2.1]
  refine q_aload_n d_Carrier_comeOrGo_15 rfl rfl ?_
  refine q_getI (ci := 4) (fk := 3) d_Carrier_comeOrGo_16 rfl (Nat.le_of_ble_eq_true rfl) w_500 (fun _ _ => rfl) (by first | assumption | rfl | (simp (disch := omega) only [q_upT_self, q_upT_ne, q_upR_self, q_upR_nea, q_upR_nk, s_T_lo, s_T_hi, s_R_ne, *]; done) | (simp (disch := omega) only [q_upT_self, q_upT_ne, q_upR_self, q_upR_nea, q_upR_nk, s_T_lo, s_T_hi, s_R_ne, *]; rfl)) ?_
  rw [h4.2.2.2.2.1]
  refine q_aload_n d_Carrier_comeOrGo_19 rfl rfl ?_
  refine q_getI (ci := 4) (fk := 4) d_Carrier_comeOrGo_20 rfl (Nat.le_of_ble_eq_true rfl) w_503 (fun _ _ => rfl) (by first | assumption | rfl | (simp (disch := omega) only [q_upT_self, q_upT_ne, q_upR_self, q_upR_nea, q_upR_nk, s_T_lo, s_T_hi, s_R_ne, *]; done) | (simp (disch := omega) only [q_upT_self, q_upT_ne, q_upR_self, q_upR_nea, q_upR_nk, s_T_lo, s_T_hi, s_R_ne, *]; rfl)) ?_
  rw [h4.2.2.2.2.2.1]
  refine q_callVv (M2 := M_Cells_writeDefault) d_Carrier_comeOrGo_23 ⟨(Nat.le_of_ble_eq_true rfl), (Nat.le_of_ble_eq_true rfl), w_725, w_7, ⟨by decide, by decide⟩, show _ = some 4 by decide +kernel⟩ w_929 w_723 (ci := 1) rfl w_724 (by first | assumption | rfl | (simp (disch := omega) only [q_upT_self, q_upT_ne, q_upR_self, q_upR_nea, q_upR_nk, s_T_lo, s_T_hi, s_R_ne, *]; done) | (simp (disch := omega) only [q_upT_self, q_upT_ne, q_upR_self, q_upR_nea, q_upR_nk, s_T_lo, s_T_hi, s_R_ne, *]; rfl)) rfl (Nat.le_of_ble_eq_true rfl) (by omega) (by omega) (c_Cells_writeDefault (k := 33) h2 (by omega) (by omega) _ _ _) ?_
  rintro _ ⟨I1, rfl, i1, i2, i3⟩
  have hw : w_at (c + 2) 33 (k_dfl p.so p.lo p.hi) I I1 := ⟨i1, i2, i3⟩
  have hX1 : c_xx c r P X I1 := ⟨fun s hs hP => hw.keep (by omega) (by omega) (hX.1 s hs hP), hX.2.cong (i1 _ (by omega)) (i1 _ (by omega)) (i1 _ (by omega))⟩
  have h' := hh.cong (hw.xf (r := r))
  have ps : I1 po (nI 1) = nI p.sl := h'.2.2.2.1.2.2.1
  refine q_aload_n d_Carrier_comeOrGo_26 rfl rfl ?_
  refine q_aload_n d_Carrier_comeOrGo_27 rfl rfl ?_
  refine q_getR (ci := 0) (fk := 0) d_Carrier_comeOrGo_28 rfl (Nat.le_of_ble_eq_true rfl) w_226 (fun _ _ => rfl) hL.1 (hL.2 0 _ _ _ rfl).1 ?_
  refine q_aload_n d_Carrier_comeOrGo_31 rfl rfl ?_
  refine q_getI (ci := 4) (fk := 1) d_Carrier_comeOrGo_32 rfl (Nat.le_of_ble_eq_true rfl) w_495 (fun _ _ => rfl) (by first | assumption | rfl | (simp (disch := omega) only [q_upT_self, q_upT_ne, q_upR_self, q_upR_nea, q_upR_nk, s_T_lo, s_T_hi, s_R_ne, *]; done) | (simp (disch := omega) only [q_upT_self, q_upT_ne, q_upR_self, q_upR_nea, q_upR_nk, s_T_lo, s_T_hi, s_R_ne, *]; rfl)) ?_
  rw [ps]
  refine q_aload_n d_Carrier_comeOrGo_35 rfl rfl ?_
  refine q_getR (ci := 0) (fk := 0) d_Carrier_comeOrGo_36 rfl (Nat.le_of_ble_eq_true rfl) w_226 (fun _ _ => rfl) hL.1 (hL.2 0 _ _ _ rfl).1 ?_
  refine q_bipush (v := nI 33) d_Carrier_comeOrGo_39 (by decide) ?_
  refine q_callVi (M2 := M_Cells_matches) d_Carrier_comeOrGo_41 ⟨(Nat.le_of_ble_eq_true rfl), (Nat.le_of_ble_eq_true rfl), w_864, w_7, ⟨by decide, by decide⟩, show _ = some 3 by decide +kernel⟩ w_930 w_862 (ci := 1) rfl w_863 (by first | assumption | rfl | (simp (disch := omega) only [q_upT_self, q_upT_ne, q_upR_self, q_upR_nea, q_upR_nk, s_T_lo, s_T_hi, s_R_ne, *]; done) | (simp (disch := omega) only [q_upT_self, q_upT_ne, q_upR_self, q_upR_nea, q_upR_nk, s_T_lo, s_T_hi, s_R_ne, *]; rfl)) rfl (Nat.le_of_ble_eq_true rfl) (by omega) (by omega) (c_Cells_matches (k2 := 33) h2 h2 (by omega) (by omega) (by omega) (by omega) (hX1.1 p.sl h5 hP) i3) ?_
  rintro _ _ ⟨rfl, rfl⟩
  refine q_aload_n d_Carrier_comeOrGo_44 rfl rfl ?_
  refine q_aload_n d_Carrier_comeOrGo_45 rfl rfl ?_
  refine q_iload_n d_Carrier_comeOrGo_46 rfl rfl ?_
  refine q_callVv (M2 := M_Carrier_keepUnless) d_Carrier_comeOrGo_47 ⟨(Nat.le_of_ble_eq_true rfl), (Nat.le_of_ble_eq_true rfl), w_934, w_8, ⟨by decide, by decide⟩, show _ = some 4 by decide +kernel⟩ w_931 w_933 (ci := 0) rfl s_29 hL.1 rfl (Nat.le_of_ble_eq_true rfl) (by omega) (by omega) (c_Carrier_keepUnless h' hX1 hP hk) ?_
  rintro _ ⟨I2, rfl, j1, j2⟩
  refine q_vret d_Carrier_comeOrGo_50 rfl (by omega) (by omega) ?_
  refine ⟨rfl, I2, rfl, (hw.xf (r := r)).trans j1, ?_⟩
  have e : (if decide (X.1 p.sl = k_dfl p.so p.lo p.hi) = true then k_n0 else (1, X.1 p.sl, [])) = (if X.1 p.sl = k_dfl p.so p.lo p.hi then k_n0 else (1, X.1 p.sl, [])) := by
    by_cases z : X.1 p.sl = k_dfl p.so p.lo p.hi
    · rw [if_pos (decide_eq_true z), if_pos z]
    · rw [if_neg (by rw [decide_eq_false z]; decide), if_neg z]
  rw [e] at j2
  exact j2
theorem c_Carrier_arrive {k : Nat} (h : c_cr c r po p T I R) (hX : c_xx c r P X I) (hk : k < 128) : q_Cv g M_Carrier_comeOrGo [.ref c, .ref po, .ref r, .int (nI k), .int (nI 1)] (sz, T, I, R, J) 0 0 (c_xp c r sz T I R J (fun t => P t ∨ t = p.sl) (t_arr p k X)) := by
  have hn := h.ne
  have hh := h
  obtain ⟨h1, h2, h3, h4, h5, h6⟩ := h
  obtain ⟨t0, t1, t2, t3, t4, t5, t6, t7⟩ := r_T0 h3
  have hL := h1
  have tp := h4.1
  have r3 := (h3.1.2 3 _ _ _ rfl).1
  have r4 := (h3.1.2 4 _ _ _ rfl).1
  have r5 := (h3.1.2 5 _ _ _ rfl).1
  have hc1 := h2.1
  have psl := h4.2.2.1
  obtain ⟨k1, k2, k3⟩ := hX.2 k hk
  have fin : ∀ (v : List Int32) (I1 : q_I) (mcc msc : Nat), mcc = 0 → msc = 0 → w_at (c + 2) p.sl v I I1 → v = (if (X.2.1 k).1 = 0 then k_dfl p.so p.lo p.hi else (X.2.1 k).2.1) → q_V g M_Carrier_comeOrGo 0 0 mcc msc (sz, T, I1, R, J) (fun o h' => o = .inl none ∧ c_xp c r sz T I R J (fun t => P t ∨ t = p.sl) (t_arr p k X) h') 102 [some (.ref c), some (.ref po), some (.ref r), some (.int (nI k)), some (.int (nI 1))] [] := by
    intro v I1 mcc msc m1 m2 hw hv
    subst m1 m2
    refine q_aload_n d_Carrier_comeOrGo_102 rfl rfl ?_
    refine q_getR (ci := 5) (fk := 3) d_Carrier_comeOrGo_103 rfl (Nat.le_of_ble_eq_true rfl) w_200 (fun _ _ => rfl) (by first | assumption | rfl | (simp (disch := omega) only [q_upT_self, q_upT_ne, q_upR_self, q_upR_nea, q_upR_nk, s_T_lo, s_T_hi, s_R_ne, *]; done) | (simp (disch := omega) only [q_upT_self, q_upT_ne, q_upR_self, q_upR_nea, q_upR_nk, s_T_lo, s_T_hi, s_R_ne, *]; rfl)) (by first | assumption | rfl | (simp (disch := omega) only [q_upT_self, q_upT_ne, q_upR_self, q_upR_nea, q_upR_nk, s_T_lo, s_T_hi, s_R_ne, *]; done) | (simp (disch := omega) only [q_upT_self, q_upT_ne, q_upR_self, q_upR_nea, q_upR_nk, s_T_lo, s_T_hi, s_R_ne, *]; rfl)) ?_
    refine q_iload_n d_Carrier_comeOrGo_106 rfl rfl ?_
    refine q_iconst (v := nI 0) d_Carrier_comeOrGo_107 (by decide) ?_
    refine q_iast d_Carrier_comeOrGo_108 (by first | assumption | rfl | (simp (disch := omega) only [q_upT_self, q_upT_ne, q_upR_self, q_upR_nea, q_upR_nk, s_T_lo, s_T_hi, s_R_ne, *]; done) | (simp (disch := omega) only [q_upT_self, q_upT_ne, q_upR_self, q_upR_nea, q_upR_nk, s_T_lo, s_T_hi, s_R_ne, *]; rfl)) (by first | assumption | exact vp_in_nI (by omega) (by omega)) ?_
    refine q_vret d_Carrier_comeOrGo_109 rfl (by omega) (by omega) ?_
    refine ⟨rfl, _, rfl, fun b b1 b2 b3 b4 => by rw [← hw.1 b b1]; funext i; rw [q_upI_nea b2], ?_, ?_⟩
    · unfold t_arr
      rw [← hv]
      exact (hX.1.put hw).cong (by funext i; rw [q_upI_nea hn.1])
    · refine hX.2.zero (by rw [q_upI_self]; rfl) (fun j _ hj => ?_) ?_ ?_
      · rw [q_upI_nk (by omega), hw.1 (r + 3) (by omega)]
      · rw [← hw.1 (r + 5) (by omega)]; funext i; rw [q_upI_nea (by omega)]
      · rw [← hw.1 (r + 7) (by omega)]; funext i; rw [q_upI_nea (by omega)]
  refine q_C.of (ls0 := [some (.ref c), some (.ref po), some (.ref r), some (.int (nI k)), some (.int (nI 1))]) (by decide) rfl (by decide) (Nat.le_of_ble_eq_true rfl) rfl ?_
  refine q_iload d_Carrier_comeOrGo_0 rfl ?_
  refine q_if_ne (tgt := 51) d_Carrier_comeOrGo_2 rfl (fun hc => ?_) (fun hc => ?_)
  rotate_left
  · exact absurd hc (by decide)
  refine q_aload_n d_Carrier_comeOrGo_51 rfl rfl ?_
  refine q_getR (ci := 5) (fk := 3) d_Carrier_comeOrGo_52 rfl (Nat.le_of_ble_eq_true rfl) w_200 (fun _ _ => rfl) (by first | assumption | rfl | (simp (disch := omega) only [q_upT_self, q_upT_ne, q_upR_self, q_upR_nea, q_upR_nk, s_T_lo, s_T_hi, s_R_ne, *]; done) | (simp (disch := omega) only [q_upT_self, q_upT_ne, q_upR_self, q_upR_nea, q_upR_nk, s_T_lo, s_T_hi, s_R_ne, *]; rfl)) (by first | assumption | rfl | (simp (disch := omega) only [q_upT_self, q_upT_ne, q_upR_self, q_upR_nea, q_upR_nk, s_T_lo, s_T_hi, s_R_ne, *]; done) | (simp (disch := omega) only [q_upT_self, q_upT_ne, q_upR_self, q_upR_nea, q_upR_nk, s_T_lo, s_T_hi, s_R_ne, *]; rfl)) ?_
  refine q_iload_n d_Carrier_comeOrGo_55 rfl rfl ?_
  refine q_iald d_Carrier_comeOrGo_56 (by first | assumption | rfl | (simp (disch := omega) only [q_upT_self, q_upT_ne, q_upR_self, q_upR_nea, q_upR_nk, s_T_lo, s_T_hi, s_R_ne, *]; done) | (simp (disch := omega) only [q_upT_self, q_upT_ne, q_upR_self, q_upR_nea, q_upR_nk, s_T_lo, s_T_hi, s_R_ne, *]; rfl)) (by first | assumption | exact vp_in_nI (by omega) (by omega)) ?_
  rw [k1]
  by_cases hz : (X.2.1 k).1 = 0
  · rw [hz]
    refine q_if_eq (tgt := 79) d_Carrier_comeOrGo_57 rfl (fun hc => ?_) (fun hc => ?_)
    rotate_left
    · exact absurd rfl hc
    refine q_aload_n d_Carrier_comeOrGo_79 rfl rfl ?_
    refine q_getR (ci := 0) (fk := 0) d_Carrier_comeOrGo_80 rfl (Nat.le_of_ble_eq_true rfl) w_226 (fun _ _ => rfl) hL.1 (hL.2 0 _ _ _ rfl).1 ?_
    refine q_aload_n d_Carrier_comeOrGo_83 rfl rfl ?_
    refine q_getI (ci := 4) (fk := 1) d_Carrier_comeOrGo_84 rfl (Nat.le_of_ble_eq_true rfl) w_495 (fun _ _ => rfl) (by first | assumption | rfl | (simp (disch := omega) only [q_upT_self, q_upT_ne, q_upR_self, q_upR_nea, q_upR_nk, s_T_lo, s_T_hi, s_R_ne, *]; done) | (simp (disch := omega) only [q_upT_self, q_upT_ne, q_upR_self, q_upR_nea, q_upR_nk, s_T_lo, s_T_hi, s_R_ne, *]; rfl)) ?_
    rw [psl]
    refine q_aload_n d_Carrier_comeOrGo_87 rfl rfl ?_
    refine q_getI (ci := 4) (fk := 2) d_Carrier_comeOrGo_88 rfl (Nat.le_of_ble_eq_true rfl) w_497 (fun _ _ => rfl) (by first | assumption | rfl | (simp (disch := omega) only [q_upT_self, q_upT_ne, q_upR_self, q_upR_nea, q_upR_nk, s_T_lo, s_T_hi, s_R_ne, *]; done) | (simp (disch := omega) only [q_upT_self, q_upT_ne, q_upR_self, q_upR_nea, q_upR_nk, s_T_lo, s_T_hi, s_R_ne, *]; rfl)) ?_
    rw [h4.2.2.2.1]
    refine q_aload_n d_Carrier_comeOrGo_91 rfl rfl ?_
    refine q_getI (ci := 4) (fk := 3) d_Carrier_comeOrGo_92 rfl (Nat.le_of_ble_eq_true rfl) w_500 (fun _ _ => rfl) (by first | assumption | rfl | (simp (disch := omega) only [q_upT_self, q_upT_ne, q_upR_self, q_upR_nea, q_upR_nk, s_T_lo, s_T_hi, s_R_ne, *]; done) | (simp (disch := omega) only [q_upT_self, q_upT_ne, q_upR_self, q_upR_nea, q_upR_nk, s_T_lo, s_T_hi, s_R_ne, *]; rfl)) ?_
    rw [h4.2.2.2.2.1]
    refine q_aload_n d_Carrier_comeOrGo_95 rfl rfl ?_
    refine q_getI (ci := 4) (fk := 4) d_Carrier_comeOrGo_96 rfl (Nat.le_of_ble_eq_true rfl) w_503 (fun _ _ => rfl) (by first | assumption | rfl | (simp (disch := omega) only [q_upT_self, q_upT_ne, q_upR_self, q_upR_nea, q_upR_nk, s_T_lo, s_T_hi, s_R_ne, *]; done) | (simp (disch := omega) only [q_upT_self, q_upT_ne, q_upR_self, q_upR_nea, q_upR_nk, s_T_lo, s_T_hi, s_R_ne, *]; rfl)) ?_
    rw [h4.2.2.2.2.2.1]
    refine q_callVv (M2 := M_Cells_writeDefault) d_Carrier_comeOrGo_99 ⟨(Nat.le_of_ble_eq_true rfl), (Nat.le_of_ble_eq_true rfl), w_725, w_7, ⟨by decide, by decide⟩, show _ = some 4 by decide +kernel⟩ w_929 w_723 (ci := 1) rfl w_724 (by first | assumption | rfl | (simp (disch := omega) only [q_upT_self, q_upT_ne, q_upR_self, q_upR_nea, q_upR_nk, s_T_lo, s_T_hi, s_R_ne, *]; done) | (simp (disch := omega) only [q_upT_self, q_upT_ne, q_upR_self, q_upR_nea, q_upR_nk, s_T_lo, s_T_hi, s_R_ne, *]; rfl)) rfl (Nat.le_of_ble_eq_true rfl) (by omega) (by omega) (c_Cells_writeDefault h2 (by omega) (by omega) _ _ _) ?_
    rintro _ ⟨I1, rfl, i1, i2, i3⟩
    exact fin _ I1 _ _ rfl rfl ⟨i1, i2, i3⟩ (by rw [if_pos hz])
  · have hne : ¬ k_cc (X.2.1 k).1 = 0 := by
      unfold k_cc
      rw [if_neg hz]
      split
      · decide
      · decide
    refine q_if_eq (tgt := 79) d_Carrier_comeOrGo_57 rfl (fun hc => ?_) (fun hc => ?_)
    · exact absurd hc hne
    refine q_aload_n d_Carrier_comeOrGo_60 rfl rfl ?_
    refine q_getR (ci := 0) (fk := 0) d_Carrier_comeOrGo_61 rfl (Nat.le_of_ble_eq_true rfl) w_226 (fun _ _ => rfl) hL.1 (hL.2 0 _ _ _ rfl).1 ?_
    refine q_aload_n d_Carrier_comeOrGo_64 rfl rfl ?_
    refine q_getI (ci := 4) (fk := 1) d_Carrier_comeOrGo_65 rfl (Nat.le_of_ble_eq_true rfl) w_495 (fun _ _ => rfl) (by first | assumption | rfl | (simp (disch := omega) only [q_upT_self, q_upT_ne, q_upR_self, q_upR_nea, q_upR_nk, s_T_lo, s_T_hi, s_R_ne, *]; done) | (simp (disch := omega) only [q_upT_self, q_upT_ne, q_upR_self, q_upR_nea, q_upR_nk, s_T_lo, s_T_hi, s_R_ne, *]; rfl)) ?_
    rw [psl]
    refine q_aload_n d_Carrier_comeOrGo_68 rfl rfl ?_
    refine q_getR (ci := 5) (fk := 4) d_Carrier_comeOrGo_69 rfl (Nat.le_of_ble_eq_true rfl) w_202 (fun _ _ => rfl) (by first | assumption | rfl | (simp (disch := omega) only [q_upT_self, q_upT_ne, q_upR_self, q_upR_nea, q_upR_nk, s_T_lo, s_T_hi, s_R_ne, *]; done) | (simp (disch := omega) only [q_upT_self, q_upT_ne, q_upR_self, q_upR_nea, q_upR_nk, s_T_lo, s_T_hi, s_R_ne, *]; rfl)) (by first | assumption | rfl | (simp (disch := omega) only [q_upT_self, q_upT_ne, q_upR_self, q_upR_nea, q_upR_nk, s_T_lo, s_T_hi, s_R_ne, *]; done) | (simp (disch := omega) only [q_upT_self, q_upT_ne, q_upR_self, q_upR_nea, q_upR_nk, s_T_lo, s_T_hi, s_R_ne, *]; rfl)) ?_
    refine q_iload_n d_Carrier_comeOrGo_72 rfl rfl ?_
    refine q_callVv (M2 := M_Cells_take) d_Carrier_comeOrGo_73 ⟨(Nat.le_of_ble_eq_true rfl), (Nat.le_of_ble_eq_true rfl), w_920, w_7, ⟨by decide, by decide⟩, show _ = some 3 by decide +kernel⟩ w_917 w_918 (ci := 1) rfl w_919 (by first | assumption | rfl | (simp (disch := omega) only [q_upT_self, q_upT_ne, q_upR_self, q_upR_nea, q_upR_nk, s_T_lo, s_T_hi, s_R_ne, *]; done) | (simp (disch := omega) only [q_upT_self, q_upT_ne, q_upR_self, q_upR_nea, q_upR_nk, s_T_lo, s_T_hi, s_R_ne, *]; rfl)) rfl (Nat.le_of_ble_eq_true rfl) (by omega) (by omega) (c_Cells_take (N := 238) (N2 := 896) h2 h3.2.2.1 (by omega) (by omega) (by omega) (by omega)) ?_
    rintro _ rfl
    refine q_goto (tgt := 102) d_Carrier_comeOrGo_76 rfl ?_
    exact fin _ _ _ _ rfl rfl (w_at.tk (k2 hz) (by omega)) (by rw [if_neg hz])
theorem k_hd {f : Int32 → Int32} {b : Nat} {v : List Int32} (h : k_rw f b v) (h0 : 0 < v.length) (d : Int32) : f (nI (b + 1 + 0)) = v.headD d := by
  cases v with
  | nil => exact absurd h0 (by decide)
  | cons x t => exact h.2.2 0 x rfl
theorem c_Carrier_wrap {k : Nat} (h : c_cr c r po p T I R) (hX : c_xx c r P X I) (hP : P p.sl) (hk : k < 128) (h1l : (X.1 p.sl).length = 1) : q_Cv g M_Carrier_wrap [.ref c, .ref po, .ref r, .int (nI k)] (sz, T, I, R, J) 0 0 (c_xp c r sz T I R J P (t_wrp p k X)) := by
  have hn := h.ne
  have hh := h
  obtain ⟨h1, h2, h3, h4, h5, h6⟩ := h
  obtain ⟨t0, t1, t2, t3, t4, t5, t6, t7⟩ := r_T0 h3
  have hL := h1
  have tp := h4.1
  have r3 := (h3.1.2 3 _ _ _ rfl).1
  have r4 := (h3.1.2 4 _ _ _ rfl).1
  have r5 := (h3.1.2 5 _ _ _ rfl).1
  have hc1 := h2.1
  have psl := h4.2.2.1
  obtain ⟨k1, k2, k3⟩ := hX.2 k hk
  have hV := hX.1 p.sl h5 hP
  obtain ⟨x, hx⟩ : ∃ x, x = (X.1 p.sl).headD 0 := ⟨_, rfl⟩
  have fin : ∀ (v : List Int32) (I1 : q_I) (mcc msc : Nat), mcc = 0 → msc = 0 → (∀ b, b ≠ c + 2 → I1 b = I b) → c_sl c P (k_ud X.1 p.sl v) I1 → v = (if (X.2.1 k).1 = 0 then X.1 p.sl else a_wrp p ((X.1 p.sl).headD 0) (X.2.1 k).2.1) → q_V g M_Carrier_wrap 0 0 mcc msc (sz, T, I1, R, J) (fun o h' => o = .inl none ∧ c_xp c r sz T I R J P (t_wrp p k X) h') 92 [some (.ref c), some (.ref po), some (.ref r), some (.int (nI k)), some (.int x)] [] := by
    intro v I1 mcc msc m1 m2 hw hs hv
    subst m1 m2
    refine q_aload_n d_Carrier_wrap_92 rfl rfl ?_
    refine q_getR (ci := 5) (fk := 3) d_Carrier_wrap_93 rfl (Nat.le_of_ble_eq_true rfl) w_200 (fun _ _ => rfl) (by first | assumption | rfl | (simp (disch := omega) only [q_upT_self, q_upT_ne, q_upR_self, q_upR_nea, q_upR_nk, s_T_lo, s_T_hi, s_R_ne, *]; done) | (simp (disch := omega) only [q_upT_self, q_upT_ne, q_upR_self, q_upR_nea, q_upR_nk, s_T_lo, s_T_hi, s_R_ne, *]; rfl)) (by first | assumption | rfl | (simp (disch := omega) only [q_upT_self, q_upT_ne, q_upR_self, q_upR_nea, q_upR_nk, s_T_lo, s_T_hi, s_R_ne, *]; done) | (simp (disch := omega) only [q_upT_self, q_upT_ne, q_upR_self, q_upR_nea, q_upR_nk, s_T_lo, s_T_hi, s_R_ne, *]; rfl)) ?_
    refine q_iload_n d_Carrier_wrap_96 rfl rfl ?_
    refine q_iconst (v := nI 0) d_Carrier_wrap_97 (by decide) ?_
    refine q_iast d_Carrier_wrap_98 (by first | assumption | rfl | (simp (disch := omega) only [q_upT_self, q_upT_ne, q_upR_self, q_upR_nea, q_upR_nk, s_T_lo, s_T_hi, s_R_ne, *]; done) | (simp (disch := omega) only [q_upT_self, q_upT_ne, q_upR_self, q_upR_nea, q_upR_nk, s_T_lo, s_T_hi, s_R_ne, *]; rfl)) (by first | assumption | exact vp_in_nI (by omega) (by omega)) ?_
    refine q_vret d_Carrier_wrap_99 rfl (by omega) (by omega) ?_
    refine ⟨rfl, _, rfl, fun b b1 b2 b3 b4 => by rw [← hw b b1]; funext i; rw [q_upI_nea b2], ?_, ?_⟩
    · unfold t_wrp
      rw [← hv]
      exact hs.cong (by funext i; rw [q_upI_nea hn.1])
    · refine hX.2.zero (by rw [q_upI_self]; rfl) (fun j _ hj => ?_) ?_ ?_
      · rw [q_upI_nk (by omega), hw (r + 3) (by omega)]
      · rw [← hw (r + 5) (by omega)]; funext i; rw [q_upI_nea (by omega)]
      · rw [← hw (r + 7) (by omega)]; funext i; rw [q_upI_nea (by omega)]
  refine q_C.of (ls0 := [some (.ref c), some (.ref po), some (.ref r), some (.int (nI k)), none]) (by decide) rfl (by decide) (Nat.le_of_ble_eq_true rfl) rfl ?_
  refine q_aload_n d_Carrier_wrap_0 rfl rfl ?_
  refine q_getR (ci := 0) (fk := 0) d_Carrier_wrap_1 rfl (Nat.le_of_ble_eq_true rfl) w_226 (fun _ _ => rfl) hL.1 (hL.2 0 _ _ _ rfl).1 ?_
  refine q_aload_n d_Carrier_wrap_4 rfl rfl ?_
  refine q_getI (ci := 4) (fk := 1) d_Carrier_wrap_5 rfl (Nat.le_of_ble_eq_true rfl) w_495 (fun _ _ => rfl) (by first | assumption | rfl | (simp (disch := omega) only [q_upT_self, q_upT_ne, q_upR_self, q_upR_nea, q_upR_nk, s_T_lo, s_T_hi, s_R_ne, *]; done) | (simp (disch := omega) only [q_upT_self, q_upT_ne, q_upR_self, q_upR_nea, q_upR_nk, s_T_lo, s_T_hi, s_R_ne, *]; rfl)) ?_
  rw [psl]
  refine q_iconst (v := nI 0) d_Carrier_wrap_8 (by decide) ?_
  refine q_callVi (M2 := M_Cells_read) d_Carrier_wrap_9 ⟨(Nat.le_of_ble_eq_true rfl), (Nat.le_of_ble_eq_true rfl), w_817, w_7, ⟨by decide, by decide⟩, show _ = some 2 by decide +kernel⟩ w_939 w_815 (ci := 1) rfl w_816 (by first | assumption | rfl | (simp (disch := omega) only [q_upT_self, q_upT_ne, q_upR_self, q_upR_nea, q_upR_nk, s_T_lo, s_T_hi, s_R_ne, *]; done) | (simp (disch := omega) only [q_upT_self, q_upT_ne, q_upR_self, q_upR_nea, q_upR_nk, s_T_lo, s_T_hi, s_R_ne, *]; rfl)) rfl (Nat.le_of_ble_eq_true rfl) (by omega) (by omega) (c_Cells_read (i := 0) h2 (by omega) (by omega)) ?_
  rintro _ _ ⟨rfl, rfl⟩
  rw [show I (c + 1 + 1) (nI (p.sl * 7 + 1 + 0)) = x by rw [hx]; exact k_hd hV (by omega) 0]
  refine q_istore d_Carrier_wrap_12 (Nat.le_of_ble_eq_true rfl) (by first | exact q_ok0 | exact q_okI rfl | exact q_okR rfl | exact q_okN rfl) rfl ?_
  refine q_aload_n d_Carrier_wrap_14 rfl rfl ?_
  refine q_getR (ci := 5) (fk := 3) d_Carrier_wrap_15 rfl (Nat.le_of_ble_eq_true rfl) w_200 (fun _ _ => rfl) (by first | assumption | rfl | (simp (disch := omega) only [q_upT_self, q_upT_ne, q_upR_self, q_upR_nea, q_upR_nk, s_T_lo, s_T_hi, s_R_ne, *]; done) | (simp (disch := omega) only [q_upT_self, q_upT_ne, q_upR_self, q_upR_nea, q_upR_nk, s_T_lo, s_T_hi, s_R_ne, *]; rfl)) (by first | assumption | rfl | (simp (disch := omega) only [q_upT_self, q_upT_ne, q_upR_self, q_upR_nea, q_upR_nk, s_T_lo, s_T_hi, s_R_ne, *]; done) | (simp (disch := omega) only [q_upT_self, q_upT_ne, q_upR_self, q_upR_nea, q_upR_nk, s_T_lo, s_T_hi, s_R_ne, *]; rfl)) ?_
  refine q_iload_n d_Carrier_wrap_18 rfl rfl ?_
  refine q_iald d_Carrier_wrap_19 (by first | assumption | rfl | (simp (disch := omega) only [q_upT_self, q_upT_ne, q_upR_self, q_upR_nea, q_upR_nk, s_T_lo, s_T_hi, s_R_ne, *]; done) | (simp (disch := omega) only [q_upT_self, q_upT_ne, q_upR_self, q_upR_nea, q_upR_nk, s_T_lo, s_T_hi, s_R_ne, *]; rfl)) (by first | assumption | exact vp_in_nI (by omega) (by omega)) ?_
  rw [k1]
  by_cases hz : (X.2.1 k).1 = 0
  · rw [hz]
    refine q_if_eq (tgt := 92) d_Carrier_wrap_20 rfl (fun hc => ?_) (fun hc => ?_)
    rotate_left
    · exact absurd rfl hc
    refine fin (X.1 p.sl) I _ _ rfl rfl (fun _ _ => rfl) (fun s hs hPs => ?_) (by rw [if_pos hz])
    by_cases hsp : s = p.sl
    · rw [hsp, k_ud_self]; exact hV
    · rw [k_ud_ne hsp]; exact hX.1 s hs hPs
  · have hne : ¬ k_cc (X.2.1 k).1 = 0 := by
      unfold k_cc
      rw [if_neg hz]
      split
      · decide
      · decide
    refine q_if_eq (tgt := 92) d_Carrier_wrap_20 rfl (fun hc => ?_) (fun hc => ?_)
    · exact absurd hc hne
    refine q_aload_n d_Carrier_wrap_23 rfl rfl ?_
    refine q_getR (ci := 0) (fk := 0) d_Carrier_wrap_24 rfl (Nat.le_of_ble_eq_true rfl) w_226 (fun _ _ => rfl) hL.1 (hL.2 0 _ _ _ rfl).1 ?_
    refine q_aload_n d_Carrier_wrap_27 rfl rfl ?_
    refine q_getI (ci := 4) (fk := 1) d_Carrier_wrap_28 rfl (Nat.le_of_ble_eq_true rfl) w_495 (fun _ _ => rfl) (by first | assumption | rfl | (simp (disch := omega) only [q_upT_self, q_upT_ne, q_upR_self, q_upR_nea, q_upR_nk, s_T_lo, s_T_hi, s_R_ne, *]; done) | (simp (disch := omega) only [q_upT_self, q_upT_ne, q_upR_self, q_upR_nea, q_upR_nk, s_T_lo, s_T_hi, s_R_ne, *]; rfl)) ?_
    rw [psl]
    refine q_aload_n d_Carrier_wrap_31 rfl rfl ?_
    refine q_getR (ci := 5) (fk := 4) d_Carrier_wrap_32 rfl (Nat.le_of_ble_eq_true rfl) w_202 (fun _ _ => rfl) (by first | assumption | rfl | (simp (disch := omega) only [q_upT_self, q_upT_ne, q_upR_self, q_upR_nea, q_upR_nk, s_T_lo, s_T_hi, s_R_ne, *]; done) | (simp (disch := omega) only [q_upT_self, q_upT_ne, q_upR_self, q_upR_nea, q_upR_nk, s_T_lo, s_T_hi, s_R_ne, *]; rfl)) (by first | assumption | rfl | (simp (disch := omega) only [q_upT_self, q_upT_ne, q_upR_self, q_upR_nea, q_upR_nk, s_T_lo, s_T_hi, s_R_ne, *]; done) | (simp (disch := omega) only [q_upT_self, q_upT_ne, q_upR_self, q_upR_nea, q_upR_nk, s_T_lo, s_T_hi, s_R_ne, *]; rfl)) ?_
    refine q_iload_n d_Carrier_wrap_35 rfl rfl ?_
    refine q_callVv (M2 := M_Cells_take) d_Carrier_wrap_36 ⟨(Nat.le_of_ble_eq_true rfl), (Nat.le_of_ble_eq_true rfl), w_920, w_7, ⟨by decide, by decide⟩, show _ = some 3 by decide +kernel⟩ w_917 w_918 (ci := 1) rfl w_919 (by first | assumption | rfl | (simp (disch := omega) only [q_upT_self, q_upT_ne, q_upR_self, q_upR_nea, q_upR_nk, s_T_lo, s_T_hi, s_R_ne, *]; done) | (simp (disch := omega) only [q_upT_self, q_upT_ne, q_upR_self, q_upR_nea, q_upR_nk, s_T_lo, s_T_hi, s_R_ne, *]; rfl)) rfl (Nat.le_of_ble_eq_true rfl) (by omega) (by omega) (c_Cells_take (N := 238) (N2 := 896) h2 h3.2.2.1 (by omega) (by omega) (by omega) (by omega)) ?_
    rintro _ rfl
    obtain ⟨w, hwd⟩ : ∃ w, w = (X.2.1 k).2.1 := ⟨_, rfl⟩
    obtain ⟨I1, hI1⟩ : ∃ I1, I1 = k_acp I (r + 4 + 1) (k * 7) (c + 1 + 1) (p.sl * 7) 7 := ⟨_, rfl⟩
    have hw1 : w_at (c + 2) p.sl w I I1 := by rw [hI1, hwd]; exact w_at.tk (k2 hz) (by omega)
    rw [← hI1]
    have ps1 : I1 po (nI 1) = nI p.sl := by rw [hw1.1 po hn.2.2.2.2.1]; exact psl
    have h41 : k_prm po p T I1 := h4.cong (hw1.1 po hn.2.2.2.2.1)
    have lw : I1 (c + 1 + 1) (nI (p.sl * 7)) = nI w.length := hw1.2.2.2.1
    have w6 := hw1.2.2.1
    refine q_aload_n d_Carrier_wrap_39 rfl rfl ?_
    refine q_getR (ci := 0) (fk := 0) d_Carrier_wrap_40 rfl (Nat.le_of_ble_eq_true rfl) w_226 (fun _ _ => rfl) hL.1 (hL.2 0 _ _ _ rfl).1 ?_
    refine q_aload_n d_Carrier_wrap_43 rfl rfl ?_
    refine q_getI (ci := 4) (fk := 1) d_Carrier_wrap_44 rfl (Nat.le_of_ble_eq_true rfl) w_495 (fun _ _ => rfl) (by first | assumption | rfl | (simp (disch := omega) only [q_upT_self, q_upT_ne, q_upR_self, q_upR_nea, q_upR_nk, s_T_lo, s_T_hi, s_R_ne, *]; done) | (simp (disch := omega) only [q_upT_self, q_upT_ne, q_upR_self, q_upR_nea, q_upR_nk, s_T_lo, s_T_hi, s_R_ne, *]; rfl)) ?_
    rw [ps1]
    refine q_callVi (M2 := M_Cells_lengthOf) d_Carrier_wrap_47 ⟨(Nat.le_of_ble_eq_true rfl), (Nat.le_of_ble_eq_true rfl), w_794, w_7, ⟨by decide, by decide⟩, show _ = some 1 by decide +kernel⟩ w_940 w_792 (ci := 1) rfl w_793 (by first | assumption | rfl | (simp (disch := omega) only [q_upT_self, q_upT_ne, q_upR_self, q_upR_nea, q_upR_nk, s_T_lo, s_T_hi, s_R_ne, *]; done) | (simp (disch := omega) only [q_upT_self, q_upT_ne, q_upR_self, q_upR_nea, q_upR_nk, s_T_lo, s_T_hi, s_R_ne, *]; rfl)) rfl (Nat.le_of_ble_eq_true rfl) (by omega) (by omega) (c_Cells_lengthOf h2 (by omega) (by omega)) ?_
    rintro _ _ ⟨rfl, rfl⟩
    rw [lw]
    by_cases hl : 0 < w.length
    · refine q_if_le (tgt := 70) d_Carrier_wrap_50 rfl (fun hc => ?_) (fun hc => ?_)
      · exact absurd hc (nI_nle hl (by omega))
      refine q_aload_n d_Carrier_wrap_53 rfl rfl ?_
      refine q_getR (ci := 0) (fk := 0) d_Carrier_wrap_54 rfl (Nat.le_of_ble_eq_true rfl) w_226 (fun _ _ => rfl) hL.1 (hL.2 0 _ _ _ rfl).1 ?_
      refine q_aload_n d_Carrier_wrap_57 rfl rfl ?_
      refine q_getI (ci := 4) (fk := 1) d_Carrier_wrap_58 rfl (Nat.le_of_ble_eq_true rfl) w_495 (fun _ _ => rfl) (by first | assumption | rfl | (simp (disch := omega) only [q_upT_self, q_upT_ne, q_upR_self, q_upR_nea, q_upR_nk, s_T_lo, s_T_hi, s_R_ne, *]; done) | (simp (disch := omega) only [q_upT_self, q_upT_ne, q_upR_self, q_upR_nea, q_upR_nk, s_T_lo, s_T_hi, s_R_ne, *]; rfl)) ?_
      rw [ps1]
      refine q_iconst (v := nI 0) d_Carrier_wrap_61 (by decide) ?_
      refine q_iload d_Carrier_wrap_62 rfl ?_
      refine q_callVv (M2 := M_Cells_write) d_Carrier_wrap_64 ⟨(Nat.le_of_ble_eq_true rfl), (Nat.le_of_ble_eq_true rfl), w_799, w_7, ⟨by decide, by decide⟩, show _ = some 3 by decide +kernel⟩ w_941 w_797 (ci := 1) rfl w_798 (by first | assumption | rfl | (simp (disch := omega) only [q_upT_self, q_upT_ne, q_upR_self, q_upR_nea, q_upR_nk, s_T_lo, s_T_hi, s_R_ne, *]; done) | (simp (disch := omega) only [q_upT_self, q_upT_ne, q_upR_self, q_upR_nea, q_upR_nk, s_T_lo, s_T_hi, s_R_ne, *]; rfl)) rfl (Nat.le_of_ble_eq_true rfl) (by omega) (by omega) (c_Cells_write (i := 0) h2 (by omega) (by omega) x) ?_
      rintro _ rfl
      refine q_goto (tgt := 92) d_Carrier_wrap_67 rfl ?_
      refine fin (w.set 0 x) _ _ _ rfl rfl (fun b hb => ?_) (fun s hs hPs => ?_) ?_
      · rw [← hw1.1 b hb]; funext i; rw [q_upI_nea (by omega)]
      · by_cases hsp : s = p.sl
        · rw [hsp, k_ud_self]; exact k_wrx (f := I1 0) hw1.2.2 hl (by omega)
        · rw [k_ud_ne hsp]
          refine (hw1.keep hsp (by omega) (hX.1 s hs hPs)).cong fun j j1 j2 => ?_
          have hj : j ≠ p.sl * 7 + 1 + 0 := by omega
          rw [show c + 2 = c + 1 + 1 by omega, q_upI_nei (fun z => hj ((nI_eq (by omega) (by omega)).mp z))]
      · rw [if_neg hz, ← hwd, ← hx, a_wrp, if_pos hl]
    · have hw0 : w = [] := List.length_eq_zero_iff.mp (by omega)
      rw [show w.length = 0 by omega]
      refine q_if_le (tgt := 70) d_Carrier_wrap_50 rfl (fun hc => ?_) (fun hc => ?_)
      rotate_left
      · exact absurd (Int32.le_refl _) hc
      refine q_iload d_Carrier_wrap_70 rfl ?_
      refine q_aload_n d_Carrier_wrap_72 rfl rfl ?_
      refine q_callVi (M2 := M_Primitive_defaultNumber) d_Carrier_wrap_73 ⟨(Nat.le_of_ble_eq_true rfl), (Nat.le_of_ble_eq_true rfl), w_945, w_18, ⟨by decide, by decide⟩, show _ = some 0 by decide +kernel⟩ w_942 w_943 (ci := 4) rfl w_944 (by first | assumption | rfl | (simp (disch := omega) only [q_upT_self, q_upT_ne, q_upR_self, q_upR_nea, q_upR_nk, s_T_lo, s_T_hi, s_R_ne, *]; done) | (simp (disch := omega) only [q_upT_self, q_upT_ne, q_upR_self, q_upR_nea, q_upR_nk, s_T_lo, s_T_hi, s_R_ne, *]; rfl)) rfl (Nat.le_of_ble_eq_true rfl) (by omega) (by omega) (c_Primitive_defaultNumber h41) ?_
      rintro _ _ ⟨rfl, rfl⟩
      by_cases hxn : x = p_near p.lo p.hi
      · refine q_icmp_eq (tgt := 92) d_Carrier_wrap_76 rfl (fun hc => ?_) (fun hc => ?_)
        rotate_left
        · exact absurd hxn hc
        refine fin [] I1 _ _ rfl rfl hw1.1 (fun s hs hPs => ?_) ?_
        · by_cases hsp : s = p.sl
          · rw [hsp, k_ud_self, ← hw0]; exact hw1.2.2
          · rw [k_ud_ne hsp]; exact hw1.keep hsp (by omega) (hX.1 s hs hPs)
        · rw [if_neg hz, ← hwd, ← hx, a_wrp, if_neg hl, if_pos hxn]
      · refine q_icmp_eq (tgt := 92) d_Carrier_wrap_76 rfl (fun hc => ?_) (fun hc => ?_)
        · exact absurd hc hxn
        refine q_aload_n d_Carrier_wrap_79 rfl rfl ?_
        refine q_getR (ci := 0) (fk := 0) d_Carrier_wrap_80 rfl (Nat.le_of_ble_eq_true rfl) w_226 (fun _ _ => rfl) hL.1 (hL.2 0 _ _ _ rfl).1 ?_
        refine q_aload_n d_Carrier_wrap_83 rfl rfl ?_
        refine q_getI (ci := 4) (fk := 1) d_Carrier_wrap_84 rfl (Nat.le_of_ble_eq_true rfl) w_495 (fun _ _ => rfl) (by first | assumption | rfl | (simp (disch := omega) only [q_upT_self, q_upT_ne, q_upR_self, q_upR_nea, q_upR_nk, s_T_lo, s_T_hi, s_R_ne, *]; done) | (simp (disch := omega) only [q_upT_self, q_upT_ne, q_upR_self, q_upR_nea, q_upR_nk, s_T_lo, s_T_hi, s_R_ne, *]; rfl)) ?_
        rw [ps1]
        refine q_iload d_Carrier_wrap_87 rfl ?_
        refine q_callVv (M2 := M_Cells_writeNumber) d_Carrier_wrap_89 ⟨(Nat.le_of_ble_eq_true rfl), (Nat.le_of_ble_eq_true rfl), w_732, w_7, ⟨by decide, by decide⟩, show _ = some 2 by decide +kernel⟩ w_947 w_730 (ci := 1) rfl w_731 (by first | assumption | rfl | (simp (disch := omega) only [q_upT_self, q_upT_ne, q_upR_self, q_upR_nea, q_upR_nk, s_T_lo, s_T_hi, s_R_ne, *]; done) | (simp (disch := omega) only [q_upT_self, q_upT_ne, q_upR_self, q_upR_nea, q_upR_nk, s_T_lo, s_T_hi, s_R_ne, *]; rfl)) rfl (Nat.le_of_ble_eq_true rfl) (by omega) (by omega) (c_Cells_writeNumber h2 (by omega) (by omega) x) ?_
        rintro _ rfl
        have hw2 : w_at (c + 2) p.sl [x] I1 (k_wn I1 (c + 2) (p.sl * 7) x) := w_at.wn x (by omega)
        refine fin [x] _ _ _ rfl rfl (fun b hb => by rw [← hw1.1 b hb]; exact hw2.1 b hb) (fun s hs hPs => ?_) ?_
        · by_cases hsp : s = p.sl
          · rw [hsp, k_ud_self]; exact hw2.2.2
          · rw [k_ud_ne hsp]; exact hw2.keep hsp (by omega) (hw1.keep hsp (by omega) (hX.1 s hs hPs))
        · rw [if_neg hz, ← hwd, ← hx, a_wrp, if_neg hl, if_neg hxn]
end Carr
