/-! constructors of the class -/
abbrev M_Field_init : q_M := (⟨"LensPaths$Field", "<init>", "()V"⟩, prog_5_method_1_code, 1, none, "LensPaths$Field", [], true, 1, 20)
theorem d_Field_init_0 : decode prog_5_method_1_code 0 = .ok (.aload_n 0, 1) := by decide +kernel
theorem d_Field_init_1 : decode prog_5_method_1_code 1 = .ok (.invokespecial 1, 3) := by decide +kernel
theorem d_Field_init_4 : decode prog_5_method_1_code 4 = .ok (.return_, 1) := by decide +kernel
abbrev M_Schema_init : q_M := (⟨"LensPaths$Schema", "<init>", "()V"⟩, prog_9_method_1_code, 2, none, "LensPaths$Schema", [], true, 2, 40)
theorem d_Schema_init_0 : decode prog_9_method_1_code 0 = .ok (.aload_n 0, 1) := by decide +kernel
theorem d_Schema_init_1 : decode prog_9_method_1_code 1 = .ok (.invokespecial 3, 3) := by decide +kernel
theorem d_Schema_init_4 : decode prog_9_method_1_code 4 = .ok (.aload_n 0, 1) := by decide +kernel
theorem d_Schema_init_5 : decode prog_9_method_1_code 5 = .ok (.bipush 24, 2) := by decide +kernel
theorem d_Schema_init_7 : decode prog_9_method_1_code 7 = .ok (.anewarray 9, 3) := by decide +kernel
theorem d_Schema_init_10 : decode prog_9_method_1_code 10 = .ok (.putfield 11, 3) := by decide +kernel
theorem d_Schema_init_13 : decode prog_9_method_1_code 13 = .ok (.iconst 0, 1) := by decide +kernel
theorem d_Schema_init_14 : decode prog_9_method_1_code 14 = .ok (.istore_n 1, 1) := by decide +kernel
theorem d_Schema_init_15 : decode prog_9_method_1_code 15 = .ok (.iload_n 1, 1) := by decide +kernel
theorem d_Schema_init_16 : decode prog_9_method_1_code 16 = .ok (.bipush 24, 2) := by decide +kernel
theorem d_Schema_init_18 : decode prog_9_method_1_code 18 = .ok (.if_icmp .ge 22, 3) := by decide +kernel
theorem d_Schema_init_21 : decode prog_9_method_1_code 21 = .ok (.aload_n 0, 1) := by decide +kernel
theorem d_Schema_init_22 : decode prog_9_method_1_code 22 = .ok (.getfield 11, 3) := by decide +kernel
theorem d_Schema_init_25 : decode prog_9_method_1_code 25 = .ok (.iload_n 1, 1) := by decide +kernel
theorem d_Schema_init_26 : decode prog_9_method_1_code 26 = .ok (.new 9, 3) := by decide +kernel
theorem d_Schema_init_29 : decode prog_9_method_1_code 29 = .ok (.dup, 1) := by decide +kernel
theorem d_Schema_init_30 : decode prog_9_method_1_code 30 = .ok (.invokespecial 17, 3) := by decide +kernel
theorem d_Schema_init_33 : decode prog_9_method_1_code 33 = .ok (.aastore, 1) := by decide +kernel
theorem d_Schema_init_34 : decode prog_9_method_1_code 34 = .ok (.iinc 1 1, 3) := by decide +kernel
theorem d_Schema_init_37 : decode prog_9_method_1_code 37 = .ok (.goto (-22), 3) := by decide +kernel
theorem d_Schema_init_40 : decode prog_9_method_1_code 40 = .ok (.return_, 1) := by decide +kernel
abbrev M_Versions_init : q_M := (⟨"LensPaths$Versions", "<init>", "()V"⟩, prog_12_method_1_code, 1, none, "LensPaths$Versions", [], true, 3, 61)
theorem d_Versions_init_0 : decode prog_12_method_1_code 0 = .ok (.aload_n 0, 1) := by decide +kernel
theorem d_Versions_init_1 : decode prog_12_method_1_code 1 = .ok (.invokespecial 3, 3) := by decide +kernel
theorem d_Versions_init_4 : decode prog_12_method_1_code 4 = .ok (.aload_n 0, 1) := by decide +kernel
theorem d_Versions_init_5 : decode prog_12_method_1_code 5 = .ok (.bipush 8, 2) := by decide +kernel
theorem d_Versions_init_7 : decode prog_12_method_1_code 7 = .ok (.anewarray 9, 3) := by decide +kernel
theorem d_Versions_init_10 : decode prog_12_method_1_code 10 = .ok (.putfield 11, 3) := by decide +kernel
theorem d_Versions_init_13 : decode prog_12_method_1_code 13 = .ok (.aload_n 0, 1) := by decide +kernel
theorem d_Versions_init_14 : decode prog_12_method_1_code 14 = .ok (.iconst 1, 1) := by decide +kernel
theorem d_Versions_init_15 : decode prog_12_method_1_code 15 = .ok (.putfield 17, 3) := by decide +kernel
theorem d_Versions_init_18 : decode prog_12_method_1_code 18 = .ok (.aload_n 0, 1) := by decide +kernel
theorem d_Versions_init_19 : decode prog_12_method_1_code 19 = .ok (.bipush 16, 2) := by decide +kernel
theorem d_Versions_init_21 : decode prog_12_method_1_code 21 = .ok (.anewarray 21, 3) := by decide +kernel
theorem d_Versions_init_24 : decode prog_12_method_1_code 24 = .ok (.putfield 23, 3) := by decide +kernel
theorem d_Versions_init_27 : decode prog_12_method_1_code 27 = .ok (.aload_n 0, 1) := by decide +kernel
theorem d_Versions_init_28 : decode prog_12_method_1_code 28 = .ok (.bipush 8, 2) := by decide +kernel
theorem d_Versions_init_30 : decode prog_12_method_1_code 30 = .ok (.newarray .int, 2) := by decide +kernel
theorem d_Versions_init_32 : decode prog_12_method_1_code 32 = .ok (.putfield 27, 3) := by decide +kernel
theorem d_Versions_init_35 : decode prog_12_method_1_code 35 = .ok (.aload_n 0, 1) := by decide +kernel
theorem d_Versions_init_36 : decode prog_12_method_1_code 36 = .ok (.bipush 8, 2) := by decide +kernel
theorem d_Versions_init_38 : decode prog_12_method_1_code 38 = .ok (.newarray .int, 2) := by decide +kernel
theorem d_Versions_init_40 : decode prog_12_method_1_code 40 = .ok (.putfield 31, 3) := by decide +kernel
theorem d_Versions_init_43 : decode prog_12_method_1_code 43 = .ok (.aload_n 0, 1) := by decide +kernel
theorem d_Versions_init_44 : decode prog_12_method_1_code 44 = .ok (.getfield 11, 3) := by decide +kernel
theorem d_Versions_init_47 : decode prog_12_method_1_code 47 = .ok (.iconst 0, 1) := by decide +kernel
theorem d_Versions_init_48 : decode prog_12_method_1_code 48 = .ok (.new 9, 3) := by decide +kernel
theorem d_Versions_init_51 : decode prog_12_method_1_code 51 = .ok (.dup, 1) := by decide +kernel
theorem d_Versions_init_52 : decode prog_12_method_1_code 52 = .ok (.invokespecial 34, 3) := by decide +kernel
theorem d_Versions_init_55 : decode prog_12_method_1_code 55 = .ok (.aastore, 1) := by decide +kernel
theorem d_Versions_init_56 : decode prog_12_method_1_code 56 = .ok (.return_, 1) := by decide +kernel
abbrev M_Draft_init : q_M := (⟨"LensPaths$Draft", "<init>", "()V"⟩, prog_4_method_1_code, 1, none, "LensPaths$Draft", [], true, 3, 61)
theorem d_Draft_init_0 : decode prog_4_method_1_code 0 = .ok (.aload_n 0, 1) := by decide +kernel
theorem d_Draft_init_1 : decode prog_4_method_1_code 1 = .ok (.invokespecial 3, 3) := by decide +kernel
theorem d_Draft_init_4 : decode prog_4_method_1_code 4 = .ok (.aload_n 0, 1) := by decide +kernel
theorem d_Draft_init_5 : decode prog_4_method_1_code 5 = .ok (.new 9, 3) := by decide +kernel
theorem d_Draft_init_8 : decode prog_4_method_1_code 8 = .ok (.dup, 1) := by decide +kernel
theorem d_Draft_init_9 : decode prog_4_method_1_code 9 = .ok (.invokespecial 11, 3) := by decide +kernel
theorem d_Draft_init_12 : decode prog_4_method_1_code 12 = .ok (.putfield 12, 3) := by decide +kernel
theorem d_Draft_init_15 : decode prog_4_method_1_code 15 = .ok (.aload_n 0, 1) := by decide +kernel
theorem d_Draft_init_16 : decode prog_4_method_1_code 16 = .ok (.bipush 8, 2) := by decide +kernel
theorem d_Draft_init_18 : decode prog_4_method_1_code 18 = .ok (.anewarray 18, 3) := by decide +kernel
theorem d_Draft_init_21 : decode prog_4_method_1_code 21 = .ok (.putfield 20, 3) := by decide +kernel
theorem d_Draft_init_24 : decode prog_4_method_1_code 24 = .ok (.return_, 1) := by decide +kernel
abbrev M_Cells_init : q_M := (⟨"LensPaths$Cells", "<init>", "(I)V"⟩, prog_3_method_1_code, 2, none, "LensPaths$Cells", [], true, 1, 20)
theorem d_Cells_init_0 : decode prog_3_method_1_code 0 = .ok (.aload_n 0, 1) := by decide +kernel
theorem d_Cells_init_1 : decode prog_3_method_1_code 1 = .ok (.invokespecial 3, 3) := by decide +kernel
theorem d_Cells_init_4 : decode prog_3_method_1_code 4 = .ok (.aload_n 0, 1) := by decide +kernel
theorem d_Cells_init_5 : decode prog_3_method_1_code 5 = .ok (.iload_n 1, 1) := by decide +kernel
theorem d_Cells_init_6 : decode prog_3_method_1_code 6 = .ok (.bipush 7, 2) := by decide +kernel
theorem d_Cells_init_8 : decode prog_3_method_1_code 8 = .ok (.imul, 1) := by decide +kernel
theorem d_Cells_init_9 : decode prog_3_method_1_code 9 = .ok (.newarray .int, 2) := by decide +kernel
theorem d_Cells_init_11 : decode prog_3_method_1_code 11 = .ok (.putfield 11, 3) := by decide +kernel
theorem d_Cells_init_14 : decode prog_3_method_1_code 14 = .ok (.return_, 1) := by decide +kernel
abbrev M_Row_init : q_M := (⟨"LensPaths$Row", "<init>", "()V"⟩, prog_8_method_1_code, 1, none, "LensPaths$Row", [], true, 2, 41)
theorem d_Row_init_0 : decode prog_8_method_1_code 0 = .ok (.aload_n 0, 1) := by decide +kernel
theorem d_Row_init_1 : decode prog_8_method_1_code 1 = .ok (.invokespecial 3, 3) := by decide +kernel
theorem d_Row_init_4 : decode prog_8_method_1_code 4 = .ok (.aload_n 0, 1) := by decide +kernel
theorem d_Row_init_5 : decode prog_8_method_1_code 5 = .ok (.new 9, 3) := by decide +kernel
theorem d_Row_init_8 : decode prog_8_method_1_code 8 = .ok (.dup, 1) := by decide +kernel
theorem d_Row_init_9 : decode prog_8_method_1_code 9 = .ok (.bipush 24, 2) := by decide +kernel
theorem d_Row_init_11 : decode prog_8_method_1_code 11 = .ok (.invokespecial 11, 3) := by decide +kernel
theorem d_Row_init_14 : decode prog_8_method_1_code 14 = .ok (.putfield 14, 3) := by decide +kernel
theorem d_Row_init_17 : decode prog_8_method_1_code 17 = .ok (.aload_n 0, 1) := by decide +kernel
theorem d_Row_init_18 : decode prog_8_method_1_code 18 = .ok (.sipush 128, 3) := by decide +kernel
theorem d_Row_init_21 : decode prog_8_method_1_code 21 = .ok (.newarray .int, 2) := by decide +kernel
theorem d_Row_init_23 : decode prog_8_method_1_code 23 = .ok (.putfield 20, 3) := by decide +kernel
theorem d_Row_init_26 : decode prog_8_method_1_code 26 = .ok (.aload_n 0, 1) := by decide +kernel
theorem d_Row_init_27 : decode prog_8_method_1_code 27 = .ok (.new 9, 3) := by decide +kernel
theorem d_Row_init_30 : decode prog_8_method_1_code 30 = .ok (.dup, 1) := by decide +kernel
theorem d_Row_init_31 : decode prog_8_method_1_code 31 = .ok (.sipush 128, 3) := by decide +kernel
theorem d_Row_init_34 : decode prog_8_method_1_code 34 = .ok (.invokespecial 11, 3) := by decide +kernel
theorem d_Row_init_37 : decode prog_8_method_1_code 37 = .ok (.putfield 24, 3) := by decide +kernel
theorem d_Row_init_40 : decode prog_8_method_1_code 40 = .ok (.aload_n 0, 1) := by decide +kernel
theorem d_Row_init_41 : decode prog_8_method_1_code 41 = .ok (.new 9, 3) := by decide +kernel
theorem d_Row_init_44 : decode prog_8_method_1_code 44 = .ok (.dup, 1) := by decide +kernel
theorem d_Row_init_45 : decode prog_8_method_1_code 45 = .ok (.sipush 128, 3) := by decide +kernel
theorem d_Row_init_48 : decode prog_8_method_1_code 48 = .ok (.invokespecial 11, 3) := by decide +kernel
theorem d_Row_init_51 : decode prog_8_method_1_code 51 = .ok (.putfield 27, 3) := by decide +kernel
theorem d_Row_init_54 : decode prog_8_method_1_code 54 = .ok (.return_, 1) := by decide +kernel
abbrev M_Carrier_init : q_M := (⟨"LensPaths$Carrier", "<init>", "()V"⟩, prog_2_method_1_code, 1, none, "LensPaths$Carrier", [], true, 2, 41)
theorem d_Carrier_init_0 : decode prog_2_method_1_code 0 = .ok (.aload_n 0, 1) := by decide +kernel
theorem d_Carrier_init_1 : decode prog_2_method_1_code 1 = .ok (.invokespecial 3, 3) := by decide +kernel
theorem d_Carrier_init_4 : decode prog_2_method_1_code 4 = .ok (.aload_n 0, 1) := by decide +kernel
theorem d_Carrier_init_5 : decode prog_2_method_1_code 5 = .ok (.new 9, 3) := by decide +kernel
theorem d_Carrier_init_8 : decode prog_2_method_1_code 8 = .ok (.dup, 1) := by decide +kernel
theorem d_Carrier_init_9 : decode prog_2_method_1_code 9 = .ok (.bipush 34, 2) := by decide +kernel
theorem d_Carrier_init_11 : decode prog_2_method_1_code 11 = .ok (.invokespecial 11, 3) := by decide +kernel
theorem d_Carrier_init_14 : decode prog_2_method_1_code 14 = .ok (.putfield 14, 3) := by decide +kernel
theorem d_Carrier_init_17 : decode prog_2_method_1_code 17 = .ok (.return_, 1) := by decide +kernel
abbrev M_Terms_init : q_M := (⟨"LensPaths$Terms", "<init>", "()V"⟩, prog_11_method_1_code, 1, none, "LensPaths$Terms", [], true, 1, 20)
theorem d_Terms_init_0 : decode prog_11_method_1_code 0 = .ok (.aload_n 0, 1) := by decide +kernel
theorem d_Terms_init_1 : decode prog_11_method_1_code 1 = .ok (.invokespecial 3, 3) := by decide +kernel
theorem d_Terms_init_4 : decode prog_11_method_1_code 4 = .ok (.aload_n 0, 1) := by decide +kernel
theorem d_Terms_init_5 : decode prog_11_method_1_code 5 = .ok (.bipush 24, 2) := by decide +kernel
theorem d_Terms_init_7 : decode prog_11_method_1_code 7 = .ok (.newarray .int, 2) := by decide +kernel
theorem d_Terms_init_9 : decode prog_11_method_1_code 9 = .ok (.putfield 9, 3) := by decide +kernel
theorem d_Terms_init_12 : decode prog_11_method_1_code 12 = .ok (.aload_n 0, 1) := by decide +kernel
theorem d_Terms_init_13 : decode prog_11_method_1_code 13 = .ok (.bipush 24, 2) := by decide +kernel
theorem d_Terms_init_15 : decode prog_11_method_1_code 15 = .ok (.newarray .int, 2) := by decide +kernel
theorem d_Terms_init_17 : decode prog_11_method_1_code 17 = .ok (.putfield 15, 3) := by decide +kernel
theorem d_Terms_init_20 : decode prog_11_method_1_code 20 = .ok (.aload_n 0, 1) := by decide +kernel
theorem d_Terms_init_21 : decode prog_11_method_1_code 21 = .ok (.bipush 32, 2) := by decide +kernel
theorem d_Terms_init_23 : decode prog_11_method_1_code 23 = .ok (.newarray .int, 2) := by decide +kernel
theorem d_Terms_init_25 : decode prog_11_method_1_code 25 = .ok (.putfield 18, 3) := by decide +kernel
theorem d_Terms_init_28 : decode prog_11_method_1_code 28 = .ok (.aload_n 0, 1) := by decide +kernel
theorem d_Terms_init_29 : decode prog_11_method_1_code 29 = .ok (.sipush 152, 3) := by decide +kernel
theorem d_Terms_init_32 : decode prog_11_method_1_code 32 = .ok (.newarray .int, 2) := by decide +kernel
theorem d_Terms_init_34 : decode prog_11_method_1_code 34 = .ok (.putfield 21, 3) := by decide +kernel
theorem d_Terms_init_37 : decode prog_11_method_1_code 37 = .ok (.aload_n 0, 1) := by decide +kernel
theorem d_Terms_init_38 : decode prog_11_method_1_code 38 = .ok (.sipush 152, 3) := by decide +kernel
theorem d_Terms_init_41 : decode prog_11_method_1_code 41 = .ok (.newarray .int, 2) := by decide +kernel
theorem d_Terms_init_43 : decode prog_11_method_1_code 43 = .ok (.putfield 24, 3) := by decide +kernel
theorem d_Terms_init_46 : decode prog_11_method_1_code 46 = .ok (.aload_n 0, 1) := by decide +kernel
theorem d_Terms_init_47 : decode prog_11_method_1_code 47 = .ok (.sipush 152, 3) := by decide +kernel
theorem d_Terms_init_50 : decode prog_11_method_1_code 50 = .ok (.newarray .int, 2) := by decide +kernel
theorem d_Terms_init_52 : decode prog_11_method_1_code 52 = .ok (.putfield 27, 3) := by decide +kernel
theorem d_Terms_init_55 : decode prog_11_method_1_code 55 = .ok (.aload_n 0, 1) := by decide +kernel
theorem d_Terms_init_56 : decode prog_11_method_1_code 56 = .ok (.sipush 152, 3) := by decide +kernel
theorem d_Terms_init_59 : decode prog_11_method_1_code 59 = .ok (.newarray .int, 2) := by decide +kernel
theorem d_Terms_init_61 : decode prog_11_method_1_code 61 = .ok (.putfield 30, 3) := by decide +kernel
theorem d_Terms_init_64 : decode prog_11_method_1_code 64 = .ok (.aload_n 0, 1) := by decide +kernel
theorem d_Terms_init_65 : decode prog_11_method_1_code 65 = .ok (.sipush 152, 3) := by decide +kernel
theorem d_Terms_init_68 : decode prog_11_method_1_code 68 = .ok (.newarray .int, 2) := by decide +kernel
theorem d_Terms_init_70 : decode prog_11_method_1_code 70 = .ok (.putfield 33, 3) := by decide +kernel
theorem d_Terms_init_73 : decode prog_11_method_1_code 73 = .ok (.aload_n 0, 1) := by decide +kernel
theorem d_Terms_init_74 : decode prog_11_method_1_code 74 = .ok (.sipush 152, 3) := by decide +kernel
theorem d_Terms_init_77 : decode prog_11_method_1_code 77 = .ok (.newarray .int, 2) := by decide +kernel
theorem d_Terms_init_79 : decode prog_11_method_1_code 79 = .ok (.putfield 36, 3) := by decide +kernel
theorem d_Terms_init_82 : decode prog_11_method_1_code 82 = .ok (.aload_n 0, 1) := by decide +kernel
theorem d_Terms_init_83 : decode prog_11_method_1_code 83 = .ok (.sipush 152, 3) := by decide +kernel
theorem d_Terms_init_86 : decode prog_11_method_1_code 86 = .ok (.newarray .int, 2) := by decide +kernel
theorem d_Terms_init_88 : decode prog_11_method_1_code 88 = .ok (.putfield 39, 3) := by decide +kernel
theorem d_Terms_init_91 : decode prog_11_method_1_code 91 = .ok (.return_, 1) := by decide +kernel
abbrev M_Lens_init : q_M := (⟨"LensPaths", "<init>", "()V"⟩, prog_1_method_1_code, 1, none, "LensPaths", [], true, 4, 81)
theorem d_Lens_init_0 : decode prog_1_method_1_code 0 = .ok (.aload_n 0, 1) := by decide +kernel
theorem d_Lens_init_1 : decode prog_1_method_1_code 1 = .ok (.invokespecial 3, 3) := by decide +kernel
theorem d_Lens_init_4 : decode prog_1_method_1_code 4 = .ok (.aload_n 0, 1) := by decide +kernel
theorem d_Lens_init_5 : decode prog_1_method_1_code 5 = .ok (.new 9, 3) := by decide +kernel
theorem d_Lens_init_8 : decode prog_1_method_1_code 8 = .ok (.dup, 1) := by decide +kernel
theorem d_Lens_init_9 : decode prog_1_method_1_code 9 = .ok (.invokespecial 11, 3) := by decide +kernel
theorem d_Lens_init_12 : decode prog_1_method_1_code 12 = .ok (.putfield 12, 3) := by decide +kernel
theorem d_Lens_init_15 : decode prog_1_method_1_code 15 = .ok (.aload_n 0, 1) := by decide +kernel
theorem d_Lens_init_16 : decode prog_1_method_1_code 16 = .ok (.new 16, 3) := by decide +kernel
theorem d_Lens_init_19 : decode prog_1_method_1_code 19 = .ok (.dup, 1) := by decide +kernel
theorem d_Lens_init_20 : decode prog_1_method_1_code 20 = .ok (.invokespecial 18, 3) := by decide +kernel
theorem d_Lens_init_23 : decode prog_1_method_1_code 23 = .ok (.putfield 19, 3) := by decide +kernel
theorem d_Lens_init_26 : decode prog_1_method_1_code 26 = .ok (.aload_n 0, 1) := by decide +kernel
theorem d_Lens_init_27 : decode prog_1_method_1_code 27 = .ok (.bipush 16, 2) := by decide +kernel
theorem d_Lens_init_29 : decode prog_1_method_1_code 29 = .ok (.anewarray 23, 3) := by decide +kernel
theorem d_Lens_init_32 : decode prog_1_method_1_code 32 = .ok (.putfield 25, 3) := by decide +kernel
theorem d_Lens_init_35 : decode prog_1_method_1_code 35 = .ok (.aload_n 0, 1) := by decide +kernel
theorem d_Lens_init_36 : decode prog_1_method_1_code 36 = .ok (.new 23, 3) := by decide +kernel
theorem d_Lens_init_39 : decode prog_1_method_1_code 39 = .ok (.dup, 1) := by decide +kernel
theorem d_Lens_init_40 : decode prog_1_method_1_code 40 = .ok (.invokespecial 29, 3) := by decide +kernel
theorem d_Lens_init_43 : decode prog_1_method_1_code 43 = .ok (.putfield 30, 3) := by decide +kernel
theorem d_Lens_init_46 : decode prog_1_method_1_code 46 = .ok (.aload_n 0, 1) := by decide +kernel
theorem d_Lens_init_47 : decode prog_1_method_1_code 47 = .ok (.new 34, 3) := by decide +kernel
theorem d_Lens_init_50 : decode prog_1_method_1_code 50 = .ok (.dup, 1) := by decide +kernel
theorem d_Lens_init_51 : decode prog_1_method_1_code 51 = .ok (.invokespecial 36, 3) := by decide +kernel
theorem d_Lens_init_54 : decode prog_1_method_1_code 54 = .ok (.putfield 37, 3) := by decide +kernel
theorem d_Lens_init_57 : decode prog_1_method_1_code 57 = .ok (.aload_n 0, 1) := by decide +kernel
theorem d_Lens_init_58 : decode prog_1_method_1_code 58 = .ok (.new 41, 3) := by decide +kernel
theorem d_Lens_init_61 : decode prog_1_method_1_code 61 = .ok (.dup, 1) := by decide +kernel
theorem d_Lens_init_62 : decode prog_1_method_1_code 62 = .ok (.invokespecial 43, 3) := by decide +kernel
theorem d_Lens_init_65 : decode prog_1_method_1_code 65 = .ok (.putfield 44, 3) := by decide +kernel
theorem d_Lens_init_68 : decode prog_1_method_1_code 68 = .ok (.return_, 1) := by decide +kernel
section CInit
variable {g : q_G} {sz : Nat} {T : q_T} {I : q_I} {R : q_R} {J : q_J}
theorem c_Field_init (a : Nat) : q_Cv g M_Field_init [.ref a] (sz, T, I, R, J) 0 0 (fun h' => h' = (sz, T, I, R, J)) := by
  refine q_C.of (ls0 := [some (.ref a)]) (by decide) rfl (fun _ => rfl) (Nat.le_of_ble_eq_true rfl) rfl ?_
  refine q_aload_n d_Field_init_0 rfl rfl ?_
  refine q_obj d_Field_init_1 w_53 w_30 w_31 (Nat.le_of_ble_eq_true rfl) (Nat.le_of_ble_eq_true rfl) (Nat.le_of_ble_eq_true rfl) ?_
  refine q_vret d_Field_init_4 rfl (by omega) (by omega) ?_
  exact ⟨rfl, rfl⟩
theorem c_Cells_init (a n : Nat) (hT : T a = some (100 + 1, 0)) (ha : a < sz) (hn : n ≤ 1000) : q_Cv g M_Cells_init [.ref a, .int (nI n)] (sz, T, I, R, J) 1 (n * 7) (fun h' => h' = (sz + 1, q_upT T sz (0, n * 7), I, q_upR R a (nI 0) (some sz), J)) := by
  refine q_C.of (ls0 := [some (.ref a), some (.int (nI n))]) (by decide) rfl (fun _ => rfl) (Nat.le_of_ble_eq_true rfl) rfl ?_
  refine q_aload_n d_Cells_init_0 rfl rfl ?_
  refine q_obj d_Cells_init_1 w_186 w_30 w_31 (Nat.le_of_ble_eq_true rfl) (Nat.le_of_ble_eq_true rfl) (Nat.le_of_ble_eq_true rfl) ?_
  refine q_aload_n d_Cells_init_4 rfl rfl ?_
  refine q_iload_n d_Cells_init_5 rfl rfl ?_
  refine q_bipush (v := nI 7) d_Cells_init_6 (by decide) ?_
  first | refine q_imulN d_Cells_init_8 ?_ | refine q_imul d_Cells_init_8 ?_
  refine q_newa (ty := .int) (kd := 0) (N := _) d_Cells_init_9 (Or.inl ⟨rfl, rfl⟩) w_91 rfl (by omega) (by omega) (by omega) ?_
  refine q_putR (ci := 1) (fk := 0) (x := some _) d_Cells_init_11 rfl (Nat.le_of_ble_eq_true rfl) w_187 (Or.inr ⟨rfl, rfl, rfl⟩) (fun _ _ => rfl) rfl rfl (by first | assumption | rfl | (simp (disch := omega) only [q_upT_self, q_upT_ne, q_upR_self, q_upR_nea, q_upR_nk, *]; done) | (simp (disch := omega) only [q_upT_self, q_upT_ne, q_upR_self, q_upR_nea, q_upR_nk, *]; rfl)) ?_
  refine q_vret d_Cells_init_14 rfl (by omega) (by omega) ?_
  exact ⟨rfl, rfl⟩
/-- where a new schema's cells lie: its array f, its fields behind it -/
def s_T (T : q_T) (f i : Nat) : q_T := fun b => if b = f then some (2, 24) else if f < b ∧ b < f + 1 + i then some (100 + 3, 0) else T b
def s_R (R : q_R) (s f i : Nat) : q_R := fun b j => if b = s ∧ j = nI 0 then some f else if b = f ∧ 0 ≤ j.toInt ∧ j.toInt < i then some (f + 1 + j.toInt.toNat) else R b j
theorem c_Schema_init (a : Nat) (hT : T a = some (100 + 6, 0)) (ha : a < sz) : q_Cv g M_Schema_init [.ref a] (sz, T, I, R, J) 25 144 (fun h' => h' = (sz + 25, s_T T sz 24, I, s_R R a sz 24, J)) := by
  refine q_C.of (ls0 := [some (.ref a), none]) (by decide) rfl (fun _ => rfl) (Nat.le_of_ble_eq_true rfl) rfl ?_
  have loop : ∀ (j i : Nat), i + j = 24 → q_V g M_Schema_init 25 144 (1 + i) (24 + 5 * i) (sz + 1 + i, s_T T sz i, I, s_R R a sz i, J) (fun o h' => o = .inl none ∧ h' = (sz + 25, s_T T sz 24, I, s_R R a sz 24, J)) 15 [some (.ref a), some (.int (nI i))] [] := by
    intro j
    induction j with
    | zero =>
      intro i hi
      obtain rfl : i = 24 := by omega
      refine q_iload_n d_Schema_init_15 rfl rfl ?_
      refine q_bipush (v := nI 24) d_Schema_init_16 (by decide) ?_
      refine q_icmp_ge (tgt := 40) d_Schema_init_18 rfl (fun hc => ?_) (fun hc => ?_)
      · refine q_vret d_Schema_init_40 rfl (by omega) (by omega) ?_
        exact ⟨rfl, rfl⟩
      · exact absurd (nI_le (by omega) (by omega)) hc
    | succ j ih =>
      intro i hi
      have hTa : s_T T sz i a = some (100 + 6, 0) := by rw [s_T, if_neg (by omega), if_neg (by omega)]; exact hT
      have hRa : s_R R a sz i a (nI 0) = some sz := by rw [s_R, if_pos ⟨rfl, rfl⟩]
      refine q_iload_n d_Schema_init_15 rfl rfl ?_
      refine q_bipush (v := nI 24) d_Schema_init_16 (by decide) ?_
      refine q_icmp_ge (tgt := 40) d_Schema_init_18 rfl (fun hc => ?_) (fun hc => ?_)
      · exact absurd hc (nI_ge (by omega) (by omega))
      · refine q_aload_n d_Schema_init_21 rfl rfl ?_
        refine q_getR (ci := 6) (fk := 0) d_Schema_init_22 rfl (Nat.le_of_ble_eq_true rfl) w_92 (fun _ _ => rfl) (by first | assumption | rfl | (simp (disch := omega) only [q_upT_self, q_upT_ne, q_upR_self, q_upR_nea, q_upR_nk, *]; done) | (simp (disch := omega) only [q_upT_self, q_upT_ne, q_upR_self, q_upR_nea, q_upR_nk, *]; rfl)) (by first | assumption | rfl | (simp (disch := omega) only [q_upT_self, q_upT_ne, q_upR_self, q_upR_nea, q_upR_nk, *]; done) | (simp (disch := omega) only [q_upT_self, q_upT_ne, q_upR_self, q_upR_nea, q_upR_nk, *]; rfl)) ?_
        refine q_iload_n d_Schema_init_25 rfl rfl ?_
        refine q_newN (ci := 3) (N := 5) d_Schema_init_26 rfl rfl w_47 w_49 w_4 (by omega) (by omega) ?_
        refine q_dup d_Schema_init_29 rfl ?_
        refine q_callINv (M2 := M_Field_init) d_Schema_init_30 ⟨(Nat.le_of_ble_eq_true rfl), (Nat.le_of_ble_eq_true rfl), w_52, w_4, ⟨by decide, by decide⟩, show _ = some 0 by decide +kernel⟩ rfl rfl rfl w_50 w_51 rfl (Nat.le_of_ble_eq_true rfl) (by omega) (by omega) (c_Field_init _) ?_
        rintro _ rfl
        have hTf : q_upT (s_T T sz i) (sz + 1 + i) (100 + 3, 0) sz = some (2, 24) := by rw [q_upT_ne (by omega), s_T, if_pos rfl]
        refine q_aast (kd := 2) (ci := 3) d_Schema_init_33 rfl rfl (Nat.le_of_ble_eq_true rfl) (Nat.le_of_ble_eq_true rfl) (by first | assumption | rfl | (simp (disch := omega) only [q_upT_self, q_upT_ne, q_upR_self, q_upR_nea, q_upR_nk, *]; done) | (simp (disch := omega) only [q_upT_self, q_upT_ne, q_upR_self, q_upR_nea, q_upR_nk, *]; rfl)) (by first | assumption | rfl | (simp (disch := omega) only [q_upT_self, q_upT_ne, q_upR_self, q_upR_nea, q_upR_nk, *]; done) | (simp (disch := omega) only [q_upT_self, q_upT_ne, q_upR_self, q_upR_nea, q_upR_nk, *]; rfl)) (by first | assumption | exact vp_in_nI (by omega) (by omega)) ?_
        first | refine q_iincN d_Schema_init_34 rfl (Nat.le_of_ble_eq_true rfl) (by first | exact q_ok0 | exact q_okI rfl | exact q_okR rfl | exact q_okN rfl) rfl ?_ | refine q_iinc d_Schema_init_34 rfl rfl (Nat.le_of_ble_eq_true rfl) (by first | exact q_ok0 | exact q_okI rfl | exact q_okR rfl | exact q_okN rfl) rfl ?_
        refine q_goto (tgt := 15) d_Schema_init_37 rfl ?_
        have eT : q_upT (s_T T sz i) (sz + 1 + i) (100 + 3, 0) = s_T T sz (i + 1) := by
          funext b
          unfold q_upT s_T
          by_cases h1 : b = sz
          · rw [if_neg (by omega), if_pos h1, if_pos h1]
          · by_cases h2 : b = sz + 1 + i
            · rw [if_pos h2, if_neg h1, if_pos (by omega)]
            · rw [if_neg h2, if_neg h1, if_neg h1]
              by_cases h3 : sz < b ∧ b < sz + 1 + i
              · rw [if_pos h3, if_pos (by omega)]
              · rw [if_neg h3, if_neg (by omega)]
        have eR : q_upR (s_R R a sz i) sz (nI i) (some (sz + 1 + i)) = s_R R a sz (i + 1) := by
          funext b q
          unfold q_upR s_R
          by_cases h1 : b = a ∧ q = nI 0
          · rw [if_neg (by omega), if_pos h1, if_pos h1]
          · by_cases h2 : b = sz ∧ q = nI i
            · obtain ⟨rfl, rfl⟩ := h2
              rw [if_pos ⟨rfl, rfl⟩, if_neg h1, nI_toInt (by omega), if_pos (by omega)]
              rfl
            · rw [if_neg h2, if_neg h1, if_neg h1]
              have h4 : b = sz → q.toInt ≠ i := fun e1 e2 => h2 ⟨e1, Int32.toInt_inj.mp (by rw [e2, nI_toInt (by omega)])⟩
              by_cases h3 : b = sz ∧ 0 ≤ q.toInt ∧ q.toInt < i
              · rw [if_pos h3, if_pos (by omega)]
              · rw [if_neg h3, if_neg (by omega)]
        rw [eT, eR]
        exact ih (i + 1) (by omega)
  refine q_aload_n d_Schema_init_0 rfl rfl ?_
  refine q_obj d_Schema_init_1 w_46 w_30 w_31 (Nat.le_of_ble_eq_true rfl) (Nat.le_of_ble_eq_true rfl) (Nat.le_of_ble_eq_true rfl) ?_
  refine q_aload_n d_Schema_init_4 rfl rfl ?_
  refine q_bipush (v := nI 24) d_Schema_init_5 (by decide) ?_
  refine q_newq (kd := 2) (N := _) d_Schema_init_7 rfl (Nat.le_of_ble_eq_true rfl) (Nat.le_of_ble_eq_true rfl) (Nat.le_of_ble_eq_true rfl) w_47 w_48 rfl (by omega) (by omega) (by omega) ?_
  refine q_putR (ci := 6) (fk := 0) (x := some _) d_Schema_init_10 rfl (Nat.le_of_ble_eq_true rfl) w_92 (Or.inr ⟨rfl, rfl, rfl⟩) (fun _ _ => rfl) rfl rfl (by first | assumption | rfl | (simp (disch := omega) only [q_upT_self, q_upT_ne, q_upR_self, q_upR_nea, q_upR_nk, *]; done) | (simp (disch := omega) only [q_upT_self, q_upT_ne, q_upR_self, q_upR_nea, q_upR_nk, *]; rfl)) ?_
  refine q_iconst (v := nI 0) d_Schema_init_13 (by decide) ?_
  refine q_istore_n d_Schema_init_14 rfl (Nat.le_of_ble_eq_true rfl) (by first | exact q_ok0 | exact q_okI rfl | exact q_okR rfl | exact q_okN rfl) rfl ?_
  have eT : q_upT T sz (2, 24) = s_T T sz 0 := by
    funext b
    unfold q_upT s_T
    by_cases h1 : b = sz
    · rw [if_pos h1, if_pos h1]
    · rw [if_neg h1, if_neg h1, if_neg (by omega)]
  have eR : q_upR R a (nI 0) (some sz) = s_R R a sz 0 := by
    funext b q
    unfold q_upR s_R
    by_cases h1 : b = a ∧ q = nI 0
    · rw [if_pos h1, if_pos h1]
    · rw [if_neg h1, if_neg h1, if_neg (by omega)]
  rw [eT, eR]
  exact loop 24 0 (by omega)
end CInit
