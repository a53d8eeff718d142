/-! translate: numbers, the primitives' own arithmetic, arranging -/
abbrev M_Primitive_defaultNumber : q_M := (⟨"LensPaths$Primitive", "defaultNumber", "()I"⟩, prog_7_method_2_code, 1, (some .int), "LensPaths$Primitive", [], false, 1, 21)
theorem d_Primitive_defaultNumber_0 : decode prog_7_method_2_code 0 = .ok (.aload_n 0, 1) := by decide +kernel
theorem d_Primitive_defaultNumber_1 : decode prog_7_method_2_code 1 = .ok (.getfield 26, 3) := by decide +kernel
theorem d_Primitive_defaultNumber_4 : decode prog_7_method_2_code 4 = .ok (.aload_n 0, 1) := by decide +kernel
theorem d_Primitive_defaultNumber_5 : decode prog_7_method_2_code 5 = .ok (.getfield 30, 3) := by decide +kernel
theorem d_Primitive_defaultNumber_8 : decode prog_7_method_2_code 8 = .ok (.invokestatic 37, 3) := by decide +kernel
theorem d_Primitive_defaultNumber_11 : decode prog_7_method_2_code 11 = .ok (.ireturn, 1) := by decide +kernel
abbrev M_Primitive_admits : q_M := (⟨"LensPaths$Primitive", "admits", "(J)Z"⟩, prog_7_method_3_code, 3, (some .boolean), "LensPaths$Primitive", [], false, 0, 0)
theorem d_Primitive_admits_0 : decode prog_7_method_3_code 0 = .ok (.aload_n 0, 1) := by decide +kernel
theorem d_Primitive_admits_1 : decode prog_7_method_3_code 1 = .ok (.getfield 26, 3) := by decide +kernel
theorem d_Primitive_admits_4 : decode prog_7_method_3_code 4 = .ok (.i2l, 1) := by decide +kernel
theorem d_Primitive_admits_5 : decode prog_7_method_3_code 5 = .ok (.lload_n 1, 1) := by decide +kernel
theorem d_Primitive_admits_6 : decode prog_7_method_3_code 6 = .ok (.lcmp, 1) := by decide +kernel
theorem d_Primitive_admits_7 : decode prog_7_method_3_code 7 = .ok (.ifCond .gt 17, 3) := by decide +kernel
theorem d_Primitive_admits_10 : decode prog_7_method_3_code 10 = .ok (.lload_n 1, 1) := by decide +kernel
theorem d_Primitive_admits_11 : decode prog_7_method_3_code 11 = .ok (.aload_n 0, 1) := by decide +kernel
theorem d_Primitive_admits_12 : decode prog_7_method_3_code 12 = .ok (.getfield 30, 3) := by decide +kernel
theorem d_Primitive_admits_15 : decode prog_7_method_3_code 15 = .ok (.i2l, 1) := by decide +kernel
theorem d_Primitive_admits_16 : decode prog_7_method_3_code 16 = .ok (.lcmp, 1) := by decide +kernel
theorem d_Primitive_admits_17 : decode prog_7_method_3_code 17 = .ok (.ifCond .gt 7, 3) := by decide +kernel
theorem d_Primitive_admits_20 : decode prog_7_method_3_code 20 = .ok (.iconst 1, 1) := by decide +kernel
theorem d_Primitive_admits_21 : decode prog_7_method_3_code 21 = .ok (.goto 4, 3) := by decide +kernel
theorem d_Primitive_admits_24 : decode prog_7_method_3_code 24 = .ok (.iconst 0, 1) := by decide +kernel
theorem d_Primitive_admits_25 : decode prog_7_method_3_code 25 = .ok (.ireturn, 1) := by decide +kernel
abbrev M_Primitive_scaleForth : q_M := (⟨"LensPaths$Primitive", "scaleForth", "(I)I"⟩, prog_7_method_4_code, 2, (some .int), "LensPaths$Primitive", [], false, 1, 25)
theorem d_Primitive_scaleForth_0 : decode prog_7_method_4_code 0 = .ok (.aload_n 0, 1) := by decide +kernel
theorem d_Primitive_scaleForth_1 : decode prog_7_method_4_code 1 = .ok (.getfield 31, 3) := by decide +kernel
theorem d_Primitive_scaleForth_4 : decode prog_7_method_4_code 4 = .ok (.i2l, 1) := by decide +kernel
theorem d_Primitive_scaleForth_5 : decode prog_7_method_4_code 5 = .ok (.iload_n 1, 1) := by decide +kernel
theorem d_Primitive_scaleForth_6 : decode prog_7_method_4_code 6 = .ok (.i2l, 1) := by decide +kernel
theorem d_Primitive_scaleForth_7 : decode prog_7_method_4_code 7 = .ok (.lmul, 1) := by decide +kernel
theorem d_Primitive_scaleForth_8 : decode prog_7_method_4_code 8 = .ok (.aload_n 0, 1) := by decide +kernel
theorem d_Primitive_scaleForth_9 : decode prog_7_method_4_code 9 = .ok (.getfield 34, 3) := by decide +kernel
theorem d_Primitive_scaleForth_12 : decode prog_7_method_4_code 12 = .ok (.i2l, 1) := by decide +kernel
theorem d_Primitive_scaleForth_13 : decode prog_7_method_4_code 13 = .ok (.invokestatic 43, 3) := by decide +kernel
theorem d_Primitive_scaleForth_16 : decode prog_7_method_4_code 16 = .ok (.l2i, 1) := by decide +kernel
theorem d_Primitive_scaleForth_17 : decode prog_7_method_4_code 17 = .ok (.ireturn, 1) := by decide +kernel
abbrev M_Primitive_scaleBack : q_M := (⟨"LensPaths$Primitive", "scaleBack", "(I)I"⟩, prog_7_method_5_code, 4, (some .int), "LensPaths$Primitive", [], false, 1, 25)
theorem d_Primitive_scaleBack_0 : decode prog_7_method_5_code 0 = .ok (.aload_n 0, 1) := by decide +kernel
theorem d_Primitive_scaleBack_1 : decode prog_7_method_5_code 1 = .ok (.getfield 34, 3) := by decide +kernel
theorem d_Primitive_scaleBack_4 : decode prog_7_method_5_code 4 = .ok (.i2l, 1) := by decide +kernel
theorem d_Primitive_scaleBack_5 : decode prog_7_method_5_code 5 = .ok (.iload_n 1, 1) := by decide +kernel
theorem d_Primitive_scaleBack_6 : decode prog_7_method_5_code 6 = .ok (.i2l, 1) := by decide +kernel
theorem d_Primitive_scaleBack_7 : decode prog_7_method_5_code 7 = .ok (.lmul, 1) := by decide +kernel
theorem d_Primitive_scaleBack_8 : decode prog_7_method_5_code 8 = .ok (.aload_n 0, 1) := by decide +kernel
theorem d_Primitive_scaleBack_9 : decode prog_7_method_5_code 9 = .ok (.getfield 31, 3) := by decide +kernel
theorem d_Primitive_scaleBack_12 : decode prog_7_method_5_code 12 = .ok (.i2l, 1) := by decide +kernel
theorem d_Primitive_scaleBack_13 : decode prog_7_method_5_code 13 = .ok (.invokestatic 43, 3) := by decide +kernel
theorem d_Primitive_scaleBack_16 : decode prog_7_method_5_code 16 = .ok (.lstore_n 2, 1) := by decide +kernel
theorem d_Primitive_scaleBack_17 : decode prog_7_method_5_code 17 = .ok (.aload_n 0, 1) := by decide +kernel
theorem d_Primitive_scaleBack_18 : decode prog_7_method_5_code 18 = .ok (.getfield 26, 3) := by decide +kernel
theorem d_Primitive_scaleBack_21 : decode prog_7_method_5_code 21 = .ok (.i2l, 1) := by decide +kernel
theorem d_Primitive_scaleBack_22 : decode prog_7_method_5_code 22 = .ok (.aload_n 0, 1) := by decide +kernel
theorem d_Primitive_scaleBack_23 : decode prog_7_method_5_code 23 = .ok (.getfield 30, 3) := by decide +kernel
theorem d_Primitive_scaleBack_26 : decode prog_7_method_5_code 26 = .ok (.i2l, 1) := by decide +kernel
theorem d_Primitive_scaleBack_27 : decode prog_7_method_5_code 27 = .ok (.lload_n 2, 1) := by decide +kernel
theorem d_Primitive_scaleBack_28 : decode prog_7_method_5_code 28 = .ok (.invokestatic 49, 3) := by decide +kernel
theorem d_Primitive_scaleBack_31 : decode prog_7_method_5_code 31 = .ok (.invokestatic 52, 3) := by decide +kernel
theorem d_Primitive_scaleBack_34 : decode prog_7_method_5_code 34 = .ok (.l2i, 1) := by decide +kernel
theorem d_Primitive_scaleBack_35 : decode prog_7_method_5_code 35 = .ok (.ireturn, 1) := by decide +kernel
abbrev M_Primitive_mapForth : q_M := (⟨"LensPaths$Primitive", "mapForth", "(I)I"⟩, prog_7_method_6_code, 2, (some .int), "LensPaths$Primitive", [], false, 0, 0)
theorem d_Primitive_mapForth_0 : decode prog_7_method_6_code 0 = .ok (.iload_n 1, 1) := by decide +kernel
theorem d_Primitive_mapForth_1 : decode prog_7_method_6_code 1 = .ok (.aload_n 0, 1) := by decide +kernel
theorem d_Primitive_mapForth_2 : decode prog_7_method_6_code 2 = .ok (.getfield 31, 3) := by decide +kernel
theorem d_Primitive_mapForth_5 : decode prog_7_method_6_code 5 = .ok (.if_icmp .ne 10, 3) := by decide +kernel
theorem d_Primitive_mapForth_8 : decode prog_7_method_6_code 8 = .ok (.aload_n 0, 1) := by decide +kernel
theorem d_Primitive_mapForth_9 : decode prog_7_method_6_code 9 = .ok (.getfield 34, 3) := by decide +kernel
theorem d_Primitive_mapForth_12 : decode prog_7_method_6_code 12 = .ok (.goto 4, 3) := by decide +kernel
theorem d_Primitive_mapForth_15 : decode prog_7_method_6_code 15 = .ok (.iload_n 1, 1) := by decide +kernel
theorem d_Primitive_mapForth_16 : decode prog_7_method_6_code 16 = .ok (.ireturn, 1) := by decide +kernel
abbrev M_Cells_arrange : q_M := (⟨"LensPaths$Cells", "arrange", "(I)V"⟩, prog_3_method_12_code, 7, none, "LensPaths$Cells", [], false, 0, 0)
theorem d_Cells_arrange_0 : decode prog_3_method_12_code 0 = .ok (.iload_n 1, 1) := by decide +kernel
theorem d_Cells_arrange_1 : decode prog_3_method_12_code 1 = .ok (.bipush 7, 2) := by decide +kernel
theorem d_Cells_arrange_3 : decode prog_3_method_12_code 3 = .ok (.imul, 1) := by decide +kernel
theorem d_Cells_arrange_4 : decode prog_3_method_12_code 4 = .ok (.iconst 1, 1) := by decide +kernel
theorem d_Cells_arrange_5 : decode prog_3_method_12_code 5 = .ok (.iadd, 1) := by decide +kernel
theorem d_Cells_arrange_6 : decode prog_3_method_12_code 6 = .ok (.istore_n 2, 1) := by decide +kernel
theorem d_Cells_arrange_7 : decode prog_3_method_12_code 7 = .ok (.iload_n 2, 1) := by decide +kernel
theorem d_Cells_arrange_8 : decode prog_3_method_12_code 8 = .ok (.aload_n 0, 1) := by decide +kernel
theorem d_Cells_arrange_9 : decode prog_3_method_12_code 9 = .ok (.getfield 11, 3) := by decide +kernel
theorem d_Cells_arrange_12 : decode prog_3_method_12_code 12 = .ok (.iload_n 1, 1) := by decide +kernel
theorem d_Cells_arrange_13 : decode prog_3_method_12_code 13 = .ok (.bipush 7, 2) := by decide +kernel
theorem d_Cells_arrange_15 : decode prog_3_method_12_code 15 = .ok (.imul, 1) := by decide +kernel
theorem d_Cells_arrange_16 : decode prog_3_method_12_code 16 = .ok (.iaload, 1) := by decide +kernel
theorem d_Cells_arrange_17 : decode prog_3_method_12_code 17 = .ok (.iadd, 1) := by decide +kernel
theorem d_Cells_arrange_18 : decode prog_3_method_12_code 18 = .ok (.istore_n 3, 1) := by decide +kernel
theorem d_Cells_arrange_19 : decode prog_3_method_12_code 19 = .ok (.iload_n 2, 1) := by decide +kernel
theorem d_Cells_arrange_20 : decode prog_3_method_12_code 20 = .ok (.iconst 1, 1) := by decide +kernel
theorem d_Cells_arrange_21 : decode prog_3_method_12_code 21 = .ok (.iadd, 1) := by decide +kernel
theorem d_Cells_arrange_22 : decode prog_3_method_12_code 22 = .ok (.istore 4, 2) := by decide +kernel
theorem d_Cells_arrange_24 : decode prog_3_method_12_code 24 = .ok (.iload 4, 2) := by decide +kernel
theorem d_Cells_arrange_26 : decode prog_3_method_12_code 26 = .ok (.iload_n 3, 1) := by decide +kernel
theorem d_Cells_arrange_27 : decode prog_3_method_12_code 27 = .ok (.if_icmp .ge 73, 3) := by decide +kernel
theorem d_Cells_arrange_30 : decode prog_3_method_12_code 30 = .ok (.aload_n 0, 1) := by decide +kernel
theorem d_Cells_arrange_31 : decode prog_3_method_12_code 31 = .ok (.getfield 11, 3) := by decide +kernel
theorem d_Cells_arrange_34 : decode prog_3_method_12_code 34 = .ok (.iload 4, 2) := by decide +kernel
theorem d_Cells_arrange_36 : decode prog_3_method_12_code 36 = .ok (.iaload, 1) := by decide +kernel
theorem d_Cells_arrange_37 : decode prog_3_method_12_code 37 = .ok (.istore 5, 2) := by decide +kernel
theorem d_Cells_arrange_39 : decode prog_3_method_12_code 39 = .ok (.iload 4, 2) := by decide +kernel
theorem d_Cells_arrange_41 : decode prog_3_method_12_code 41 = .ok (.istore 6, 2) := by decide +kernel
theorem d_Cells_arrange_43 : decode prog_3_method_12_code 43 = .ok (.iload 6, 2) := by decide +kernel
theorem d_Cells_arrange_45 : decode prog_3_method_12_code 45 = .ok (.iload_n 2, 1) := by decide +kernel
theorem d_Cells_arrange_46 : decode prog_3_method_12_code 46 = .ok (.if_icmp .le 39, 3) := by decide +kernel
theorem d_Cells_arrange_49 : decode prog_3_method_12_code 49 = .ok (.aload_n 0, 1) := by decide +kernel
theorem d_Cells_arrange_50 : decode prog_3_method_12_code 50 = .ok (.getfield 11, 3) := by decide +kernel
theorem d_Cells_arrange_53 : decode prog_3_method_12_code 53 = .ok (.iload 6, 2) := by decide +kernel
theorem d_Cells_arrange_55 : decode prog_3_method_12_code 55 = .ok (.iconst 1, 1) := by decide +kernel
theorem d_Cells_arrange_56 : decode prog_3_method_12_code 56 = .ok (.isub, 1) := by decide +kernel
theorem d_Cells_arrange_57 : decode prog_3_method_12_code 57 = .ok (.iaload, 1) := by decide +kernel
theorem d_Cells_arrange_58 : decode prog_3_method_12_code 58 = .ok (.iload 5, 2) := by decide +kernel
theorem d_Cells_arrange_60 : decode prog_3_method_12_code 60 = .ok (.if_icmp .le 25, 3) := by decide +kernel
theorem d_Cells_arrange_63 : decode prog_3_method_12_code 63 = .ok (.aload_n 0, 1) := by decide +kernel
theorem d_Cells_arrange_64 : decode prog_3_method_12_code 64 = .ok (.getfield 11, 3) := by decide +kernel
theorem d_Cells_arrange_67 : decode prog_3_method_12_code 67 = .ok (.iload 6, 2) := by decide +kernel
theorem d_Cells_arrange_69 : decode prog_3_method_12_code 69 = .ok (.aload_n 0, 1) := by decide +kernel
theorem d_Cells_arrange_70 : decode prog_3_method_12_code 70 = .ok (.getfield 11, 3) := by decide +kernel
theorem d_Cells_arrange_73 : decode prog_3_method_12_code 73 = .ok (.iload 6, 2) := by decide +kernel
theorem d_Cells_arrange_75 : decode prog_3_method_12_code 75 = .ok (.iconst 1, 1) := by decide +kernel
theorem d_Cells_arrange_76 : decode prog_3_method_12_code 76 = .ok (.isub, 1) := by decide +kernel
theorem d_Cells_arrange_77 : decode prog_3_method_12_code 77 = .ok (.iaload, 1) := by decide +kernel
theorem d_Cells_arrange_78 : decode prog_3_method_12_code 78 = .ok (.iastore, 1) := by decide +kernel
theorem d_Cells_arrange_79 : decode prog_3_method_12_code 79 = .ok (.iinc 6 (-1), 3) := by decide +kernel
theorem d_Cells_arrange_82 : decode prog_3_method_12_code 82 = .ok (.goto (-39), 3) := by decide +kernel
theorem d_Cells_arrange_85 : decode prog_3_method_12_code 85 = .ok (.aload_n 0, 1) := by decide +kernel
theorem d_Cells_arrange_86 : decode prog_3_method_12_code 86 = .ok (.getfield 11, 3) := by decide +kernel
theorem d_Cells_arrange_89 : decode prog_3_method_12_code 89 = .ok (.iload 6, 2) := by decide +kernel
theorem d_Cells_arrange_91 : decode prog_3_method_12_code 91 = .ok (.iload 5, 2) := by decide +kernel
theorem d_Cells_arrange_93 : decode prog_3_method_12_code 93 = .ok (.iastore, 1) := by decide +kernel
theorem d_Cells_arrange_94 : decode prog_3_method_12_code 94 = .ok (.iinc 4 1, 3) := by decide +kernel
theorem d_Cells_arrange_97 : decode prog_3_method_12_code 97 = .ok (.goto (-73), 3) := by decide +kernel
theorem d_Cells_arrange_100 : decode prog_3_method_12_code 100 = .ok (.return_, 1) := by decide +kernel
section TNum
variable {g : q_G} {sz : Nat} {T : q_T} {I : q_I} {R : q_R} {J : q_J}
theorem z_modI {x : Int32} {a b : Int32} (hb : 0 < b.toInt) (h : x.toInt = a.toInt % b.toInt) : x = z_mod a b := by
  unfold z_mod
  rw [← Int32.toInt_inj, h, z_ofInt]
  have h1 := Int.emod_nonneg a.toInt (show b.toInt ≠ 0 by omega)
  have h2 := Int.emod_lt_of_pos a.toInt hb
  have h3 := (z_bd b).2
  omega
theorem c_Math_floorMod_I {a b : Int32} (hb : 0 < b.toInt) : q_Ci g M_Math_floorMod_I [.int a, .int b] (sz, T, I, R, J) 0 0 (fun r h' => r = z_mod a b ∧ h' = (sz, T, I, R, J)) := by
  have hb0 : ¬ b = 0 := fun z => by rw [z] at hb; exact absurd hb (by decide)
  refine q_C.ofF (ls0 := [some (.int a), some (.int b), none]) x_fmI rfl (by decide) (Nat.le_of_ble_eq_true rfl) rfl ?_
  have e2 : a.toInt % b.toInt = a.toInt - b.toInt * (a.toInt / b.toInt) := Int.emod_def _ _
  obtain ⟨k1, k2, k3⟩ := k_tdiv2 (a := a.toInt) hb
  have h6 := Int.emod_nonneg a.toInt (show b.toInt ≠ 0 by omega)
  have h7 := Int.emod_lt_of_pos a.toInt hb
  have h8 := (z_bd b).2
  have e3 : a.toInt - a.toInt.tdiv b.toInt * b.toInt = a.toInt % b.toInt ∨ a.toInt - a.toInt.tdiv b.toInt * b.toInt = a.toInt % b.toInt - b.toInt := by
    rw [e2]
    by_cases ha : 0 ≤ a.toInt
    · rw [k1 ha, Int.mul_comm]; exact Or.inl rfl
    · by_cases h3 : a.toInt.tdiv b.toInt * b.toInt = a.toInt
      · rw [k2 (by omega) h3, Int.mul_comm]; exact Or.inl rfl
      · rw [k3 (by omega) h3, Int.add_mul, Int.mul_comm]; right; omega
  have e1 : (a - a / b * b).toInt = a.toInt - b.toInt * a.toInt.tdiv b.toInt := by
    rw [Int32.toInt_sub, (k_q32 (a := a) hb).2, k_bm32 (by omega) (by omega), Int.mul_comm b.toInt]
  refine q_iload_n d_Math_floorMod_I_0 rfl rfl ?_
  refine q_iload_n d_Math_floorMod_I_1 rfl rfl ?_
  refine q_irem d_Math_floorMod_I_2 (by assumption) ?_
  refine q_istore_n d_Math_floorMod_I_3 rfl (Nat.le_of_ble_eq_true rfl) (by first | exact q_ok0 | exact q_okI rfl | exact q_okR rfl | exact q_okN rfl) rfl ?_
  refine q_iload_n d_Math_floorMod_I_4 rfl rfl ?_
  refine q_iload_n d_Math_floorMod_I_5 rfl rfl ?_
  refine q_ixor d_Math_floorMod_I_6 ?_
  refine q_if_ge (tgt := 18) d_Math_floorMod_I_7 rfl (fun hc => ?_) (fun hc => ?_)
  · have h1 : ¬ a ^^^ b < 0 := Int32.not_lt.mpr hc
    rw [k_xneg32] at h1
    refine q_iload_n d_Math_floorMod_I_18 rfl rfl ?_
    refine q_iret d_Math_floorMod_I_19 rfl (by omega) (by omega) ?_
    refine ⟨_, rfl, z_modI hb ?_, rfl⟩
    rw [e1, e2, k1 (by omega)]
  · have h1 : a ^^^ b < 0 := Int32.not_le.mp hc
    rw [k_xneg32] at h1
    have ha : a.toInt < 0 := by omega
    refine q_iload_n d_Math_floorMod_I_10 rfl rfl ?_
    refine q_if_eq (tgt := 18) d_Math_floorMod_I_11 rfl (fun hc => ?_) (fun hc => ?_)
    · have hz : (a - a / b * b).toInt = 0 := by
        have : a - a / b * b = 0 := hc
        rw [this]; rfl
      refine q_iload_n d_Math_floorMod_I_18 rfl rfl ?_
      refine q_iret d_Math_floorMod_I_19 rfl (by omega) (by omega) ?_
      refine ⟨_, rfl, z_modI hb ?_, rfl⟩
      have h3 : a.toInt.tdiv b.toInt * b.toInt = a.toInt := by rw [Int.mul_comm]; omega
      rw [e1, e2, k2 ha h3]
    · have hz : (a - a / b * b).toInt ≠ 0 := fun z => hc (Int32.toInt_inj.mp (by rw [z]; rfl))
      refine q_iload_n d_Math_floorMod_I_14 rfl rfl ?_
      refine q_iload_n d_Math_floorMod_I_15 rfl rfl ?_
      first | refine q_iaddN d_Math_floorMod_I_16 ?_ | refine q_iadd d_Math_floorMod_I_16 ?_
      refine q_iret d_Math_floorMod_I_17 rfl (by omega) (by omega) ?_
      refine ⟨_, rfl, z_modI hb ?_, rfl⟩
      have h3 : a.toInt.tdiv b.toInt * b.toInt ≠ a.toInt := by rw [Int.mul_comm]; omega
      have h4 := k3 ha h3
      have h5 : (a - a / b * b).toInt + b.toInt = a.toInt % b.toInt := by
        rw [e1, e2, h4, Int.mul_add]; omega
      rw [Int32.toInt_add, h5, k_bm32 (by omega) (by omega)]
theorem c_Math_min_L (a b : Int64) : q_Cl g M_Math_min_L [.long a, .long b] (sz, T, I, R, J) 0 0 (fun r h' => r.toInt = min a.toInt b.toInt ∧ h' = (sz, T, I, R, J)) := by
  refine q_C.ofF (ls0 := [some (.long a), none, some (.long b), none]) x_min_L rfl (by decide) (Nat.le_of_ble_eq_true rfl) rfl ?_
  refine q_lload_n d_Math_min_L_0 rfl rfl ?_
  refine q_lload_n d_Math_min_L_1 rfl rfl ?_
  refine q_lcmp d_Math_min_L_2 ?_
  refine q_if_gt (tgt := 10) d_Math_min_L_3 rfl (fun hc => ?_) (fun hc => ?_)
  · have h1 := Int64.lt_iff_toInt_lt.mp ((lg_cmp_gt _ _).mp hc)
    refine q_lload_n d_Math_min_L_10 rfl rfl ?_
    refine q_lret d_Math_min_L_11 rfl (by omega) (by omega) ?_
    exact ⟨_, rfl, by omega, rfl⟩
  · have h1 : ¬ b < a := fun z => hc ((lg_cmp_gt _ _).mpr z)
    rw [Int64.lt_iff_toInt_lt] at h1
    refine q_lload_n d_Math_min_L_6 rfl rfl ?_
    refine q_goto (tgt := 11) d_Math_min_L_7 rfl ?_
    refine q_lret d_Math_min_L_11 rfl (by omega) (by omega) ?_
    exact ⟨_, rfl, by omega, rfl⟩
theorem c_Math_max_L (a b : Int64) : q_Cl g M_Math_max_L [.long a, .long b] (sz, T, I, R, J) 0 0 (fun r h' => r.toInt = max a.toInt b.toInt ∧ h' = (sz, T, I, R, J)) := by
  refine q_C.ofF (ls0 := [some (.long a), none, some (.long b), none]) x_max_L rfl (by decide) (Nat.le_of_ble_eq_true rfl) rfl ?_
  refine q_lload_n d_Math_max_L_0 rfl rfl ?_
  refine q_lload_n d_Math_max_L_1 rfl rfl ?_
  refine q_lcmp d_Math_max_L_2 ?_
  refine q_if_lt (tgt := 10) d_Math_max_L_3 rfl (fun hc => ?_) (fun hc => ?_)
  · have h1 := Int64.lt_iff_toInt_lt.mp ((lg_cmp_lt _ _).mp hc)
    refine q_lload_n d_Math_max_L_10 rfl rfl ?_
    refine q_lret d_Math_max_L_11 rfl (by omega) (by omega) ?_
    exact ⟨_, rfl, by omega, rfl⟩
  · have h1 : ¬ a < b := fun z => hc ((lg_cmp_lt _ _).mpr z)
    rw [Int64.lt_iff_toInt_lt] at h1
    refine q_lload_n d_Math_max_L_6 rfl rfl ?_
    refine q_goto (tgt := 11) d_Math_max_L_7 rfl ?_
    refine q_lret d_Math_max_L_11 rfl (by omega) (by omega) ?_
    exact ⟨_, rfl, by omega, rfl⟩
theorem c_Primitive_defaultNumber {p : Nat} {q : KP} (h : k_prm p q T I) : q_Ci g M_Primitive_defaultNumber [.ref p] (sz, T, I, R, J) 0 0 (fun r h' => r = p_near q.lo q.hi ∧ h' = (sz, T, I, R, J)) := by
  have hL := h
  refine q_C.of (ls0 := [some (.ref p)]) (by decide) rfl (by decide) (Nat.le_of_ble_eq_true rfl) rfl ?_
  refine q_aload_n d_Primitive_defaultNumber_0 rfl rfl ?_
  refine q_getI (ci := 4) (fk := 3) d_Primitive_defaultNumber_1 rfl (Nat.le_of_ble_eq_true rfl) w_499 (fun _ _ => rfl) hL.1 ?_
  rw [h.2.2.2.2.1]
  refine q_aload_n d_Primitive_defaultNumber_4 rfl rfl ?_
  refine q_getI (ci := 4) (fk := 4) d_Primitive_defaultNumber_5 rfl (Nat.le_of_ble_eq_true rfl) w_502 (fun _ _ => rfl) hL.1 ?_
  rw [h.2.2.2.2.2.1]
  refine q_callSNi (M2 := M_Lens_nearestToZero) d_Primitive_defaultNumber_8 ⟨(Nat.le_of_ble_eq_true rfl), (Nat.le_of_ble_eq_true rfl), w_728, w_1, ⟨by decide, by decide⟩, show _ = some 2 by decide +kernel⟩ w_946 w_727 rfl (Nat.le_of_ble_eq_true rfl) (by omega) (by omega) (c_Lens_nearestToZero _ _) ?_
  rintro _ _ ⟨rfl, rfl⟩
  refine q_iret d_Primitive_defaultNumber_11 rfl (by omega) (by omega) ?_
  exact ⟨_, rfl, rfl, rfl⟩
theorem c_Primitive_admits {p : Nat} {q : KP} (h : k_prm p q T I) (v : Int64) : q_Ci g M_Primitive_admits [.ref p, .long v] (sz, T, I, R, J) 0 0 (fun r h' => r = p_b (decide (q.lo.toInt ≤ v.toInt ∧ v.toInt ≤ q.hi.toInt)) ∧ h' = (sz, T, I, R, J)) := by
  have hL := h
  refine q_C.of (ls0 := [some (.ref p), some (.long v), none]) (by decide) rfl (by decide) (Nat.le_of_ble_eq_true rfl) rfl ?_
  refine q_aload_n d_Primitive_admits_0 rfl rfl ?_
  refine q_getI (ci := 4) (fk := 3) d_Primitive_admits_1 rfl (Nat.le_of_ble_eq_true rfl) w_499 (fun _ _ => rfl) hL.1 ?_
  rw [h.2.2.2.2.1]
  refine q_i2l d_Primitive_admits_4 rfl ?_
  refine q_lload_n d_Primitive_admits_5 rfl rfl ?_
  refine q_lcmp d_Primitive_admits_6 ?_
  refine q_if_gt (tgt := 24) d_Primitive_admits_7 rfl (fun hc => ?_) (fun hc => ?_)
  · have h1 := Int64.lt_iff_toInt_lt.mp ((lg_cmp_gt _ _).mp hc)
    rw [z_i64] at h1
    refine q_iconst (v := nI 0) d_Primitive_admits_24 (by decide) ?_
    refine q_zret d_Primitive_admits_25 rfl (by first | exact Or.inl rfl | exact Or.inr rfl | assumption) (by omega) (by omega) ?_
    exact ⟨_, rfl, by rw [decide_eq_false (fun z => by omega)]; rfl, rfl⟩
  · have h1 : ¬ v < q.lo.toInt64 := fun z => hc ((lg_cmp_gt _ _).mpr z)
    rw [Int64.lt_iff_toInt_lt, z_i64] at h1
    refine q_lload_n d_Primitive_admits_10 rfl rfl ?_
    refine q_aload_n d_Primitive_admits_11 rfl rfl ?_
    refine q_getI (ci := 4) (fk := 4) d_Primitive_admits_12 rfl (Nat.le_of_ble_eq_true rfl) w_502 (fun _ _ => rfl) hL.1 ?_
    rw [h.2.2.2.2.2.1]
    refine q_i2l d_Primitive_admits_15 rfl ?_
    refine q_lcmp d_Primitive_admits_16 ?_
    refine q_if_gt (tgt := 24) d_Primitive_admits_17 rfl (fun hc => ?_) (fun hc => ?_)
    · have h2 := Int64.lt_iff_toInt_lt.mp ((lg_cmp_gt _ _).mp hc)
      rw [z_i64] at h2
      refine q_iconst (v := nI 0) d_Primitive_admits_24 (by decide) ?_
      refine q_zret d_Primitive_admits_25 rfl (by first | exact Or.inl rfl | exact Or.inr rfl | assumption) (by omega) (by omega) ?_
      exact ⟨_, rfl, by rw [decide_eq_false (fun z => by omega)]; rfl, rfl⟩
    · have h2 : ¬ q.hi.toInt64 < v := fun z => hc ((lg_cmp_gt _ _).mpr z)
      rw [Int64.lt_iff_toInt_lt, z_i64] at h2
      refine q_iconst (v := nI 1) d_Primitive_admits_20 (by decide) ?_
      refine q_goto (tgt := 25) d_Primitive_admits_21 rfl ?_
      refine q_zret d_Primitive_admits_25 rfl (by first | exact Or.inl rfl | exact Or.inr rfl | assumption) (by omega) (by omega) ?_
      exact ⟨_, rfl, by rw [decide_eq_true (by omega)]; rfl, rfl⟩
theorem c_Primitive_scaleForth {p : Nat} {q : KP} (h : k_prm p q T I) (h6 : q.kind = 6) (ha1 : nI 1 ≤ q.a ∧ q.a ≤ nI 1000) (hb1 : nI 1 ≤ q.b) (x : Int32) : q_Ci g M_Primitive_scaleForth [.ref p, .int x] (sz, T, I, R, J) 0 0 (fun r h' => r = z_scf q.a q.b x ∧ h' = (sz, T, I, R, J)) := by
  have hL := h
  have ha := h.2.2.2.2.2.2.1 (by omega) (by omega)
  have hb2 := h.2.2.2.2.2.2.2.1 (by omega) (by omega)
  refine q_C.of (ls0 := [some (.ref p), some (.int x)]) (by decide) rfl (by decide) (Nat.le_of_ble_eq_true rfl) rfl ?_
  refine q_aload_n d_Primitive_scaleForth_0 rfl rfl ?_
  refine q_getI (ci := 4) (fk := 5) d_Primitive_scaleForth_1 rfl (Nat.le_of_ble_eq_true rfl) w_505 (fun _ _ => rfl) hL.1 ?_
  rw [ha]
  refine q_i2l d_Primitive_scaleForth_4 rfl ?_
  refine q_iload_n d_Primitive_scaleForth_5 rfl rfl ?_
  refine q_i2l d_Primitive_scaleForth_6 rfl ?_
  refine q_lmul d_Primitive_scaleForth_7 ?_
  refine q_aload_n d_Primitive_scaleForth_8 rfl rfl ?_
  refine q_getI (ci := 4) (fk := 6) d_Primitive_scaleForth_9 rfl (Nat.le_of_ble_eq_true rfl) w_508 (fun _ _ => rfl) hL.1 ?_
  rw [hb2]
  refine q_i2l d_Primitive_scaleForth_12 rfl ?_
  refine q_callSl (M2 := M_Math_floorDiv_L) d_Primitive_scaleForth_13 ⟨(Nat.le_of_ble_eq_true rfl), (Nat.le_of_ble_eq_true rfl), w_591, w_19, ⟨by decide, by decide⟩, show _ = some 2 by decide +kernel⟩ w_980 w_590 rfl (Nat.le_of_ble_eq_true rfl) (by omega) (by omega) (c_Math_floorDiv_L (z_fdl (x := x) ha1 hb1).2) ?_
  rintro _ _ ⟨rfl, rfl⟩
  refine q_l2i d_Primitive_scaleForth_16 rfl ?_
  refine q_iret d_Primitive_scaleForth_17 rfl (by omega) (by omega) ?_
  exact ⟨_, rfl, by unfold z_scf; rw [z_l2i, (z_fdl ha1 hb1).1], rfl⟩
theorem c_Primitive_scaleBack {p : Nat} {q : KP} (h : k_prm p q T I) (h6 : q.kind = 6) (hb1 : nI 1 ≤ q.b ∧ q.b ≤ nI 1000) (ha1 : nI 1 ≤ q.a) (x : Int32) : q_Ci g M_Primitive_scaleBack [.ref p, .int x] (sz, T, I, R, J) 0 0 (fun r h' => r = z_scb q.a q.b q.lo q.hi x ∧ h' = (sz, T, I, R, J)) := by
  have hL := h
  have ha := h.2.2.2.2.2.2.1 (by omega) (by omega)
  have hb2 := h.2.2.2.2.2.2.2.1 (by omega) (by omega)
  refine q_C.of (ls0 := [some (.ref p), some (.int x), none, none]) (by decide) rfl (by decide) (Nat.le_of_ble_eq_true rfl) rfl ?_
  refine q_aload_n d_Primitive_scaleBack_0 rfl rfl ?_
  refine q_getI (ci := 4) (fk := 6) d_Primitive_scaleBack_1 rfl (Nat.le_of_ble_eq_true rfl) w_508 (fun _ _ => rfl) hL.1 ?_
  rw [hb2]
  refine q_i2l d_Primitive_scaleBack_4 rfl ?_
  refine q_iload_n d_Primitive_scaleBack_5 rfl rfl ?_
  refine q_i2l d_Primitive_scaleBack_6 rfl ?_
  refine q_lmul d_Primitive_scaleBack_7 ?_
  refine q_aload_n d_Primitive_scaleBack_8 rfl rfl ?_
  refine q_getI (ci := 4) (fk := 5) d_Primitive_scaleBack_9 rfl (Nat.le_of_ble_eq_true rfl) w_505 (fun _ _ => rfl) hL.1 ?_
  rw [ha]
  refine q_i2l d_Primitive_scaleBack_12 rfl ?_
  refine q_callSl (M2 := M_Math_floorDiv_L) d_Primitive_scaleBack_13 ⟨(Nat.le_of_ble_eq_true rfl), (Nat.le_of_ble_eq_true rfl), w_591, w_19, ⟨by decide, by decide⟩, show _ = some 2 by decide +kernel⟩ w_980 w_590 rfl (Nat.le_of_ble_eq_true rfl) (by omega) (by omega) (c_Math_floorDiv_L (z_fdl (x := x) hb1 ha1).2) ?_
  rintro _ _ ⟨rfl, rfl⟩
  refine q_lstore_n d_Primitive_scaleBack_16 rfl (Nat.le_of_ble_eq_true rfl) (by first | exact q_ok0 | exact q_okI rfl | exact q_okR rfl | exact q_okN rfl) rfl ?_
  refine q_aload_n d_Primitive_scaleBack_17 rfl rfl ?_
  refine q_getI (ci := 4) (fk := 3) d_Primitive_scaleBack_18 rfl (Nat.le_of_ble_eq_true rfl) w_499 (fun _ _ => rfl) hL.1 ?_
  rw [h.2.2.2.2.1]
  refine q_i2l d_Primitive_scaleBack_21 rfl ?_
  refine q_aload_n d_Primitive_scaleBack_22 rfl rfl ?_
  refine q_getI (ci := 4) (fk := 4) d_Primitive_scaleBack_23 rfl (Nat.le_of_ble_eq_true rfl) w_502 (fun _ _ => rfl) hL.1 ?_
  rw [h.2.2.2.2.2.1]
  refine q_i2l d_Primitive_scaleBack_26 rfl ?_
  refine q_lload_n d_Primitive_scaleBack_27 rfl rfl ?_
  refine q_callSl (M2 := M_Math_min_L) d_Primitive_scaleBack_28 ⟨(Nat.le_of_ble_eq_true rfl), (Nat.le_of_ble_eq_true rfl), w_987, w_19, ⟨by decide, by decide⟩, show _ = some 2 by decide +kernel⟩ w_985 w_986 rfl (Nat.le_of_ble_eq_true rfl) (by omega) (by omega) (c_Math_min_L _ _) ?_
  rintro u _ ⟨hu, rfl⟩
  refine q_callSl (M2 := M_Math_max_L) d_Primitive_scaleBack_31 ⟨(Nat.le_of_ble_eq_true rfl), (Nat.le_of_ble_eq_true rfl), w_990, w_19, ⟨by decide, by decide⟩, show _ = some 2 by decide +kernel⟩ w_988 w_989 rfl (Nat.le_of_ble_eq_true rfl) (by omega) (by omega) (c_Math_max_L _ _) ?_
  rintro v _ ⟨hv, rfl⟩
  refine q_l2i d_Primitive_scaleBack_34 rfl ?_
  refine q_iret d_Primitive_scaleBack_35 rfl (by omega) (by omega) ?_
  refine ⟨_, rfl, ?_, rfl⟩
  unfold z_scb
  rw [z_l2i, hv, hu, (z_fdl hb1 ha1).1, z_i64, z_i64]
theorem c_Primitive_mapForth {p : Nat} {q : KP} (h : k_prm p q T I) (h7 : q.kind = 7) (x : Int32) : q_Ci g M_Primitive_mapForth [.ref p, .int x] (sz, T, I, R, J) 0 0 (fun r h' => r = (if x = q.a then q.b else x) ∧ h' = (sz, T, I, R, J)) := by
  have hL := h
  have ha := h.2.2.2.2.2.2.1 (by omega) (by omega)
  have hb2 := h.2.2.2.2.2.2.2.1 (by omega) (by omega)
  refine q_C.of (ls0 := [some (.ref p), some (.int x)]) (by decide) rfl (by decide) (Nat.le_of_ble_eq_true rfl) rfl ?_
  refine q_iload_n d_Primitive_mapForth_0 rfl rfl ?_
  refine q_aload_n d_Primitive_mapForth_1 rfl rfl ?_
  refine q_getI (ci := 4) (fk := 5) d_Primitive_mapForth_2 rfl (Nat.le_of_ble_eq_true rfl) w_505 (fun _ _ => rfl) hL.1 ?_
  rw [ha]
  refine q_icmp_ne (tgt := 15) d_Primitive_mapForth_5 rfl (fun hc => ?_) (fun hc => ?_)
  · refine q_iload_n d_Primitive_mapForth_15 rfl rfl ?_
    refine q_iret d_Primitive_mapForth_16 rfl (by omega) (by omega) ?_
    exact ⟨_, rfl, by rw [if_neg hc], rfl⟩
  · refine q_aload_n d_Primitive_mapForth_8 rfl rfl ?_
    refine q_getI (ci := 4) (fk := 6) d_Primitive_mapForth_9 rfl (Nat.le_of_ble_eq_true rfl) w_508 (fun _ _ => rfl) hL.1 ?_
    rw [hb2]
    refine q_goto (tgt := 16) d_Primitive_mapForth_12 rfl ?_
    refine q_iret d_Primitive_mapForth_16 rfl (by omega) (by omega) ?_
    exact ⟨_, rfl, by rw [if_pos (by have := hc; simpa using this)], rfl⟩
abbrev S1 (v L : List Int32) (n : Nat) : Prop := L.Perm v ∧ ∀ (i j : Nat) (y z : Int32), i < j → j < n → L[i]? = some y → L[j]? = some z → y ≤ z
abbrev P1 (v L : List Int32) (a n : Nat) : Prop := L.Perm v ∧ (∀ (i j : Nat) (y z : Int32), i < j → j ≤ n → i ≠ a → j ≠ a → L[i]? = some y → L[j]? = some z → y ≤ z) ∧ ∀ (j : Nat) (x z : Int32), a < j → j ≤ n → L[a]? = some x → L[j]? = some z → x ≤ z
theorem kst_C {v L : List Int32} {n : Nat} (h : S1 v L n) : P1 v L n n := ⟨h.1, fun i j y z a b c d e f => h.2 i j y z a (by omega) e f, fun j x z a b => by omega⟩
theorem kst_B {v L : List Int32} {a n : Nat} (h : P1 v L a n) (hs : a = 0 ∨ ∃ y x, L[a - 1]? = some y ∧ L[a]? = some x ∧ y ≤ x) : S1 v L (n + 1) := by
  refine ⟨h.1, fun i j y z hij hj hy hz => ?_⟩
  by_cases hi : i = a
  · subst hi
    exact h.2.2 j y z hij (by omega) hy hz
  by_cases hja : j = a
  · subst hja
    rcases hs with h0 | ⟨y2, x, h1, h2, h3⟩
    · omega
    · rw [hz] at h2
      cases h2
      by_cases hi2 : i = j - 1
      · subst hi2
        rw [hy] at h1
        cases h1
        exact h3
      · exact Int32.le_trans (h.2.1 i (j - 1) y y2 (by omega) (by omega) hi (by omega) hy h1) h3
  exact h.2.1 i j y z hij (by omega) hi hja hy hz
theorem kst_A {v L : List Int32} {a n : Nat} {x y : Int32} (h : P1 v L (a + 1) n) (hn : a + 1 ≤ n) (hx : L[a + 1]? = some x) (hy : L[a]? = some y) (hlt : x < y) : P1 v ((L.set (a + 1) y).set a x) a n := by
  have ha1 := (List.getElem?_eq_some_iff.mp hx)
  have ha0 := (List.getElem?_eq_some_iff.mp hy)
  obtain ⟨l1, e1⟩ := ha1
  obtain ⟨l0, e0⟩ := ha0
  have at0 : ∀ j z, ((L.set (a + 1) y).set a x)[j]? = some z → (j = a ∧ z = x) ∨ (j = a + 1 ∧ z = y) ∨ (j ≠ a ∧ j ≠ a + 1 ∧ L[j]? = some z) := by
    intro j z hz
    rw [List.getElem?_set, List.getElem?_set] at hz
    by_cases h1 : a = j
    · rw [if_pos h1, List.length_set, if_pos (by omega)] at hz
      exact Or.inl ⟨h1.symm, (Option.some.inj hz).symm⟩
    · rw [if_neg h1] at hz
      by_cases h2 : a + 1 = j
      · rw [if_pos h2, if_pos (by omega)] at hz
        exact Or.inr (Or.inl ⟨h2.symm, (Option.some.inj hz).symm⟩)
      · rw [if_neg h2] at hz
        exact Or.inr (Or.inr ⟨fun z => h1 z.symm, fun z => h2 z.symm, hz⟩)
  refine ⟨?_, fun i j u z hij hj hi hja hu hz => ?_, fun j u z hj hjn hu hz => ?_⟩
  · have := List.set_set_perm (as := L) (i := a + 1) (j := a) l1 l0
    rw [e1, e0] at this
    exact this.trans h.1
  · rcases at0 i u hu with ⟨i1, -⟩ | ⟨i1, i2⟩ | ⟨i1, i2, i3⟩
    · exact absurd i1 hi
    · rcases at0 j z hz with ⟨j1, -⟩ | ⟨j1, j2⟩ | ⟨j1, j2, j3⟩
      · exact absurd j1 hja
      · omega
      · rw [i2]
        exact h.2.1 a j y z (by omega) hj (by omega) j2 hy j3
    · rcases at0 j z hz with ⟨j1, -⟩ | ⟨j1, j2⟩ | ⟨j1, j2, j3⟩
      · exact absurd j1 hja
      · rw [j2]
        exact h.2.1 i a u y (by omega) (by omega) i2 (by omega) i3 hy
      · exact h.2.1 i j u z hij hj i2 j2 i3 j3
  · rcases at0 a u hu with ⟨-, i2⟩ | ⟨i1, -⟩ | ⟨i1, -, -⟩
    · rw [i2]
      rcases at0 j z hz with ⟨j1, -⟩ | ⟨j1, j2⟩ | ⟨j1, j2, j3⟩
      · omega
      · rw [j2]; exact Int32.le_of_lt hlt
      · exact h.2.2 j x z (by omega) hjn hx j3
    · omega
    · exact absurd rfl i1
def k_sort (v : List Int32) : List Int32 := v.mergeSort (fun a b => decide (a ≤ b))
theorem kst_D {v L : List Int32} (h : S1 v L L.length) : L = k_sort v := by
  have h1 := List.mergeSort_perm v (fun a b => decide (a ≤ b))
  have h2 : List.Pairwise (fun a b => a ≤ b) (k_sort v) := by
    have := List.pairwise_mergeSort (le := fun a b : Int32 => decide (a ≤ b)) (fun a b c x y => by
      rw [decide_eq_true_iff] at x y ⊢
      exact Int32.le_trans x y) (fun a b => by
      rw [Bool.or_eq_true, decide_eq_true_iff, decide_eq_true_iff]
      exact Int32.le_total a b) v
    exact this.imp (fun z => of_decide_eq_true z)
  refine List.Perm.eq_of_pairwise (le := fun a b => a ≤ b) (fun a b _ _ => Int32.le_antisymm) ?_ h2 (h.1.trans h1.symm)
  rw [List.pairwise_iff_getElem]
  intro i j hi hj hij
  exact h.2 i j _ _ hij hj (List.getElem?_eq_getElem hi) (List.getElem?_eq_getElem hj)
theorem k_sort_len (v : List Int32) : (k_sort v).length = v.length := (List.mergeSort_perm v _).length_eq
theorem k_rw.len {f : Int32 → Int32} {b : Nat} {v w : List Int32} (h : k_rw f b v) (h2 : k_rw f b w) : v = w := by
  obtain ⟨a1, a2, a3⟩ := h
  obtain ⟨b1, b2, b3⟩ := h2
  have hl : v.length = w.length := (nI_eq (by omega) (by omega)).mp (a2.symm.trans b2)
  refine List.ext_getElem? fun i => ?_
  by_cases hi : i < v.length
  · rw [List.getElem?_eq_getElem hi, List.getElem?_eq_getElem (by omega)]
    congr 1
    exact (a3 i _ (List.getElem?_eq_getElem hi)).symm.trans (b3 i _ (List.getElem?_eq_getElem (by omega)))
  · rw [List.getElem?_eq_none (by omega), List.getElem?_eq_none (by omega)]
set_option maxHeartbeats 1000000 in
theorem c_Cells_arrange {c N k : Nat} (hL : q_L 1 (t_Cells N) c T R) (hN : N < 2 ^ 31) (hk : k * 7 + 7 ≤ N) {v : List Int32} (hv : k_rw (I (c + 1)) (k * 7) v) : q_Cv g M_Cells_arrange [.ref c, .int (nI k)] (sz, T, I, R, J) 0 0 (fun h' => ∃ I' : q_I, h' = (sz, T, I', R, J) ∧ (∀ b, b ≠ c + 1 → I' b = I b) ∧ (∀ j, j < k * 7 ∨ k * 7 + 7 ≤ j → j < 2 ^ 31 → I' (c + 1) (nI j) = I (c + 1) (nI j)) ∧ k_rw (I' (c + 1)) (k * 7) (k_sort v)) := by
  have h6 := hv.1
  obtain ⟨st, hst⟩ : ∃ st, st = k * 7 + 1 := ⟨_, rfl⟩
  have outer : ∀ (j n : Nat) (L : List Int32) (I1 : q_I) (mcc msc : Nat) (l5 l6 : Option Value), mcc = 0 → msc = 0 → (n + j = v.length ∧ 1 ≤ n ∨ v.length ≤ n ∧ j = 0) → S1 v L n → (∀ b, b ≠ c + 1 → I1 b = I b) → (∀ j, j < k * 7 ∨ k * 7 + 7 ≤ j → j < 2 ^ 31 → I1 (c + 1) (nI j) = I (c + 1) (nI j)) → k_rw (I1 (c + 1)) (k * 7) L → n ≤ 7 → q_V g M_Cells_arrange 0 0 mcc msc (sz, T, I1, R, J) (fun o h' => o = .inl none ∧ ∃ I' : q_I, h' = (sz, T, I', R, J) ∧ (∀ b, b ≠ c + 1 → I' b = I b) ∧ (∀ j, j < k * 7 ∨ k * 7 + 7 ≤ j → j < 2 ^ 31 → I' (c + 1) (nI j) = I (c + 1) (nI j)) ∧ k_rw (I' (c + 1)) (k * 7) (k_sort v)) 24 [some (.ref c), some (.int (nI k)), some (.int (nI st)), some (.int (nI (st + v.length))), some (.int (nI (st + n))), l5, l6] [] := by
    intro j
    induction j with
    | zero =>
      intro n L I1 mcc msc l5 l6 m1 m2 hn hS i1 i2 i3 hn7
      subst m1 m2
      have hlen := hS.1.length_eq
      have hge : v.length ≤ n := by omega
      refine q_iload d_Cells_arrange_24 rfl ?_
      refine q_iload_n d_Cells_arrange_26 rfl rfl ?_
      refine q_icmp_ge (tgt := 100) d_Cells_arrange_27 rfl (fun hc => ?_) (fun hc => ?_)
      · refine q_vret d_Cells_arrange_100 rfl (by omega) (by omega) ?_
        refine ⟨rfl, I1, rfl, i1, i2, ?_⟩
        have : L = k_sort v := kst_D ⟨hS.1, fun i j y z a b => hS.2 i j y z a (by omega)⟩
        rw [← this]; exact i3
      · exact absurd (by rw [nI_leI (by omega) (by omega)]; omega) hc
    | succ j ih =>
      intro n L I1 mcc msc l5 l6 m1 m2 hn hS i1 i2 i3 hn7
      subst m1 m2
      have hlen := hS.1.length_eq
      obtain ⟨x, hx⟩ : ∃ x, L[n]? = some x := ⟨_, List.getElem?_eq_getElem (by omega)⟩
      have inner : ∀ (a : Nat) (L1 : List Int32) (I2 : q_I) (mcc msc : Nat), mcc = 0 → msc = 0 → a ≤ n → P1 v L1 a n → L1[a]? = some x → (∀ b, b ≠ c + 1 → I2 b = I b) → (∀ j, j < k * 7 ∨ k * 7 + 7 ≤ j → j < 2 ^ 31 → I2 (c + 1) (nI j) = I (c + 1) (nI j)) → I2 (c + 1) (nI (k * 7)) = nI v.length → (∀ i y, i ≠ a → L1[i]? = some y → I2 (c + 1) (nI (st + i)) = y) → q_V g M_Cells_arrange 0 0 mcc msc (sz, T, I2, R, J) (fun o h' => o = .inl none ∧ ∃ I' : q_I, h' = (sz, T, I', R, J) ∧ (∀ b, b ≠ c + 1 → I' b = I b) ∧ (∀ j, j < k * 7 ∨ k * 7 + 7 ≤ j → j < 2 ^ 31 → I' (c + 1) (nI j) = I (c + 1) (nI j)) ∧ k_rw (I' (c + 1)) (k * 7) (k_sort v)) 43 [some (.ref c), some (.int (nI k)), some (.int (nI st)), some (.int (nI (st + v.length))), some (.int (nI (st + n))), some (.int x), some (.int (nI (st + a)))] [] := by
        intro a
        induction a with
        | zero =>
          intro L1 I2 mcc msc m1 m2 han hP hx1 j1 j2 j3 j4
          subst m1 m2
          have hlen1 := hP.1.length_eq
          refine q_iload d_Cells_arrange_43 rfl ?_
          refine q_iload_n d_Cells_arrange_45 rfl rfl ?_
          refine q_icmp_le (tgt := 85) d_Cells_arrange_46 rfl (fun hc => ?_) (fun hc => ?_)
          rotate_left
          · exact absurd (by rw [nI_leI (by omega) (by omega)]; omega) hc
          refine q_aload_n d_Cells_arrange_85 rfl rfl ?_
          refine q_getR (ci := 1) (fk := 0) d_Cells_arrange_86 rfl (Nat.le_of_ble_eq_true rfl) w_187 (fun _ _ => rfl) hL.1 (hL.2 0 _ _ _ rfl).1 ?_
          refine q_iload d_Cells_arrange_89 rfl ?_
          refine q_iload d_Cells_arrange_91 rfl ?_
          refine q_iast d_Cells_arrange_93 (hL.2 0 _ _ _ rfl).2 (by first | assumption | exact vp_in_nI (by omega) (by omega)) ?_
          first | refine q_iincN d_Cells_arrange_94 rfl (Nat.le_of_ble_eq_true rfl) (by first | exact q_ok0 | exact q_okI rfl | exact q_okR rfl | exact q_okN rfl) rfl ?_ | refine q_iinc d_Cells_arrange_94 rfl rfl (Nat.le_of_ble_eq_true rfl) (by first | exact q_ok0 | exact q_okI rfl | exact q_okR rfl | exact q_okN rfl) rfl ?_
          refine q_goto (tgt := 24) d_Cells_arrange_97 rfl ?_
          refine ih (n + 1) L1 _ _ _ _ _ rfl rfl (by omega) (kst_B hP (Or.inl rfl)) (fun b hb => ?_) (fun j hj hj2 => ?_) ⟨by omega, ?_, fun i y hy => ?_⟩ (by omega)
          · funext z; rw [q_upI_nea hb, j1 b hb]
          · rw [q_upI_nk (by omega)]; exact j2 j hj hj2
          · rw [q_upI_nk (by omega), hlen1]; exact j3
          · have hil := (List.getElem?_eq_some_iff.mp hy).1
            by_cases hi0 : i = 0
            · subst hi0
              rw [hx1] at hy
              cases hy
              rw [show k * 7 + 1 + 0 = st + 0 by omega, q_upI_self]
            · rw [q_upI_nk (by omega), show k * 7 + 1 + i = st + i by omega]
              exact j4 i y hi0 hy
        | succ a ih2 =>
          intro L1 I2 mcc msc m1 m2 han hP hx1 j1 j2 j3 j4
          subst m1 m2
          have hlen1 := hP.1.length_eq
          have hal := (List.getElem?_eq_some_iff.mp hx1).1
          obtain ⟨y, hy⟩ : ∃ y, L1[a]? = some y := ⟨_, List.getElem?_eq_getElem (by omega)⟩
          have hya := j4 a y (by omega) hy
          refine q_iload d_Cells_arrange_43 rfl ?_
          refine q_iload_n d_Cells_arrange_45 rfl rfl ?_
          refine q_icmp_le (tgt := 85) d_Cells_arrange_46 rfl (fun hc => ?_) (fun hc => ?_)
          · rw [nI_leI (by omega) (by omega)] at hc
            omega
          have e1 : nI (st + (a + 1)) - nI 1 = nI (st + a) := nI_sb (st + a) 1
          refine q_aload_n d_Cells_arrange_49 rfl rfl ?_
          refine q_getR (ci := 1) (fk := 0) d_Cells_arrange_50 rfl (Nat.le_of_ble_eq_true rfl) w_187 (fun _ _ => rfl) hL.1 (hL.2 0 _ _ _ rfl).1 ?_
          refine q_iload d_Cells_arrange_53 rfl ?_
          refine q_iconst (v := nI 1) d_Cells_arrange_55 (by decide) ?_
          refine q_isub d_Cells_arrange_56 ?_
          rw [e1]
          refine q_iald d_Cells_arrange_57 (hL.2 0 _ _ _ rfl).2 (by first | assumption | exact vp_in_nI (by omega) (by omega)) ?_
          rw [hya]
          refine q_iload d_Cells_arrange_58 rfl ?_
          refine q_icmp_le (tgt := 85) d_Cells_arrange_60 rfl (fun hc => ?_) (fun hc => ?_)
          · refine q_aload_n d_Cells_arrange_85 rfl rfl ?_
            refine q_getR (ci := 1) (fk := 0) d_Cells_arrange_86 rfl (Nat.le_of_ble_eq_true rfl) w_187 (fun _ _ => rfl) hL.1 (hL.2 0 _ _ _ rfl).1 ?_
            refine q_iload d_Cells_arrange_89 rfl ?_
            refine q_iload d_Cells_arrange_91 rfl ?_
            refine q_iast d_Cells_arrange_93 (hL.2 0 _ _ _ rfl).2 (by first | assumption | exact vp_in_nI (by omega) (by omega)) ?_
            first | refine q_iincN d_Cells_arrange_94 rfl (Nat.le_of_ble_eq_true rfl) (by first | exact q_ok0 | exact q_okI rfl | exact q_okR rfl | exact q_okN rfl) rfl ?_ | refine q_iinc d_Cells_arrange_94 rfl rfl (Nat.le_of_ble_eq_true rfl) (by first | exact q_ok0 | exact q_okI rfl | exact q_okR rfl | exact q_okN rfl) rfl ?_
            refine q_goto (tgt := 24) d_Cells_arrange_97 rfl ?_
            refine ih (n + 1) L1 _ _ _ _ _ rfl rfl (by omega) (kst_B hP (Or.inr ⟨y, x, hy, hx1, hc⟩)) (fun b hb => ?_) (fun j hj hj2 => ?_) ⟨by omega, ?_, fun i y2 hy2 => ?_⟩ (by omega)
            · funext z; rw [q_upI_nea hb, j1 b hb]
            · rw [q_upI_nk (by omega)]; exact j2 j hj hj2
            · rw [q_upI_nk (by omega), hlen1]; exact j3
            · have hil := (List.getElem?_eq_some_iff.mp hy2).1
              by_cases hi0 : i = a + 1
              · subst hi0
                rw [hx1] at hy2
                cases hy2
                rw [show k * 7 + 1 + (a + 1) = st + (a + 1) by omega, q_upI_self]
              · rw [q_upI_nk (by omega), show k * 7 + 1 + i = st + i by omega]
                exact j4 i y2 hi0 hy2
          · have hlt : x < y := Int32.not_le.mp hc
            refine q_aload_n d_Cells_arrange_63 rfl rfl ?_
            refine q_getR (ci := 1) (fk := 0) d_Cells_arrange_64 rfl (Nat.le_of_ble_eq_true rfl) w_187 (fun _ _ => rfl) hL.1 (hL.2 0 _ _ _ rfl).1 ?_
            refine q_iload d_Cells_arrange_67 rfl ?_
            refine q_aload_n d_Cells_arrange_69 rfl rfl ?_
            refine q_getR (ci := 1) (fk := 0) d_Cells_arrange_70 rfl (Nat.le_of_ble_eq_true rfl) w_187 (fun _ _ => rfl) hL.1 (hL.2 0 _ _ _ rfl).1 ?_
            refine q_iload d_Cells_arrange_73 rfl ?_
            refine q_iconst (v := nI 1) d_Cells_arrange_75 (by decide) ?_
            refine q_isub d_Cells_arrange_76 ?_
            rw [e1]
            refine q_iald d_Cells_arrange_77 (hL.2 0 _ _ _ rfl).2 (by first | assumption | exact vp_in_nI (by omega) (by omega)) ?_
            rw [hya]
            refine q_iast d_Cells_arrange_78 (hL.2 0 _ _ _ rfl).2 (by first | assumption | exact vp_in_nI (by omega) (by omega)) ?_
            refine q_iinc (v := nI (st + a)) d_Cells_arrange_79 rfl (by rw [show Int32.ofInt (-1) = -1 by decide]; exact pk_m1 (st + a)) (Nat.le_of_ble_eq_true rfl) (by first | exact q_ok0 | exact q_okI rfl) rfl ?_
            refine q_goto (tgt := 43) d_Cells_arrange_82 rfl ?_
            refine ih2 ((L1.set (a + 1) y).set a x) _ _ _ rfl rfl (by omega) (kst_A hP han hx1 hy hlt) ?_ (fun b hb => ?_) (fun j hj hj2 => ?_) ?_ (fun i y2 hi hy2 => ?_)
            · rw [List.getElem?_set, if_pos rfl, List.length_set, if_pos (by omega)]
            · funext z; rw [q_upI_nea hb, j1 b hb]
            · rw [q_upI_nk (by omega)]; exact j2 j hj hj2
            · rw [q_upI_nk (by omega)]; exact j3
            · rw [List.getElem?_set, if_neg (fun z => hi z.symm), List.getElem?_set] at hy2
              by_cases hia : a + 1 = i
              · rw [if_pos hia, if_pos (by omega)] at hy2
                cases hy2
                rw [← hia, q_upI_self]
              · rw [if_neg hia] at hy2
                have hil := (List.getElem?_eq_some_iff.mp hy2).1
                rw [q_upI_nk (by omega)]
                exact j4 i y2 (fun z => hia z.symm) hy2
      refine q_iload d_Cells_arrange_24 rfl ?_
      refine q_iload_n d_Cells_arrange_26 rfl rfl ?_
      refine q_icmp_ge (tgt := 100) d_Cells_arrange_27 rfl (fun hc => ?_) (fun hc => ?_)
      · rw [nI_leI (by omega) (by omega)] at hc
        omega
      refine q_aload_n d_Cells_arrange_30 rfl rfl ?_
      refine q_getR (ci := 1) (fk := 0) d_Cells_arrange_31 rfl (Nat.le_of_ble_eq_true rfl) w_187 (fun _ _ => rfl) hL.1 (hL.2 0 _ _ _ rfl).1 ?_
      refine q_iload d_Cells_arrange_34 rfl ?_
      refine q_iald d_Cells_arrange_36 (hL.2 0 _ _ _ rfl).2 (by first | assumption | exact vp_in_nI (by omega) (by omega)) ?_
      rw [show I1 (c + 1) (nI (st + n)) = x by rw [hst]; exact i3.2.2 n x hx]
      refine q_istore d_Cells_arrange_37 (Nat.le_of_ble_eq_true rfl) (by first | exact q_ok0 | exact q_okI rfl | exact q_okR rfl | exact q_okN rfl) rfl ?_
      refine q_iload d_Cells_arrange_39 rfl ?_
      refine q_istore d_Cells_arrange_41 (Nat.le_of_ble_eq_true rfl) (by first | exact q_ok0 | exact q_okI rfl | exact q_okR rfl | exact q_okN rfl) rfl ?_
      exact inner n L I1 _ _ rfl rfl (Nat.le_refl _) (kst_C hS) hx i1 i2 (by rw [i3.2.1, hlen]) (fun i y _ hy => by rw [hst]; exact i3.2.2 i y hy)
  refine q_C.of (ls0 := [some (.ref c), some (.int (nI k)), none, none, none, none, none]) (by decide) rfl (by decide) (Nat.le_of_ble_eq_true rfl) rfl ?_
  refine q_iload_n d_Cells_arrange_0 rfl rfl ?_
  refine q_bipush (v := nI 7) d_Cells_arrange_1 (by decide) ?_
  first | refine q_imulN d_Cells_arrange_3 ?_ | refine q_imul d_Cells_arrange_3 ?_
  refine q_iconst (v := nI 1) d_Cells_arrange_4 (by decide) ?_
  first | refine q_iaddN d_Cells_arrange_5 ?_ | refine q_iadd d_Cells_arrange_5 ?_
  refine q_istore_n d_Cells_arrange_6 rfl (Nat.le_of_ble_eq_true rfl) (by first | exact q_ok0 | exact q_okI rfl | exact q_okR rfl | exact q_okN rfl) rfl ?_
  refine q_iload_n d_Cells_arrange_7 rfl rfl ?_
  refine q_aload_n d_Cells_arrange_8 rfl rfl ?_
  refine q_getR (ci := 1) (fk := 0) d_Cells_arrange_9 rfl (Nat.le_of_ble_eq_true rfl) w_187 (fun _ _ => rfl) hL.1 (hL.2 0 _ _ _ rfl).1 ?_
  refine q_iload_n d_Cells_arrange_12 rfl rfl ?_
  refine q_bipush (v := nI 7) d_Cells_arrange_13 (by decide) ?_
  first | refine q_imulN d_Cells_arrange_15 ?_ | refine q_imul d_Cells_arrange_15 ?_
  refine q_iald d_Cells_arrange_16 (hL.2 0 _ _ _ rfl).2 (by first | assumption | exact vp_in_nI (by omega) (by omega)) ?_
  rw [hv.2.1]
  first | refine q_iaddN d_Cells_arrange_17 ?_ | refine q_iadd d_Cells_arrange_17 ?_
  refine q_istore_n d_Cells_arrange_18 rfl (Nat.le_of_ble_eq_true rfl) (by first | exact q_ok0 | exact q_okI rfl | exact q_okR rfl | exact q_okN rfl) rfl ?_
  refine q_iload_n d_Cells_arrange_19 rfl rfl ?_
  refine q_iconst (v := nI 1) d_Cells_arrange_20 (by decide) ?_
  first | refine q_iaddN d_Cells_arrange_21 ?_ | refine q_iadd d_Cells_arrange_21 ?_
  refine q_istore d_Cells_arrange_22 (Nat.le_of_ble_eq_true rfl) (by first | exact q_ok0 | exact q_okI rfl | exact q_okR rfl | exact q_okN rfl) rfl ?_
  rw [← hst]
  exact outer (v.length - 1) 1 v I _ _ _ _ rfl rfl (by omega) ⟨List.Perm.refl _, fun i j y z a b => by omega⟩ (fun _ _ => rfl) (fun _ _ _ => rfl) hv (by omega)
end TNum
