/-! the reference's small ones about numbers and places -/
abbrev M_Model_floor : q_M := (⟨"LensPathsModel", "floor", "(JJ)J"⟩, prog_14_method_22_code, 6, (some .long), "LensPathsModel", [], false, 0, 0)
theorem d_Model_floor_0 : decode prog_14_method_22_code 0 = .ok (.lload_n 0, 1) := by decide +kernel
theorem d_Model_floor_1 : decode prog_14_method_22_code 1 = .ok (.lload_n 2, 1) := by decide +kernel
theorem d_Model_floor_2 : decode prog_14_method_22_code 2 = .ok (.ldiv, 1) := by decide +kernel
theorem d_Model_floor_3 : decode prog_14_method_22_code 3 = .ok (.lstore 4, 2) := by decide +kernel
theorem d_Model_floor_5 : decode prog_14_method_22_code 5 = .ok (.lload 4, 2) := by decide +kernel
theorem d_Model_floor_7 : decode prog_14_method_22_code 7 = .ok (.lload_n 2, 1) := by decide +kernel
theorem d_Model_floor_8 : decode prog_14_method_22_code 8 = .ok (.lmul, 1) := by decide +kernel
theorem d_Model_floor_9 : decode prog_14_method_22_code 9 = .ok (.lload_n 0, 1) := by decide +kernel
theorem d_Model_floor_10 : decode prog_14_method_22_code 10 = .ok (.lcmp, 1) := by decide +kernel
theorem d_Model_floor_11 : decode prog_14_method_22_code 11 = .ok (.ifCond .le 10, 3) := by decide +kernel
theorem d_Model_floor_14 : decode prog_14_method_22_code 14 = .ok (.lload 4, 2) := by decide +kernel
theorem d_Model_floor_16 : decode prog_14_method_22_code 16 = .ok (.lconst 1, 1) := by decide +kernel
theorem d_Model_floor_17 : decode prog_14_method_22_code 17 = .ok (.lsub, 1) := by decide +kernel
theorem d_Model_floor_18 : decode prog_14_method_22_code 18 = .ok (.goto 5, 3) := by decide +kernel
theorem d_Model_floor_21 : decode prog_14_method_22_code 21 = .ok (.lload 4, 2) := by decide +kernel
theorem d_Model_floor_23 : decode prog_14_method_22_code 23 = .ok (.lreturn, 1) := by decide +kernel
abbrev M_Model_isInt : q_M := (⟨"LensPathsModel", "isInt", "(J)Z"⟩, prog_14_method_23_code, 2, (some .boolean), "LensPathsModel", [], false, 0, 0)
theorem d_Model_isInt_0 : decode prog_14_method_23_code 0 = .ok (.lload_n 0, 1) := by decide +kernel
theorem d_Model_isInt_1 : decode prog_14_method_23_code 1 = .ok (.ldc2_w 146, 3) := by decide +kernel
theorem d_Model_isInt_4 : decode prog_14_method_23_code 4 = .ok (.lcmp, 1) := by decide +kernel
theorem d_Model_isInt_5 : decode prog_14_method_23_code 5 = .ok (.ifCond .lt 15, 3) := by decide +kernel
theorem d_Model_isInt_8 : decode prog_14_method_23_code 8 = .ok (.lload_n 0, 1) := by decide +kernel
theorem d_Model_isInt_9 : decode prog_14_method_23_code 9 = .ok (.ldc2_w 148, 3) := by decide +kernel
theorem d_Model_isInt_12 : decode prog_14_method_23_code 12 = .ok (.lcmp, 1) := by decide +kernel
theorem d_Model_isInt_13 : decode prog_14_method_23_code 13 = .ok (.ifCond .gt 7, 3) := by decide +kernel
theorem d_Model_isInt_16 : decode prog_14_method_23_code 16 = .ok (.iconst 1, 1) := by decide +kernel
theorem d_Model_isInt_17 : decode prog_14_method_23_code 17 = .ok (.goto 4, 3) := by decide +kernel
theorem d_Model_isInt_20 : decode prog_14_method_23_code 20 = .ok (.iconst 0, 1) := by decide +kernel
theorem d_Model_isInt_21 : decode prog_14_method_23_code 21 = .ok (.ireturn, 1) := by decide +kernel
abbrev M_Model_pathBehind : q_M := (⟨"LensPathsModel", "pathBehind", "(III)I"⟩, prog_14_method_26_code, 5, (some .int), "LensPathsModel", [], false, 1, 23)
theorem d_Model_pathBehind_0 : decode prog_14_method_26_code 0 = .ok (.iload_n 2, 1) := by decide +kernel
theorem d_Model_pathBehind_1 : decode prog_14_method_26_code 1 = .ok (.invokestatic 132, 3) := by decide +kernel
theorem d_Model_pathBehind_4 : decode prog_14_method_26_code 4 = .ok (.istore 4, 2) := by decide +kernel
theorem d_Model_pathBehind_6 : decode prog_14_method_26_code 6 = .ok (.iload_n 1, 1) := by decide +kernel
theorem d_Model_pathBehind_7 : decode prog_14_method_26_code 7 = .ok (.ifCond .ne 22, 3) := by decide +kernel
theorem d_Model_pathBehind_10 : decode prog_14_method_26_code 10 = .ok (.iload_n 2, 1) := by decide +kernel
theorem d_Model_pathBehind_11 : decode prog_14_method_26_code 11 = .ok (.iload 4, 2) := by decide +kernel
theorem d_Model_pathBehind_13 : decode prog_14_method_26_code 13 = .ok (.iconst 1, 1) := by decide +kernel
theorem d_Model_pathBehind_14 : decode prog_14_method_26_code 14 = .ok (.isub, 1) := by decide +kernel
theorem d_Model_pathBehind_15 : decode prog_14_method_26_code 15 = .ok (.invokestatic 104, 3) := by decide +kernel
theorem d_Model_pathBehind_18 : decode prog_14_method_26_code 18 = .ok (.iload 4, 2) := by decide +kernel
theorem d_Model_pathBehind_20 : decode prog_14_method_26_code 20 = .ok (.iconst 1, 1) := by decide +kernel
theorem d_Model_pathBehind_21 : decode prog_14_method_26_code 21 = .ok (.isub, 1) := by decide +kernel
theorem d_Model_pathBehind_22 : decode prog_14_method_26_code 22 = .ok (.iload_n 3, 1) := by decide +kernel
theorem d_Model_pathBehind_23 : decode prog_14_method_26_code 23 = .ok (.iconst 1, 1) := by decide +kernel
theorem d_Model_pathBehind_24 : decode prog_14_method_26_code 24 = .ok (.iadd, 1) := by decide +kernel
theorem d_Model_pathBehind_25 : decode prog_14_method_26_code 25 = .ok (.invokestatic 150, 3) := by decide +kernel
theorem d_Model_pathBehind_28 : decode prog_14_method_26_code 28 = .ok (.ireturn, 1) := by decide +kernel
theorem d_Model_pathBehind_29 : decode prog_14_method_26_code 29 = .ok (.iload_n 1, 1) := by decide +kernel
theorem d_Model_pathBehind_30 : decode prog_14_method_26_code 30 = .ok (.iconst 4, 1) := by decide +kernel
theorem d_Model_pathBehind_31 : decode prog_14_method_26_code 31 = .ok (.if_icmp .ne 25, 3) := by decide +kernel
theorem d_Model_pathBehind_34 : decode prog_14_method_26_code 34 = .ok (.iload_n 2, 1) := by decide +kernel
theorem d_Model_pathBehind_35 : decode prog_14_method_26_code 35 = .ok (.iload 4, 2) := by decide +kernel
theorem d_Model_pathBehind_37 : decode prog_14_method_26_code 37 = .ok (.iconst 2, 1) := by decide +kernel
theorem d_Model_pathBehind_38 : decode prog_14_method_26_code 38 = .ok (.isub, 1) := by decide +kernel
theorem d_Model_pathBehind_39 : decode prog_14_method_26_code 39 = .ok (.invokestatic 104, 3) := by decide +kernel
theorem d_Model_pathBehind_42 : decode prog_14_method_26_code 42 = .ok (.iload 4, 2) := by decide +kernel
theorem d_Model_pathBehind_44 : decode prog_14_method_26_code 44 = .ok (.iconst 2, 1) := by decide +kernel
theorem d_Model_pathBehind_45 : decode prog_14_method_26_code 45 = .ok (.isub, 1) := by decide +kernel
theorem d_Model_pathBehind_46 : decode prog_14_method_26_code 46 = .ok (.iload_n 2, 1) := by decide +kernel
theorem d_Model_pathBehind_47 : decode prog_14_method_26_code 47 = .ok (.iload 4, 2) := by decide +kernel
theorem d_Model_pathBehind_49 : decode prog_14_method_26_code 49 = .ok (.invokestatic 154, 3) := by decide +kernel
theorem d_Model_pathBehind_52 : decode prog_14_method_26_code 52 = .ok (.invokestatic 150, 3) := by decide +kernel
theorem d_Model_pathBehind_55 : decode prog_14_method_26_code 55 = .ok (.ireturn, 1) := by decide +kernel
theorem d_Model_pathBehind_56 : decode prog_14_method_26_code 56 = .ok (.iload_n 2, 1) := by decide +kernel
theorem d_Model_pathBehind_57 : decode prog_14_method_26_code 57 = .ok (.ireturn, 1) := by decide +kernel
abbrev M_Model_besides : q_M := (⟨"LensPathsModel", "besides", "(II)I"⟩, prog_14_method_27_code, 3, (some .int), "LensPathsModel", [], false, 1, 23)
theorem d_Model_besides_0 : decode prog_14_method_27_code 0 = .ok (.iload_n 0, 1) := by decide +kernel
theorem d_Model_besides_1 : decode prog_14_method_27_code 1 = .ok (.invokestatic 132, 3) := by decide +kernel
theorem d_Model_besides_4 : decode prog_14_method_27_code 4 = .ok (.istore_n 2, 1) := by decide +kernel
theorem d_Model_besides_5 : decode prog_14_method_27_code 5 = .ok (.iload_n 0, 1) := by decide +kernel
theorem d_Model_besides_6 : decode prog_14_method_27_code 6 = .ok (.iload_n 2, 1) := by decide +kernel
theorem d_Model_besides_7 : decode prog_14_method_27_code 7 = .ok (.iconst 1, 1) := by decide +kernel
theorem d_Model_besides_8 : decode prog_14_method_27_code 8 = .ok (.isub, 1) := by decide +kernel
theorem d_Model_besides_9 : decode prog_14_method_27_code 9 = .ok (.invokestatic 104, 3) := by decide +kernel
theorem d_Model_besides_12 : decode prog_14_method_27_code 12 = .ok (.iload_n 2, 1) := by decide +kernel
theorem d_Model_besides_13 : decode prog_14_method_27_code 13 = .ok (.iconst 1, 1) := by decide +kernel
theorem d_Model_besides_14 : decode prog_14_method_27_code 14 = .ok (.isub, 1) := by decide +kernel
theorem d_Model_besides_15 : decode prog_14_method_27_code 15 = .ok (.iload_n 1, 1) := by decide +kernel
theorem d_Model_besides_16 : decode prog_14_method_27_code 16 = .ok (.iconst 1, 1) := by decide +kernel
theorem d_Model_besides_17 : decode prog_14_method_27_code 17 = .ok (.iadd, 1) := by decide +kernel
theorem d_Model_besides_18 : decode prog_14_method_27_code 18 = .ok (.invokestatic 150, 3) := by decide +kernel
theorem d_Model_besides_21 : decode prog_14_method_27_code 21 = .ok (.ireturn, 1) := by decide +kernel
abbrev M_Model_move : q_M := (⟨"LensPathsModel", "move", "(II)V"⟩, prog_14_method_16_code, 7, none, "LensPathsModel", [], false, 2, 43)
theorem d_Model_move_0 : decode prog_14_method_16_code 0 = .ok (.iload_n 1, 1) := by decide +kernel
theorem d_Model_move_1 : decode prog_14_method_16_code 1 = .ok (.invokestatic 132, 3) := by decide +kernel
theorem d_Model_move_4 : decode prog_14_method_16_code 4 = .ok (.istore_n 3, 1) := by decide +kernel
theorem d_Model_move_5 : decode prog_14_method_16_code 5 = .ok (.iload_n 2, 1) := by decide +kernel
theorem d_Model_move_6 : decode prog_14_method_16_code 6 = .ok (.invokestatic 132, 3) := by decide +kernel
theorem d_Model_move_9 : decode prog_14_method_16_code 9 = .ok (.istore 4, 2) := by decide +kernel
theorem d_Model_move_11 : decode prog_14_method_16_code 11 = .ok (.iconst 0, 1) := by decide +kernel
theorem d_Model_move_12 : decode prog_14_method_16_code 12 = .ok (.istore 5, 2) := by decide +kernel
theorem d_Model_move_14 : decode prog_14_method_16_code 14 = .ok (.iload 5, 2) := by decide +kernel
theorem d_Model_move_16 : decode prog_14_method_16_code 16 = .ok (.aload_n 0, 1) := by decide +kernel
theorem d_Model_move_17 : decode prog_14_method_16_code 17 = .ok (.getfield 108, 3) := by decide +kernel
theorem d_Model_move_20 : decode prog_14_method_16_code 20 = .ok (.if_icmp .ge 74, 3) := by decide +kernel
theorem d_Model_move_23 : decode prog_14_method_16_code 23 = .ok (.aload_n 0, 1) := by decide +kernel
theorem d_Model_move_24 : decode prog_14_method_16_code 24 = .ok (.getfield 53, 3) := by decide +kernel
theorem d_Model_move_27 : decode prog_14_method_16_code 27 = .ok (.iload 5, 2) := by decide +kernel
theorem d_Model_move_29 : decode prog_14_method_16_code 29 = .ok (.iaload, 1) := by decide +kernel
theorem d_Model_move_30 : decode prog_14_method_16_code 30 = .ok (.iload_n 1, 1) := by decide +kernel
theorem d_Model_move_31 : decode prog_14_method_16_code 31 = .ok (.iload_n 3, 1) := by decide +kernel
theorem d_Model_move_32 : decode prog_14_method_16_code 32 = .ok (.invokestatic 135, 3) := by decide +kernel
theorem d_Model_move_35 : decode prog_14_method_16_code 35 = .ok (.ifCond .eq 53, 3) := by decide +kernel
theorem d_Model_move_38 : decode prog_14_method_16_code 38 = .ok (.iload_n 3, 1) := by decide +kernel
theorem d_Model_move_39 : decode prog_14_method_16_code 39 = .ok (.iconst 4, 1) := by decide +kernel
theorem d_Model_move_40 : decode prog_14_method_16_code 40 = .ok (.if_icmp .ne 7, 3) := by decide +kernel
theorem d_Model_move_43 : decode prog_14_method_16_code 43 = .ok (.iconst 0, 1) := by decide +kernel
theorem d_Model_move_44 : decode prog_14_method_16_code 44 = .ok (.goto 15, 3) := by decide +kernel
theorem d_Model_move_47 : decode prog_14_method_16_code 47 = .ok (.aload_n 0, 1) := by decide +kernel
theorem d_Model_move_48 : decode prog_14_method_16_code 48 = .ok (.getfield 53, 3) := by decide +kernel
theorem d_Model_move_51 : decode prog_14_method_16_code 51 = .ok (.iload 5, 2) := by decide +kernel
theorem d_Model_move_53 : decode prog_14_method_16_code 53 = .ok (.iaload, 1) := by decide +kernel
theorem d_Model_move_54 : decode prog_14_method_16_code 54 = .ok (.bipush 7, 2) := by decide +kernel
theorem d_Model_move_56 : decode prog_14_method_16_code 56 = .ok (.iload_n 3, 1) := by decide +kernel
theorem d_Model_move_57 : decode prog_14_method_16_code 57 = .ok (.imul, 1) := by decide +kernel
theorem d_Model_move_58 : decode prog_14_method_16_code 58 = .ok (.ishr, 1) := by decide +kernel
theorem d_Model_move_59 : decode prog_14_method_16_code 59 = .ok (.istore 6, 2) := by decide +kernel
theorem d_Model_move_61 : decode prog_14_method_16_code 61 = .ok (.aload_n 0, 1) := by decide +kernel
theorem d_Model_move_62 : decode prog_14_method_16_code 62 = .ok (.getfield 53, 3) := by decide +kernel
theorem d_Model_move_65 : decode prog_14_method_16_code 65 = .ok (.iload 5, 2) := by decide +kernel
theorem d_Model_move_67 : decode prog_14_method_16_code 67 = .ok (.iload 4, 2) := by decide +kernel
theorem d_Model_move_69 : decode prog_14_method_16_code 69 = .ok (.iconst 4, 1) := by decide +kernel
theorem d_Model_move_70 : decode prog_14_method_16_code 70 = .ok (.if_icmp .ne 7, 3) := by decide +kernel
theorem d_Model_move_73 : decode prog_14_method_16_code 73 = .ok (.iload_n 2, 1) := by decide +kernel
theorem d_Model_move_74 : decode prog_14_method_16_code 74 = .ok (.goto 13, 3) := by decide +kernel
theorem d_Model_move_77 : decode prog_14_method_16_code 77 = .ok (.iload_n 2, 1) := by decide +kernel
theorem d_Model_move_78 : decode prog_14_method_16_code 78 = .ok (.iload 6, 2) := by decide +kernel
theorem d_Model_move_80 : decode prog_14_method_16_code 80 = .ok (.bipush 7, 2) := by decide +kernel
theorem d_Model_move_82 : decode prog_14_method_16_code 82 = .ok (.iload 4, 2) := by decide +kernel
theorem d_Model_move_84 : decode prog_14_method_16_code 84 = .ok (.imul, 1) := by decide +kernel
theorem d_Model_move_85 : decode prog_14_method_16_code 85 = .ok (.ishl, 1) := by decide +kernel
theorem d_Model_move_86 : decode prog_14_method_16_code 86 = .ok (.ior, 1) := by decide +kernel
theorem d_Model_move_87 : decode prog_14_method_16_code 87 = .ok (.iastore, 1) := by decide +kernel
theorem d_Model_move_88 : decode prog_14_method_16_code 88 = .ok (.iinc 5 1, 3) := by decide +kernel
theorem d_Model_move_91 : decode prog_14_method_16_code 91 = .ok (.goto (-77), 3) := by decide +kernel
theorem d_Model_move_94 : decode prog_14_method_16_code 94 = .ok (.return_, 1) := by decide +kernel
section MBits
variable {g : q_G} {sz m : Nat} {T : q_T} {I : q_I} {R : q_R} {J : q_J}
theorem q_ldc2 {M : q_M} {mc ms c k : Nat} {h : q_H} {Q : q_O → q_H → Prop} {pc : Nat} {ls : List (Option Value)} {st : List Value} {idx : Nat} {v : Int64} (d : decode (q_bc M) pc = .ok (.ldc2_w idx, 3)) (hw : Cond.constantLong (q_ow M) idx v ∈ q_tb) (kk : q_V g M mc ms c k h Q (pc + 3) ls (.long v :: st)) : q_V g M mc ms c k h Q pc ls st :=
  fun p e R s m args below meth cd C H locs la hC hS hl => W.ldc2 C.1 C.2.1 C.own (C.wd hw) rfl d (kk p e R s m args below meth cd C H locs la hC hS hl)
theorem c_Model_floor {a b : Int64} (hb : ¬ b = 0) : q_Cl g M_Model_floor [.long a, .long b] (sz, T, I, R, J) 0 0 (fun r h' => r = k_flr a b ∧ h' = (sz, T, I, R, J)) := by
  refine q_C.of (ls0 := [some (.long a), none, some (.long b), none, none, none]) (by decide) rfl (by decide) (Nat.le_of_ble_eq_true rfl) rfl ?_
  refine q_lload_n d_Model_floor_0 rfl rfl ?_
  refine q_lload_n d_Model_floor_1 rfl rfl ?_
  refine q_ldiv d_Model_floor_2 (by assumption) ?_
  refine q_lstore d_Model_floor_3 (Nat.le_of_ble_eq_true rfl) (by first | exact q_ok0 | exact q_okI rfl | exact q_okR rfl | exact q_okN rfl) rfl ?_
  refine q_lload d_Model_floor_5 rfl ?_
  refine q_lload_n d_Model_floor_7 rfl rfl ?_
  refine q_lmul d_Model_floor_8 ?_
  refine q_lload_n d_Model_floor_9 rfl rfl ?_
  refine q_lcmp d_Model_floor_10 ?_
  refine q_if_le (tgt := 21) d_Model_floor_11 rfl (fun hc => ?_) (fun hc => ?_)
  · have h1 : ¬ a < a / b * b := Int64.not_lt.mpr ((lg_cmp_le _ _).mp hc)
    refine q_lload d_Model_floor_21 rfl ?_
    refine q_lret d_Model_floor_23 rfl (by omega) (by omega) ?_
    exact ⟨_, rfl, by unfold k_flr; rw [if_neg h1], rfl⟩
  · have h1 : a < a / b * b := by
      have := fun z => hc ((lg_cmp_le _ _).mpr z)
      exact Int64.not_le.mp this
    refine q_lload d_Model_floor_14 rfl ?_
    refine q_lconst (v := lN 1) d_Model_floor_16 (by decide) ?_
    refine q_lsub d_Model_floor_17 ?_
    refine q_goto (tgt := 23) d_Model_floor_18 rfl ?_
    refine q_lret d_Model_floor_23 rfl (by omega) (by omega) ?_
    exact ⟨_, rfl, by unfold k_flr; rw [if_pos h1]; rfl, rfl⟩
theorem c_Model_isInt (v : Int64) : q_Ci g M_Model_isInt [.long v] (sz, T, I, R, J) 0 0 (fun r h' => r = p_b (decide (-2147483648 ≤ v.toInt ∧ v.toInt ≤ 2147483647)) ∧ h' = (sz, T, I, R, J)) := by
  have e1 : (-2147483648 : Int64).toInt = -2147483648 := by decide
  have e2 : (2147483647 : Int64).toInt = 2147483647 := by decide
  refine q_C.of (ls0 := [some (.long v), none]) (by decide) rfl (by decide) (Nat.le_of_ble_eq_true rfl) rfl ?_
  refine q_lload_n d_Model_isInt_0 rfl rfl ?_
  refine q_ldc2 d_Model_isInt_1 w_1380 ?_
  refine q_lcmp d_Model_isInt_4 ?_
  refine q_if_lt (tgt := 20) d_Model_isInt_5 rfl (fun hc => ?_) (fun hc => ?_)
  · have h1 := (lg_cmp_lt _ _).mp hc
    rw [Int64.lt_iff_toInt_lt, e1] at h1
    refine q_iconst (v := nI 0) d_Model_isInt_20 (by decide) ?_
    refine q_zret d_Model_isInt_21 rfl (by first | exact Or.inl rfl | exact Or.inr rfl | assumption) (by omega) (by omega) ?_
    exact ⟨_, rfl, by rw [decide_eq_false (by omega)]; rfl, rfl⟩
  · have h1 : ¬ v < -2147483648 := fun z => hc ((lg_cmp_lt _ _).mpr z)
    rw [Int64.lt_iff_toInt_lt, e1] at h1
    refine q_lload_n d_Model_isInt_8 rfl rfl ?_
    refine q_ldc2 d_Model_isInt_9 w_1381 ?_
    refine q_lcmp d_Model_isInt_12 ?_
    refine q_if_gt (tgt := 20) d_Model_isInt_13 rfl (fun hc => ?_) (fun hc => ?_)
    · have h2 := (lg_cmp_gt _ _).mp hc
      rw [Int64.lt_iff_toInt_lt, e2] at h2
      refine q_iconst (v := nI 0) d_Model_isInt_20 (by decide) ?_
      refine q_zret d_Model_isInt_21 rfl (by first | exact Or.inl rfl | exact Or.inr rfl | assumption) (by omega) (by omega) ?_
      exact ⟨_, rfl, by rw [decide_eq_false (by omega)]; rfl, rfl⟩
    · have h2 : ¬ 2147483647 < v := fun z => hc ((lg_cmp_gt _ _).mpr z)
      rw [Int64.lt_iff_toInt_lt, e2] at h2
      refine q_iconst (v := nI 1) d_Model_isInt_16 (by decide) ?_
      refine q_goto (tgt := 21) d_Model_isInt_17 rfl ?_
      refine q_zret d_Model_isInt_21 rfl (by first | exact Or.inl rfl | exact Or.inr rfl | assumption) (by omega) (by omega) ?_
      exact ⟨_, rfl, by rw [decide_eq_true (by omega)]; rfl, rfl⟩
theorem c_Model_besides {l : List Nat} {n : Nat} (hl : k_ok 4 l) (h0 : l ≠ []) : q_Ci g M_Model_besides [.int (nI (k_path l)), .int (nI n)] (sz, T, I, R, J) 0 0 (fun r h' => r = nI (k_path (l.dropLast ++ [n + 1])) ∧ h' = (sz, T, I, R, J)) := by
  have h4 := hl.1
  have h1 := List.length_pos_iff.mpr h0
  have hd : l.dropLast.length = l.length - 1 := List.length_dropLast
  refine q_C.of (ls0 := [some (.int (nI (k_path l))), some (.int (nI n)), none]) (by decide) rfl (by decide) (Nat.le_of_ble_eq_true rfl) rfl ?_
  refine q_iload_n d_Model_besides_0 rfl rfl ?_
  refine q_callSi (M2 := M_Model_depth) d_Model_besides_1 ⟨(Nat.le_of_ble_eq_true rfl), (Nat.le_of_ble_eq_true rfl), w_1255, w_10, ⟨by decide, by decide⟩, show _ = some 1 by decide +kernel⟩ w_1253 w_1254 rfl (Nat.le_of_ble_eq_true rfl) (by omega) (by omega) (c_Model_depth _) ?_
  rintro _ _ ⟨rfl, rfl⟩
  rw [k_of_path hl, show p_dep 0 (some l) = nI (0 + l.length) from rfl, Nat.zero_add (l.length)]
  refine q_istore_n d_Model_besides_4 rfl (Nat.le_of_ble_eq_true rfl) (by first | exact q_ok0 | exact q_okI rfl | exact q_okR rfl | exact q_okN rfl) rfl ?_
  refine q_iload_n d_Model_besides_5 rfl rfl ?_
  refine q_iload_n d_Model_besides_6 rfl rfl ?_
  refine q_iconst (v := nI 1) d_Model_besides_7 (by decide) ?_
  refine q_isub d_Model_besides_8 ?_
  rw [pk_sub (by omega)]
  refine q_callSi (M2 := M_Model_cutTo) d_Model_besides_9 ⟨(Nat.le_of_ble_eq_true rfl), (Nat.le_of_ble_eq_true rfl), w_1258, w_10, ⟨by decide, by decide⟩, show _ = some 2 by decide +kernel⟩ w_1256 w_1257 rfl (Nat.le_of_ble_eq_true rfl) (by omega) (by omega) (c_Model_cutTo hl (by omega)) ?_
  rintro _ _ ⟨rfl, rfl⟩
  rw [k_of_take]
  refine q_iload_n d_Model_besides_12 rfl rfl ?_
  refine q_iconst (v := nI 1) d_Model_besides_13 (by decide) ?_
  refine q_isub d_Model_besides_14 ?_
  rw [pk_sub (by omega), ← hd]
  refine q_iload_n d_Model_besides_15 rfl rfl ?_
  refine q_iconst (v := nI 1) d_Model_besides_16 (by decide) ?_
  first | refine q_iaddN d_Model_besides_17 ?_ | refine q_iadd d_Model_besides_17 ?_
  refine q_callSi (M2 := M_Model_inside) d_Model_besides_18 ⟨(Nat.le_of_ble_eq_true rfl), (Nat.le_of_ble_eq_true rfl), w_1304, w_10, ⟨by decide, by decide⟩, show _ = some 3 by decide +kernel⟩ w_1302 w_1303 rfl (Nat.le_of_ble_eq_true rfl) (by omega) (by omega) (c_Model_inside (k_ok_drop hl) (by omega) (n + 1)) ?_
  rintro _ _ ⟨rfl, rfl⟩
  refine q_iret d_Model_besides_21 rfl (by omega) (by omega) ?_
  exact ⟨_, rfl, rfl, rfl⟩
theorem c_Model_pathBehind0 {l : List Nat} {n : Nat} (hl : k_ok 4 l) (h0 : l ≠ []) : q_Ci g M_Model_pathBehind [.ref m, .int (nI 0), .int (nI (k_path l)), .int (nI n)] (sz, T, I, R, J) 0 0 (fun r h' => r = nI (k_path (l.dropLast ++ [n + 1])) ∧ h' = (sz, T, I, R, J)) := by
  have h4 := hl.1
  have h1 := List.length_pos_iff.mpr h0
  have hd : l.dropLast.length = l.length - 1 := List.length_dropLast
  refine q_C.of (ls0 := [some (.ref m), some (.int (nI 0)), some (.int (nI (k_path l))), some (.int (nI n)), none]) (by decide) rfl (by decide) (Nat.le_of_ble_eq_true rfl) rfl ?_
  refine q_iload_n d_Model_pathBehind_0 rfl rfl ?_
  refine q_callSi (M2 := M_Model_depth) d_Model_pathBehind_1 ⟨(Nat.le_of_ble_eq_true rfl), (Nat.le_of_ble_eq_true rfl), w_1255, w_10, ⟨by decide, by decide⟩, show _ = some 1 by decide +kernel⟩ w_1253 w_1254 rfl (Nat.le_of_ble_eq_true rfl) (by omega) (by omega) (c_Model_depth _) ?_
  rintro _ _ ⟨rfl, rfl⟩
  rw [k_of_path hl, show p_dep 0 (some l) = nI (0 + l.length) from rfl, Nat.zero_add (l.length)]
  refine q_istore d_Model_pathBehind_4 (Nat.le_of_ble_eq_true rfl) (by first | exact q_ok0 | exact q_okI rfl | exact q_okR rfl | exact q_okN rfl) rfl ?_
  refine q_iload_n d_Model_pathBehind_6 rfl rfl ?_
  refine q_if_ne (tgt := 29) d_Model_pathBehind_7 rfl (fun hc => ?_) (fun hc => ?_)
  · exact absurd rfl hc
  refine q_iload_n d_Model_pathBehind_10 rfl rfl ?_
  refine q_iload d_Model_pathBehind_11 rfl ?_
  refine q_iconst (v := nI 1) d_Model_pathBehind_13 (by decide) ?_
  refine q_isub d_Model_pathBehind_14 ?_
  rw [pk_sub (by omega)]
  refine q_callSi (M2 := M_Model_cutTo) d_Model_pathBehind_15 ⟨(Nat.le_of_ble_eq_true rfl), (Nat.le_of_ble_eq_true rfl), w_1258, w_10, ⟨by decide, by decide⟩, show _ = some 2 by decide +kernel⟩ w_1256 w_1257 rfl (Nat.le_of_ble_eq_true rfl) (by omega) (by omega) (c_Model_cutTo hl (by omega)) ?_
  rintro _ _ ⟨rfl, rfl⟩
  rw [k_of_take]
  refine q_iload d_Model_pathBehind_18 rfl ?_
  refine q_iconst (v := nI 1) d_Model_pathBehind_20 (by decide) ?_
  refine q_isub d_Model_pathBehind_21 ?_
  rw [pk_sub (by omega), ← hd]
  refine q_iload_n d_Model_pathBehind_22 rfl rfl ?_
  refine q_iconst (v := nI 1) d_Model_pathBehind_23 (by decide) ?_
  first | refine q_iaddN d_Model_pathBehind_24 ?_ | refine q_iadd d_Model_pathBehind_24 ?_
  refine q_callSi (M2 := M_Model_inside) d_Model_pathBehind_25 ⟨(Nat.le_of_ble_eq_true rfl), (Nat.le_of_ble_eq_true rfl), w_1304, w_10, ⟨by decide, by decide⟩, show _ = some 3 by decide +kernel⟩ w_1302 w_1303 rfl (Nat.le_of_ble_eq_true rfl) (by omega) (by omega) (c_Model_inside (k_ok_drop hl) (by omega) (n + 1)) ?_
  rintro _ _ ⟨rfl, rfl⟩
  refine q_iret d_Model_pathBehind_28 rfl (by omega) (by omega) ?_
  exact ⟨_, rfl, rfl, rfl⟩
theorem c_Model_pathBehind4 {l : List Nat} {a : Int32} (hl : k_ok 4 l) (h2 : 2 ≤ l.length) : q_Ci g M_Model_pathBehind [.ref m, .int (nI 4), .int (nI (k_path l)), .int a] (sz, T, I, R, J) 0 0 (fun r h' => r = nI (k_path (k_lif l)) ∧ h' = (sz, T, I, R, J)) := by
  have h4 := hl.1
  have h0 : l ≠ [] := fun z => by rw [z] at h2; exact absurd h2 (by decide)
  have hd : l.dropLast.dropLast.length = l.length - 2 := by rw [List.length_dropLast, List.length_dropLast]; omega
  have ht : l.take (l.length - 2) = l.dropLast.dropLast := by
    rw [List.dropLast_eq_take, List.dropLast_eq_take, List.take_take, List.length_take]
    congr 1
    omega
  refine q_C.of (ls0 := [some (.ref m), some (.int (nI 4)), some (.int (nI (k_path l))), some (.int a), none]) (by decide) rfl (by decide) (Nat.le_of_ble_eq_true rfl) rfl ?_
  refine q_iload_n d_Model_pathBehind_0 rfl rfl ?_
  refine q_callSi (M2 := M_Model_depth) d_Model_pathBehind_1 ⟨(Nat.le_of_ble_eq_true rfl), (Nat.le_of_ble_eq_true rfl), w_1255, w_10, ⟨by decide, by decide⟩, show _ = some 1 by decide +kernel⟩ w_1253 w_1254 rfl (Nat.le_of_ble_eq_true rfl) (by omega) (by omega) (c_Model_depth _) ?_
  rintro _ _ ⟨rfl, rfl⟩
  rw [k_of_path hl, show p_dep 0 (some l) = nI (0 + l.length) from rfl, Nat.zero_add (l.length)]
  refine q_istore d_Model_pathBehind_4 (Nat.le_of_ble_eq_true rfl) (by first | exact q_ok0 | exact q_okI rfl | exact q_okR rfl | exact q_okN rfl) rfl ?_
  refine q_iload_n d_Model_pathBehind_6 rfl rfl ?_
  refine q_if_ne (tgt := 29) d_Model_pathBehind_7 rfl (fun hc => ?_) (fun hc => ?_)
  rotate_left
  · exact absurd hc (by decide)
  refine q_iload_n d_Model_pathBehind_29 rfl rfl ?_
  refine q_iconst (v := nI 4) d_Model_pathBehind_30 (by decide) ?_
  refine q_icmp_ne (tgt := 56) d_Model_pathBehind_31 rfl (fun hc => ?_) (fun hc => ?_)
  · exact absurd rfl hc
  refine q_iload_n d_Model_pathBehind_34 rfl rfl ?_
  refine q_iload d_Model_pathBehind_35 rfl ?_
  refine q_iconst (v := nI 2) d_Model_pathBehind_37 (by decide) ?_
  refine q_isub d_Model_pathBehind_38 ?_
  rw [pk_sub (by omega)]
  refine q_callSi (M2 := M_Model_cutTo) d_Model_pathBehind_39 ⟨(Nat.le_of_ble_eq_true rfl), (Nat.le_of_ble_eq_true rfl), w_1258, w_10, ⟨by decide, by decide⟩, show _ = some 2 by decide +kernel⟩ w_1256 w_1257 rfl (Nat.le_of_ble_eq_true rfl) (by omega) (by omega) (c_Model_cutTo hl (by omega)) ?_
  rintro _ _ ⟨rfl, rfl⟩
  rw [ht]
  refine q_iload d_Model_pathBehind_42 rfl ?_
  refine q_iconst (v := nI 2) d_Model_pathBehind_44 (by decide) ?_
  refine q_isub d_Model_pathBehind_45 ?_
  rw [pk_sub (by omega), ← hd]
  refine q_iload_n d_Model_pathBehind_46 rfl rfl ?_
  refine q_iload d_Model_pathBehind_47 rfl ?_
  refine q_callSi (M2 := M_Model_lastName) d_Model_pathBehind_49 ⟨(Nat.le_of_ble_eq_true rfl), (Nat.le_of_ble_eq_true rfl), w_1307, w_10, ⟨by decide, by decide⟩, show _ = some 2 by decide +kernel⟩ w_1305 w_1306 rfl (Nat.le_of_ble_eq_true rfl) (by omega) (by omega) (c_Model_lastName hl h0) ?_
  rintro _ _ ⟨rfl, rfl⟩
  refine q_callSi (M2 := M_Model_inside) d_Model_pathBehind_52 ⟨(Nat.le_of_ble_eq_true rfl), (Nat.le_of_ble_eq_true rfl), w_1304, w_10, ⟨by decide, by decide⟩, show _ = some 3 by decide +kernel⟩ w_1302 w_1303 rfl (Nat.le_of_ble_eq_true rfl) (by omega) (by omega) (c_Model_inside (k_ok_drop (k_ok_drop hl)) (by omega) (l.getLast h0)) ?_
  rintro _ _ ⟨rfl, rfl⟩
  refine q_iret d_Model_pathBehind_55 rfl (by omega) (by omega) ?_
  exact ⟨_, rfl, by rw [k_lif_eq h0], rfl⟩
/-- a place and what is in it -/
theorem k_path_mv {m9 r : List Nat} (h : k_ok 4 (m9 ++ r)) (h3 : m9.length < 4) : nI (k_path m9) ||| (nI (k_path r) <<< (nI (7 * m9.length) &&& 31)) = nI (k_path (m9 ++ r)) := by
  have hm : k_ok m9.length m9 := ⟨Nat.le_refl _, fun n hn => h.2 n (List.mem_append_left _ hn)⟩
  have hlt : k_path m9 < 2 ^ (7 * m9.length) := by
    rw [Nat.pow_mul, show (2 : Nat) ^ 7 = 128 from rfl]
    exact k_path_lt hm
  rw [k_shl _ (by omega), Int32.or_comm, k_orA hlt, k_path_app, Nat.pow_mul, show (2 : Nat) ^ 7 = 128 from rfl]
  congr 1
  rw [Nat.mul_comm, Nat.add_comm]
theorem k_mw.setp {k : Nat} {M : List KF} {f : KF} {l : List Nat} {I2 : q_I} (h : k_mw m M I) (hf : M[k]? = some f) (hI : ∀ b, b ≠ m + 14 → I2 b = I b) (hp : I2 (m + 14) (nI k) = nI (k_path l)) (ho : ∀ j, j < 26 → j ≠ k → I2 (m + 14) (nI j) = I (m + 14) (nI j)) : k_mw m (M.set k (l, f.2)) I2 := by
  have hk := (List.getElem?_eq_some_iff.mp hf).1
  have h26 := h.2.1
  refine ⟨by rw [hI m (by omega), List.length_set]; exact h.1, by rw [List.length_set]; exact h26, fun i e he => ?_⟩
  rw [List.getElem?_set] at he
  rw [hI (m + 15) (by omega), hI (m + 16) (by omega), hI (m + 17) (by omega)]
  by_cases hik : k = i
  · rw [if_pos hik, if_pos hk] at he
    cases he
    subst hik
    exact ⟨hp, (h.2.2 k f hf).2⟩
  · rw [if_neg hik] at he
    have hi := (List.getElem?_eq_some_iff.mp he).1
    rw [ho i (by omega) (fun z => hik z.symm)]
    exact h.2.2 i e he
set_option maxHeartbeats 1000000 in
theorem c_Model_move {M : List KF} {l1 l2 : List Nat} (hL : q_L 11 t_Model m T R) (hM : k_mw m M I) (hok : k_okf M) (h1 : k_ok 4 l1) (h2 : k_ok 4 l2) (hn : ∀ f ∈ M, k_ok 4 (k_mn l1 l2 f.1)) : q_Cv g M_Model_move [.ref m, .int (nI (k_path l1)), .int (nI (k_path l2))] (sz, T, I, R, J) 0 0 (fun h' => ∃ I' : q_I, h' = (sz, T, I', R, J) ∧ (∀ b, b ≠ m + 14 → I' b = I b) ∧ k_mw m (M.map (k_mf l1 l2)) I') := by
  have h14 := h1.1
  have h24 := h2.1
  have h26 := hM.2.1
  have loop : ∀ (j k : Nat) (I2 : q_I) (mcc msc : Nat), mcc = 0 → msc = 0 → k + j = M.length → (∀ b, b ≠ m + 14 → I2 b = I b) → k_mw m ((M.take k).map (k_mf l1 l2) ++ M.drop k) I2 → ∀ l6, q_V g M_Model_move 0 0 mcc msc (sz, T, I2, R, J) (fun o h' => o = .inl none ∧ ∃ I' : q_I, h' = (sz, T, I', R, J) ∧ (∀ b, b ≠ m + 14 → I' b = I b) ∧ k_mw m (M.map (k_mf l1 l2)) I') 14 [some (.ref m), some (.int (nI (k_path l1))), some (.int (nI (k_path l2))), some (.int (nI l1.length)), some (.int (nI l2.length)), some (.int (nI k)), l6] [] := by
    intro j
    induction j with
    | zero =>
      intro k I2 mcc msc m1 m2 hk p1 p2 l6
      subst m1 m2
      obtain rfl : k = M.length := by omega
      rw [List.take_length, List.drop_length, List.append_nil] at p2
      refine q_iload d_Model_move_14 rfl ?_
      refine q_aload_n d_Model_move_16 rfl rfl ?_
      refine q_getI (ci := 11) (fk := 18) d_Model_move_17 rfl (Nat.le_of_ble_eq_true rfl) w_1122 (fun _ _ => rfl) hL.1 ?_
      rw [p1 m (by omega), hM.1]
      refine q_icmp_ge (tgt := 94) d_Model_move_20 rfl (fun hc => ?_) (fun hc => ?_)
      · refine q_vret d_Model_move_94 rfl (by omega) (by omega) ?_
        exact ⟨rfl, I2, rfl, p1, p2⟩
      · exact absurd (Int32.le_refl _) hc
    | succ j ih =>
      intro k I2 mcc msc m1 m2 hk p1 p2 l6
      subst m1 m2
      obtain ⟨f, hf⟩ : ∃ f, M[k]? = some f := ⟨_, List.getElem?_eq_getElem (by omega)⟩
      have hfk := (hok f (List.mem_of_getElem? hf)).1
      have hfn := hn f (List.mem_of_getElem? hf)
      have hlt : ((M.take k).map (k_mf l1 l2)).length = k := by rw [List.length_map, List.length_take]; omega
      have hdr : M.drop k = f :: M.drop (k + 1) := by
        obtain ⟨hq, he⟩ := List.getElem?_eq_some_iff.mp hf
        rw [List.drop_eq_getElem_cons hq, he]
      have hcur : ((M.take k).map (k_mf l1 l2) ++ M.drop k)[k]? = some f := by
        rw [List.getElem?_append_right (by omega), hlt, Nat.sub_self, hdr]; rfl
      have htk : M.take (k + 1) = M.take k ++ [f] := by rw [List.take_add_one, hf]; rfl
      have w1 := (p2.2.2 k f hcur).1
      have next : ∀ (I3 : q_I) (mcc msc : Nat), mcc = 0 → msc = 0 → (∀ b, b ≠ m + 14 → I3 b = I b) → k_mw m ((M.take (k + 1)).map (k_mf l1 l2) ++ M.drop (k + 1)) I3 → ∀ l6, q_V g M_Model_move 0 0 mcc msc (sz, T, I3, R, J) (fun o h' => o = .inl none ∧ ∃ I' : q_I, h' = (sz, T, I', R, J) ∧ (∀ b, b ≠ m + 14 → I' b = I b) ∧ k_mw m (M.map (k_mf l1 l2)) I') 88 [some (.ref m), some (.int (nI (k_path l1))), some (.int (nI (k_path l2))), some (.int (nI l1.length)), some (.int (nI l2.length)), some (.int (nI k)), l6] [] := by
        intro I3 mcc msc m1 m2 q1 q2 l6
        subst m1 m2
        first | refine q_iincN d_Model_move_88 rfl (Nat.le_of_ble_eq_true rfl) (by first | exact q_ok0 | exact q_okI rfl | exact q_okR rfl | exact q_okN rfl) rfl ?_ | refine q_iinc d_Model_move_88 rfl rfl (Nat.le_of_ble_eq_true rfl) (by first | exact q_ok0 | exact q_okI rfl | exact q_okR rfl | exact q_okN rfl) rfl ?_
        refine q_goto (tgt := 14) d_Model_move_91 rfl ?_
        exact ih (k + 1) I3 _ _ rfl rfl (by omega) q1 q2 l6
      refine q_iload d_Model_move_14 rfl ?_
      refine q_aload_n d_Model_move_16 rfl rfl ?_
      refine q_getI (ci := 11) (fk := 18) d_Model_move_17 rfl (Nat.le_of_ble_eq_true rfl) w_1122 (fun _ _ => rfl) hL.1 ?_
      rw [p1 m (by omega), hM.1]
      refine q_icmp_ge (tgt := 94) d_Model_move_20 rfl (fun hc => ?_) (fun hc => ?_)
      · rw [nI_leI (by omega) (by omega)] at hc
        omega
      refine q_aload_n d_Model_move_23 rfl rfl ?_
      refine q_getR (ci := 11) (fk := 19) d_Model_move_24 rfl (Nat.le_of_ble_eq_true rfl) w_1123 (fun _ _ => rfl) hL.1 (hL.2 19 _ _ _ rfl).1 ?_
      refine q_iload d_Model_move_27 rfl ?_
      refine q_iald d_Model_move_29 (hL.2 19 _ _ _ rfl).2 (by first | assumption | exact vp_in_nI (by omega) (by omega)) ?_
      rw [w1]
      refine q_iload_n d_Model_move_30 rfl rfl ?_
      refine q_iload_n d_Model_move_31 rfl rfl ?_
      refine q_callSi (M2 := M_Model_isIn) d_Model_move_32 ⟨(Nat.le_of_ble_eq_true rfl), (Nat.le_of_ble_eq_true rfl), w_1314, w_10, ⟨by decide, by decide⟩, show _ = some 3 by decide +kernel⟩ w_1312 w_1313 rfl (Nat.le_of_ble_eq_true rfl) (by omega) (by omega) (c_Model_isIn hfk h1) ?_
      rintro _ _ ⟨rfl, rfl⟩
      by_cases hin : l1 <+: f.1
      · rw [if_pos hin]
        have hmn : k_mn l1 l2 f.1 = l2 ++ f.1.drop l1.length := by unfold k_mn; rw [if_pos hin]
        rw [hmn] at hfn
        have hll := hin.length_le
        have hf4 := hfk.1
        have hdl : (f.1.drop l1.length).length = f.1.length - l1.length := List.length_drop
        have hfl := hfn.1
        rw [List.length_append, hdl] at hfl
        refine q_if_eq (tgt := 88) d_Model_move_35 rfl (fun hc => ?_) (fun hc => ?_)
        · exact absurd hc (by decide)
        have hst : ∀ (mcc msc : Nat) (v : Int32), mcc = 0 → msc = 0 → v = nI (k_path (f.1.drop l1.length)) → q_V g M_Model_move 0 0 mcc msc (sz, T, I2, R, J) (fun o h' => o = .inl none ∧ ∃ I' : q_I, h' = (sz, T, I', R, J) ∧ (∀ b, b ≠ m + 14 → I' b = I b) ∧ k_mw m (M.map (k_mf l1 l2)) I') 59 [some (.ref m), some (.int (nI (k_path l1))), some (.int (nI (k_path l2))), some (.int (nI l1.length)), some (.int (nI l2.length)), some (.int (nI k)), l6] [.int v] := by
          intro mcc msc v m1 m2 hv
          subst m1 m2 hv
          have t14 := (hL.2 19 _ _ _ rfl).2
          have put : ∀ (mcc msc : Nat) (v2 : Int32) (l6 : Option Value), mcc = 0 → msc = 0 → v2 = nI (k_path (l2 ++ f.1.drop l1.length)) → q_V g M_Model_move 0 0 mcc msc (sz, T, I2, R, J) (fun o h' => o = .inl none ∧ ∃ I' : q_I, h' = (sz, T, I', R, J) ∧ (∀ b, b ≠ m + 14 → I' b = I b) ∧ k_mw m (M.map (k_mf l1 l2)) I') 87 [some (.ref m), some (.int (nI (k_path l1))), some (.int (nI (k_path l2))), some (.int (nI l1.length)), some (.int (nI l2.length)), some (.int (nI k)), l6] [.int v2, .int (nI k), .ref (m + 14)] := by
            intro mcc msc v2 l6 m1 m2 hv2
            subst m1 m2 hv2
            refine q_iast d_Model_move_87 (hL.2 19 _ _ _ rfl).2 (by first | assumption | exact vp_in_nI (by omega) (by omega)) ?_
            refine next _ _ _ rfl rfl (fun b hb => by funext q; rw [q_upI_nea hb, p1 b hb]) ?_ _
            have h9 := p2.setp (I2 := q_upI I2 (m + 14) (nI k) (nI (k_path (l2 ++ f.1.drop l1.length)))) (l := l2 ++ f.1.drop l1.length) hcur (fun b hb => by funext q; rw [q_upI_nea hb]) q_upI_self (fun q hq hqk => q_upI_nk (by omega))
            rw [List.set_append_right _ _ (by omega), hlt, Nat.sub_self, hdr] at h9
            rw [htk, List.map_append, List.append_assoc]
            have e9 : (f :: M.drop (k + 1)).set 0 (l2 ++ f.1.drop l1.length, f.2) = [f].map (k_mf l1 l2) ++ M.drop (k + 1) := by
              show (l2 ++ f.1.drop l1.length, f.2) :: M.drop (k + 1) = k_mf l1 l2 f :: M.drop (k + 1)
              unfold k_mf
              rw [hmn]
            rw [e9] at h9
            exact h9
          by_cases he4 : l2.length = 4
          · have hnil : f.1.drop l1.length = [] := List.eq_nil_of_length_eq_zero (by omega)
            refine q_istore d_Model_move_59 (Nat.le_of_ble_eq_true rfl) (by first | exact q_ok0 | exact q_okI rfl | exact q_okR rfl | exact q_okN rfl) rfl ?_
            refine q_aload_n d_Model_move_61 rfl rfl ?_
            refine q_getR (ci := 11) (fk := 19) d_Model_move_62 rfl (Nat.le_of_ble_eq_true rfl) w_1123 (fun _ _ => rfl) hL.1 (hL.2 19 _ _ _ rfl).1 ?_
            refine q_iload d_Model_move_65 rfl ?_
            refine q_iload d_Model_move_67 rfl ?_
            refine q_iconst (v := nI 4) d_Model_move_69 (by decide) ?_
            refine q_icmp_ne (tgt := 77) d_Model_move_70 rfl (fun hc => ?_) (fun hc => ?_)
            · exact absurd (by rw [he4]) hc
            refine q_iload_n d_Model_move_73 rfl rfl ?_
            refine q_goto (tgt := 87) d_Model_move_74 rfl ?_
            exact put _ _ _ _ rfl rfl (by rw [hnil, List.append_nil])
          · refine q_istore d_Model_move_59 (Nat.le_of_ble_eq_true rfl) (by first | exact q_ok0 | exact q_okI rfl | exact q_okR rfl | exact q_okN rfl) rfl ?_
            refine q_aload_n d_Model_move_61 rfl rfl ?_
            refine q_getR (ci := 11) (fk := 19) d_Model_move_62 rfl (Nat.le_of_ble_eq_true rfl) w_1123 (fun _ _ => rfl) hL.1 (hL.2 19 _ _ _ rfl).1 ?_
            refine q_iload d_Model_move_65 rfl ?_
            refine q_iload d_Model_move_67 rfl ?_
            refine q_iconst (v := nI 4) d_Model_move_69 (by decide) ?_
            refine q_icmp_ne (tgt := 77) d_Model_move_70 rfl (fun hc => ?_) (fun hc => ?_)
            rotate_left
            · exact absurd ((nI_eq (by omega) (by omega)).mp (show nI l2.length = nI 4 by have := hc; exact this)) he4
            refine q_iload_n d_Model_move_77 rfl rfl ?_
            refine q_iload d_Model_move_78 rfl ?_
            refine q_bipush (v := nI 7) d_Model_move_80 (by decide) ?_
            refine q_iload d_Model_move_82 rfl ?_
            first | refine q_imulN d_Model_move_84 ?_ | refine q_imul d_Model_move_84 ?_
            refine q_ishl d_Model_move_85 ?_
            refine q_ior d_Model_move_86 ?_
            exact put _ _ _ _ rfl rfl (k_path_mv hfn (by omega))
        by_cases hd4 : l1.length = 4
        · have hnil : f.1.drop l1.length = [] := List.eq_nil_of_length_eq_zero (by omega)
          refine q_iload_n d_Model_move_38 rfl rfl ?_
          refine q_iconst (v := nI 4) d_Model_move_39 (by decide) ?_
          refine q_icmp_ne (tgt := 47) d_Model_move_40 rfl (fun hc => ?_) (fun hc => ?_)
          · exact absurd (by rw [hd4]) hc
          refine q_iconst (v := nI 0) d_Model_move_43 (by decide) ?_
          refine q_goto (tgt := 59) d_Model_move_44 rfl ?_
          exact hst _ _ _ rfl rfl (by rw [hnil]; rfl)
        · refine q_iload_n d_Model_move_38 rfl rfl ?_
          refine q_iconst (v := nI 4) d_Model_move_39 (by decide) ?_
          refine q_icmp_ne (tgt := 47) d_Model_move_40 rfl (fun hc => ?_) (fun hc => ?_)
          rotate_left
          · exact absurd ((nI_eq (by omega) (by omega)).mp (show nI l1.length = nI 4 by have := hc; exact this)) hd4
          refine q_aload_n d_Model_move_47 rfl rfl ?_
          refine q_getR (ci := 11) (fk := 19) d_Model_move_48 rfl (Nat.le_of_ble_eq_true rfl) w_1123 (fun _ _ => rfl) hL.1 (hL.2 19 _ _ _ rfl).1 ?_
          refine q_iload d_Model_move_51 rfl ?_
          refine q_iald d_Model_move_53 (hL.2 19 _ _ _ rfl).2 (by first | assumption | exact vp_in_nI (by omega) (by omega)) ?_
          rw [w1]
          refine q_bipush (v := nI 7) d_Model_move_54 (by decide) ?_
          refine q_iload_n d_Model_move_56 rfl rfl ?_
          first | refine q_imulN d_Model_move_57 ?_ | refine q_imul d_Model_move_57 ?_
          have h28 := k_p28 hfk
          refine q_ishr d_Model_move_58 ?_
          refine hst _ _ _ rfl rfl ?_
          rw [k_shr (by omega) (by omega), Nat.pow_mul, show (2 : Nat) ^ 7 = 128 from rfl, k_path_drop f.1 _ (k_le100 hfk)]
      · rw [if_neg hin]
        refine q_if_eq (tgt := 88) d_Model_move_35 rfl (fun hc => ?_) (fun hc => ?_)
        rotate_left
        · exact absurd rfl hc
        refine next I2 _ _ rfl rfl p1 ?_ _
        have : k_mf l1 l2 f = f := by unfold k_mf k_mn; rw [if_neg hin]
        rw [htk, List.map_append, List.append_assoc, show [f].map (k_mf l1 l2) = [f] by rw [List.map_cons, List.map_nil, this], List.singleton_append, ← hdr]
        exact p2
  refine q_C.of (ls0 := [some (.ref m), some (.int (nI (k_path l1))), some (.int (nI (k_path l2))), none, none, none, none]) (by decide) rfl (by decide) (Nat.le_of_ble_eq_true rfl) rfl ?_
  refine q_iload_n d_Model_move_0 rfl rfl ?_
  refine q_callSi (M2 := M_Model_depth) d_Model_move_1 ⟨(Nat.le_of_ble_eq_true rfl), (Nat.le_of_ble_eq_true rfl), w_1255, w_10, ⟨by decide, by decide⟩, show _ = some 1 by decide +kernel⟩ w_1253 w_1254 rfl (Nat.le_of_ble_eq_true rfl) (by omega) (by omega) (c_Model_depth _) ?_
  rintro _ _ ⟨rfl, rfl⟩
  rw [k_of_path h1, show p_dep 0 (some l1) = nI (0 + l1.length) from rfl, Nat.zero_add (l1.length)]
  refine q_istore_n d_Model_move_4 rfl (Nat.le_of_ble_eq_true rfl) (by first | exact q_ok0 | exact q_okI rfl | exact q_okR rfl | exact q_okN rfl) rfl ?_
  refine q_iload_n d_Model_move_5 rfl rfl ?_
  refine q_callSi (M2 := M_Model_depth) d_Model_move_6 ⟨(Nat.le_of_ble_eq_true rfl), (Nat.le_of_ble_eq_true rfl), w_1255, w_10, ⟨by decide, by decide⟩, show _ = some 1 by decide +kernel⟩ w_1253 w_1254 rfl (Nat.le_of_ble_eq_true rfl) (by omega) (by omega) (c_Model_depth _) ?_
  rintro _ _ ⟨rfl, rfl⟩
  rw [k_of_path h2, show p_dep 0 (some l2) = nI (0 + l2.length) from rfl, Nat.zero_add (l2.length)]
  refine q_istore d_Model_move_9 (Nat.le_of_ble_eq_true rfl) (by first | exact q_ok0 | exact q_okI rfl | exact q_okR rfl | exact q_okN rfl) rfl ?_
  refine q_iconst (v := nI 0) d_Model_move_11 (by decide) ?_
  refine q_istore d_Model_move_12 (Nat.le_of_ble_eq_true rfl) (by first | exact q_ok0 | exact q_okI rfl | exact q_okR rfl | exact q_okN rfl) rfl ?_
  exact loop M.length 0 I _ _ rfl rfl (by omega) (fun b hb => rfl) (by rw [List.take_zero, List.map_nil, List.nil_append, List.drop_zero]; exact hM) _
end MBits
